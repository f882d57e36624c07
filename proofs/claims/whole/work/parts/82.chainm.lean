/-! CHAIN: the model's small methods -/
theorem sub_sg {p q : Nat} (hp : p < 1000000) (hq : q < 1000000) : ((Int32.ofNat p - Int32.ofNat q < 0) = (p < q)) ∧ ((Int32.ofNat p - Int32.ofNat q = 0) = (p = q)) := by
  have e : (Int32.ofNat p - Int32.ofNat q).toInt = (p : Int) - q := by
    rw [Int32.toInt_sub, nu_int (by omega), nu_int (by omega)]
    exact Int.bmod_eq_of_le (by omega) (by omega)
  have z : (0 : Int32).toInt = 0 := by decide
  constructor
  · apply propext
    rw [Int32.lt_iff_toInt_lt, e, z]
    omega
  · apply propext
    rw [← Int32.toInt_inj, e, z]
    omega
section CM
variable {n d a b T c s t z o w m p lev k side ap b0 b1 h0 h1 md C F B pg po u hi f0 gg mm ff oo hh : Nat} {I J K M : Nat → Nat → Int32} {L : Nat → Nat → Int64} {R : Nat → Nat → Option Nat} {nc ns : Nat} {nx : Bool} {x y j v lv hw0 what ah num hw came beh : Int32} {h : ip_H} {f g std rst V W : Nat → Nat} {win : Nat → Bool} {br fl : Nat → Int32}
def setI (a b : Nat) : Int32 := if pop a = pop b then Int32.ofNat a - Int32.ofNat b else Int32.ofNat (pop a) - Int32.ofNat (pop b)
theorem c257 (ha : a < 256) (hb : b < 256) : cf (d + 1) 257 [.int (Int32.ofNat a), .int (Int32.ofNat b)] h = some (.inl (some (.int (setI a b))), h) := by
  have p1 := pop_le a ha
  have p2 := pop_le b hb
  have e : (Int32.ofNat (pop a) = Int32.ofNat (pop b)) = (pop a = pop b) := nu_eq (by omega) (by omega)
  unfold setI
  by_cases g : pop a = pop b
  · simp only [en257, e257_0, e257_1, e257_4, e257_5, e257_8, e257_11, e257_12, e257_15, e257_16, e257_19, e257_20, e257_23, e257_24, e257_25, e257_26, rk_n, rk_v, nl_n, nl_i, nl_r, cat_n, ip_cat_int, ip_cat_ref, ip_cat_long, ip_rf_some, Nat.reduceAdd, Nat.reduceLeDiff, Nat.reduceLT, Nat.le_refl, Nat.zero_le, c226 ha, c226 hb, g, Bool.false_eq_true, Bool.true_eq_false, if_true, if_false, not_true_eq_false, not_false_eq_true, zle, eq_self]
  · simp only [en257, e257_0, e257_1, e257_4, e257_5, e257_8, e257_11, e257_12, e257_15, e257_16, e257_19, e257_20, e257_23, e257_24, e257_25, e257_26, rk_n, rk_v, nl_n, nl_i, nl_r, cat_n, ip_cat_int, ip_cat_ref, ip_cat_long, ip_rf_some, Nat.reduceAdd, Nat.reduceLeDiff, Nat.reduceLT, Nat.le_refl, Nat.zero_le, c226 ha, c226 hb, e, g, Bool.false_eq_true, Bool.true_eq_false, if_true, if_false, not_true_eq_false, not_false_eq_true, zle, eq_self]
theorem setI_sg (ha : a < 256) (hb : b < 256) : ((setI a b < 0) = (kf a < kf b)) ∧ ((setI a b = 0) = (a = b)) := by
  have p1 := pop_le a ha
  have p2 := pop_le b hb
  unfold setI kf
  by_cases g : pop a = pop b
  · rw [if_pos g]
    obtain ⟨h1, h2⟩ := sub_sg (p := a) (q := b) (by omega) (by omega)
    rw [h1, h2]
    constructor
    · apply propext; omega
    · rfl
  · rw [if_neg g]
    obtain ⟨h1, h2⟩ := sub_sg (p := pop a) (q := pop b) (by omega) (by omega)
    rw [h1, h2]
    constructor
    · apply propext; omega
    · apply propext
      constructor
      · intro e; exact absurd e g
      · intro e; rw [e]
def trI (I : Nat → Nat → Int32) (g m f : Nat) (s : Int32) : Nat → Nat → Int32 := ip_up (ip_up (ip_up (ip_up I 265 65 (Int32.ofNat g)) 265 66 (Int32.ofNat m)) 265 67 (Int32.ofNat f)) 265 68 s
theorem c256a (e5 : I 265 65 = -1) (lg : gg ≤ 2) : cf (d + 2) 256 [.ref 265, .int (Int32.ofNat gg), .int (Int32.ofNat mm), .int (Int32.ofNat ff), .int x] (SH n, I, L, R, nc, ns, nx) = some (.inl none, (SH n, trI I gg mm ff x, L, R, nc, ns, nx)) := by
  have q1 : ∀ g, g < 3 → ((-1 : Int32) - Int32.ofNat g = 0) = False ∧ ((-1 : Int32) - Int32.ofNat g < 0) = True := by
    intro g hg
    have : g = 0 ∨ g = 1 ∨ g = 2 := by omega
    rcases this with rfl | rfl | rfl <;> exact ⟨eq_false (by decide), eq_true (by decide)⟩
  obtain ⟨h1, h2⟩ := q1 gg (by omega)
  simp only [en256, e256_0, e256_1, e256_4, e256_5, e256_6, e256_8, e256_10, e256_13, e256_14, e256_15, e256_18, e256_19, e256_21, e256_23, e256_26, e256_27, e256_28, e256_31, e256_34, e256_36, e256_38, e256_41, e256_42, e256_43, e256_46, e256_48, e256_49, e256_52, e256_55, e256_57, e256_59, e256_62, e256_63, e256_64, e256_65, e256_68, e256_69, e256_70, e256_73, e256_74, e256_75, e256_78, e256_79, e256_81, e256_84, rk_n, rk_v, nl_n, nl_i, nl_r, cat_n, ip_cat_int, ip_cat_ref, ip_cat_long, ip_rf_some, Nat.reduceAdd, Nat.reduceLeDiff, Nat.reduceLT, Nat.le_refl, Nat.zero_le, e5, h1, h2, Bool.false_eq_true, Bool.true_eq_false, if_true, if_false, not_true_eq_false, not_false_eq_true, zle, eq_self]
  rfl
theorem c256 {g1 m1 f1 o1 : Nat} (e5 : I 265 65 = Int32.ofNat g1) (e6 : I 265 66 = Int32.ofNat m1) (e7 : I 265 67 = Int32.ofNat f1) (e8 : I 265 68 = sec2 m1 o1) (lg1 : g1 ≤ 2) (lm1 : m1 = 1 ∨ m1 = 2) (lf1 : f1 < 256) (lo1 : o1 < 256) (lg : gg ≤ 2) (lm : mm = 1 ∨ mm = 2) (lf : ff < 256) (lo : oo < 256) :
    cf (d + 2) 256 [.ref 265, .int (Int32.ofNat gg), .int (Int32.ofNat mm), .int (Int32.ofNat ff), .int (sec2 mm oo)] (SH n, I, L, R, nc, ns, nx) = some (.inl none, (SH n, (if g1 < gg ∨ (g1 = gg ∧ (mm < m1 ∨ (mm = m1 ∧ (kf ff < kf f1 ∨ (ff = f1 ∧ mm = 2 ∧ kf oo < kf o1))))) then trI I gg mm ff (sec2 mm oo) else I), L, R, nc, ns, nx)) := by
  obtain ⟨s1, s2⟩ := sub_sg (p := g1) (q := gg) (by omega) (by omega)
  obtain ⟨t1, t2⟩ := sub_sg (p := mm) (q := m1) (by omega) (by omega)
  obtain ⟨u1, u2⟩ := setI_sg lf lf1
  obtain ⟨v1, v2⟩ := setI_sg lo lo1
  have m2 : (Int32.ofNat mm = 2) = (mm = 2) := nu_eq (k := 2) (by omega) (by omega)
  by_cases q1 : g1 = gg
  · by_cases q2 : mm = m1
    · by_cases q3 : ff = f1
      · subst q1; subst q2; subst q3
        have f0 : setI ff ff = 0 := (setI_sg lf lf).2.mpr rfl
        by_cases q4 : mm = 2
        · have e9 : sec2 mm oo = Int32.ofNat oo := by unfold sec2; rw [if_neg (by omega)]
          have e10 : I 265 68 = Int32.ofNat o1 := by rw [e8]; unfold sec2; rw [if_neg (by omega)]
          rw [e9]
          have mq : (Int32.ofNat mm = 2) = True := m2.trans (eq_true q4)
          by_cases q5 : kf oo < kf o1
          · rw [if_pos (by omega)]
            simp only [en256, e256_0, e256_1, e256_4, e256_5, e256_6, e256_8, e256_10, e256_13, e256_14, e256_15, e256_18, e256_19, e256_21, e256_23, e256_26, e256_27, e256_28, e256_31, e256_34, e256_36, e256_38, e256_41, e256_42, e256_43, e256_46, e256_48, e256_49, e256_52, e256_55, e256_57, e256_59, e256_62, e256_63, e256_64, e256_65, e256_68, e256_69, e256_70, e256_73, e256_74, e256_75, e256_78, e256_79, e256_81, e256_84, rk_n, rk_v, nl_n, nl_i, nl_r, cat_n, ip_cat_int, ip_cat_ref, ip_cat_long, ip_rf_some, Nat.reduceAdd, Nat.reduceLeDiff, Nat.reduceLT, Nat.le_refl, Nat.zero_le, e5, e6, e7, e10, Int32.sub_self, c257 lf lf, f0, mq, c257 lo lo1, v1, q5, Bool.false_eq_true, Bool.true_eq_false, if_true, if_false, not_true_eq_false, not_false_eq_true, zle, eq_self]
            rfl
          · rw [if_neg (by omega)]
            simp only [en256, e256_0, e256_1, e256_4, e256_5, e256_6, e256_8, e256_10, e256_13, e256_14, e256_15, e256_18, e256_19, e256_21, e256_23, e256_26, e256_27, e256_28, e256_31, e256_34, e256_36, e256_38, e256_41, e256_42, e256_43, e256_46, e256_48, e256_49, e256_52, e256_55, e256_57, e256_59, e256_62, e256_63, e256_64, e256_65, e256_68, e256_69, e256_70, e256_73, e256_74, e256_75, e256_78, e256_79, e256_81, e256_84, rk_n, rk_v, nl_n, nl_i, nl_r, cat_n, ip_cat_int, ip_cat_ref, ip_cat_long, ip_rf_some, Nat.reduceAdd, Nat.reduceLeDiff, Nat.reduceLT, Nat.le_refl, Nat.zero_le, e5, e6, e7, e10, Int32.sub_self, c257 lf lf, f0, mq, c257 lo lo1, v1, q5, Bool.false_eq_true, Bool.true_eq_false, if_true, if_false, not_true_eq_false, not_false_eq_true, zle, eq_self]
        · rw [if_neg (by omega)]
          simp only [en256, e256_0, e256_1, e256_4, e256_5, e256_6, e256_8, e256_10, e256_13, e256_14, e256_15, e256_18, e256_19, e256_21, e256_23, e256_26, e256_27, e256_28, e256_31, e256_34, e256_36, e256_38, e256_41, e256_42, e256_43, e256_46, e256_48, e256_49, e256_52, e256_55, e256_57, e256_59, e256_62, e256_63, e256_64, e256_65, e256_68, e256_69, e256_70, e256_73, e256_74, e256_75, e256_78, e256_79, e256_81, e256_84, rk_n, rk_v, nl_n, nl_i, nl_r, cat_n, ip_cat_int, ip_cat_ref, ip_cat_long, ip_rf_some, Nat.reduceAdd, Nat.reduceLeDiff, Nat.reduceLT, Nat.le_refl, Nat.zero_le, e5, e6, e7, Int32.sub_self, c257 lf lf, f0, m2, q4, Bool.false_eq_true, Bool.true_eq_false, if_true, if_false, not_true_eq_false, not_false_eq_true, zle, eq_self, Int32.lt_irrefl]
      · by_cases q5 : kf ff < kf f1
        · rw [if_pos (by omega)]
          subst q1; subst q2
          simp only [en256, e256_0, e256_1, e256_4, e256_5, e256_6, e256_8, e256_10, e256_13, e256_14, e256_15, e256_18, e256_19, e256_21, e256_23, e256_26, e256_27, e256_28, e256_31, e256_34, e256_36, e256_38, e256_41, e256_42, e256_43, e256_46, e256_48, e256_49, e256_52, e256_55, e256_57, e256_59, e256_62, e256_63, e256_64, e256_65, e256_68, e256_69, e256_70, e256_73, e256_74, e256_75, e256_78, e256_79, e256_81, e256_84, rk_n, rk_v, nl_n, nl_i, nl_r, cat_n, ip_cat_int, ip_cat_ref, ip_cat_long, ip_rf_some, Nat.reduceAdd, Nat.reduceLeDiff, Nat.reduceLT, Nat.le_refl, Nat.zero_le, e5, e6, e7, Int32.sub_self, c257 lf lf1, u2, u1, q3, q5, Bool.false_eq_true, Bool.true_eq_false, if_true, if_false, not_true_eq_false, not_false_eq_true, zle, eq_self]
          rfl
        · rw [if_neg (by omega)]
          subst q1; subst q2
          simp only [en256, e256_0, e256_1, e256_4, e256_5, e256_6, e256_8, e256_10, e256_13, e256_14, e256_15, e256_18, e256_19, e256_21, e256_23, e256_26, e256_27, e256_28, e256_31, e256_34, e256_36, e256_38, e256_41, e256_42, e256_43, e256_46, e256_48, e256_49, e256_52, e256_55, e256_57, e256_59, e256_62, e256_63, e256_64, e256_65, e256_68, e256_69, e256_70, e256_73, e256_74, e256_75, e256_78, e256_79, e256_81, e256_84, rk_n, rk_v, nl_n, nl_i, nl_r, cat_n, ip_cat_int, ip_cat_ref, ip_cat_long, ip_rf_some, Nat.reduceAdd, Nat.reduceLeDiff, Nat.reduceLT, Nat.le_refl, Nat.zero_le, e5, e6, e7, Int32.sub_self, c257 lf lf1, u2, u1, q3, q5, Bool.false_eq_true, Bool.true_eq_false, if_true, if_false, not_true_eq_false, not_false_eq_true, zle, eq_self]
    · by_cases q5 : mm < m1
      · rw [if_pos (by omega)]
        subst q1
        simp only [en256, e256_0, e256_1, e256_4, e256_5, e256_6, e256_8, e256_10, e256_13, e256_14, e256_15, e256_18, e256_19, e256_21, e256_23, e256_26, e256_27, e256_28, e256_31, e256_34, e256_36, e256_38, e256_41, e256_42, e256_43, e256_46, e256_48, e256_49, e256_52, e256_55, e256_57, e256_59, e256_62, e256_63, e256_64, e256_65, e256_68, e256_69, e256_70, e256_73, e256_74, e256_75, e256_78, e256_79, e256_81, e256_84, rk_n, rk_v, nl_n, nl_i, nl_r, cat_n, ip_cat_int, ip_cat_ref, ip_cat_long, ip_rf_some, Nat.reduceAdd, Nat.reduceLeDiff, Nat.reduceLT, Nat.le_refl, Nat.zero_le, e5, e6, Int32.sub_self, t2, t1, q2, q5, Bool.false_eq_true, Bool.true_eq_false, if_true, if_false, not_true_eq_false, not_false_eq_true, zle, eq_self]
        rfl
      · rw [if_neg (by omega)]
        subst q1
        simp only [en256, e256_0, e256_1, e256_4, e256_5, e256_6, e256_8, e256_10, e256_13, e256_14, e256_15, e256_18, e256_19, e256_21, e256_23, e256_26, e256_27, e256_28, e256_31, e256_34, e256_36, e256_38, e256_41, e256_42, e256_43, e256_46, e256_48, e256_49, e256_52, e256_55, e256_57, e256_59, e256_62, e256_63, e256_64, e256_65, e256_68, e256_69, e256_70, e256_73, e256_74, e256_75, e256_78, e256_79, e256_81, e256_84, rk_n, rk_v, nl_n, nl_i, nl_r, cat_n, ip_cat_int, ip_cat_ref, ip_cat_long, ip_rf_some, Nat.reduceAdd, Nat.reduceLeDiff, Nat.reduceLT, Nat.le_refl, Nat.zero_le, e5, e6, Int32.sub_self, t2, t1, q2, q5, Bool.false_eq_true, Bool.true_eq_false, if_true, if_false, not_true_eq_false, not_false_eq_true, zle, eq_self]
  · by_cases q5 : g1 < gg
    · rw [if_pos (by omega)]
      simp only [en256, e256_0, e256_1, e256_4, e256_5, e256_6, e256_8, e256_10, e256_13, e256_14, e256_15, e256_18, e256_19, e256_21, e256_23, e256_26, e256_27, e256_28, e256_31, e256_34, e256_36, e256_38, e256_41, e256_42, e256_43, e256_46, e256_48, e256_49, e256_52, e256_55, e256_57, e256_59, e256_62, e256_63, e256_64, e256_65, e256_68, e256_69, e256_70, e256_73, e256_74, e256_75, e256_78, e256_79, e256_81, e256_84, rk_n, rk_v, nl_n, nl_i, nl_r, cat_n, ip_cat_int, ip_cat_ref, ip_cat_long, ip_rf_some, Nat.reduceAdd, Nat.reduceLeDiff, Nat.reduceLT, Nat.le_refl, Nat.zero_le, e5, s2, s1, q1, q5, Bool.false_eq_true, Bool.true_eq_false, if_true, if_false, not_true_eq_false, not_false_eq_true, zle, eq_self]
      rfl
    · rw [if_neg (by omega)]
      simp only [en256, e256_0, e256_1, e256_4, e256_5, e256_6, e256_8, e256_10, e256_13, e256_14, e256_15, e256_18, e256_19, e256_21, e256_23, e256_26, e256_27, e256_28, e256_31, e256_34, e256_36, e256_38, e256_41, e256_42, e256_43, e256_46, e256_48, e256_49, e256_52, e256_55, e256_57, e256_59, e256_62, e256_63, e256_64, e256_65, e256_68, e256_69, e256_70, e256_73, e256_74, e256_75, e256_78, e256_79, e256_81, e256_84, rk_n, rk_v, nl_n, nl_i, nl_r, cat_n, ip_cat_int, ip_cat_ref, ip_cat_long, ip_rf_some, Nat.reduceAdd, Nat.reduceLeDiff, Nat.reduceLT, Nat.le_refl, Nat.zero_le, e5, s2, s1, q1, q5, Bool.false_eq_true, Bool.true_eq_false, if_true, if_false, not_true_eq_false, not_false_eq_true, zle, eq_self]
theorem c238g {lev' : Nat} (hR : LYR R) (X : MTx c std rst br win I) (M : MNd w p lev' V fl I) (hl : lev = 1 ∨ lev = 2) (hs : s < 256) : cf (d + 1) 238 [.ref 265, .int (Int32.ofNat s), .int (Int32.ofNat lev)] (SH n, I, L, R, nc, ns, nx) = some (.inl (some (.int (Int32.ofNat (errN c std rst br win V fl lev s)))), (SH n, I, L, R, nc, ns, nx)) := by
  obtain ⟨hc8, hc, hst, -, hbr, -⟩ := X
  obtain ⟨hw, m1, v8, -, -, -, -, -, -, mf, -⟩ := M
  have lc := lt8 hc8
  simp only [en238, e238_0, e238_1, e238_2, e238_3, e238_7, e238_8, e238_11, e238_14, e238_15, e238_17, e238_20, e238_23, e238_24, e238_27, e238_29, e238_30, e238_33, e238_34, e238_36, e238_37, e238_38, e238_39, e238_42, e238_43, e238_44, e238_45, e238_46, e238_47, e238_48, e238_51, e238_53, e238_54, e238_55, e238_56, e238_59, e238_60, e238_61, e238_63, e238_64, e238_65, e238_66, e238_69, e238_72, e238_73, rk_n, rk_v, nl_n, nl_i, nl_r, cat_n, ip_cat_int, ip_cat_ref, ip_cat_long, ip_rf_some, Nat.reduceAdd, Nat.reduceLeDiff, Nat.reduceLT, Nat.le_refl, Nat.zero_le]
  refine (for_eq (c := c) (fun k => rf (d + 1) 238 5 [some (.ref 265), some (.int (Int32.ofNat s)), some (.int (Int32.ofNat lev)), some (.int (Int32.ofNat (setN (fun k => s.testBit k && !decide (fl k < br (3 * lev - 3 + std k))) k))), some (.int (Int32.ofNat k))] [] (SH n, I, L, R, nc, ns, nx)) ?_).trans ?_
  · intro k hk
    try dsimp only
    have lk : k < 2147483648 := by omega
    have g1 : ¬ c ≤ k := by omega
    have k8 : k < 8 := by omega
    obtain ⟨s1, s2⟩ := hst k hk
    have b6 : 3 * lev - 3 + std k < 6 := by omega
    have lb : 3 * lev - 3 + std k < 2147483648 := by omega
    have l0 : 0 < lev := by omega
    have lf : 8 * w + k < 2147483648 := by omega
    have bf : 8 * w + k < 320 := by omega
    have f1 := mf k k8
    have r1 := hbr _ b6
    rw [e238_5, setN]
    by_cases g2 : s.testBit k = true
    · by_cases g3 : fl k < br (3 * lev - 3 + std k)
      · simp only [e238_0, e238_1, e238_2, e238_3, e238_7, e238_8, e238_11, e238_14, e238_15, e238_17, e238_20, e238_23, e238_24, e238_27, e238_29, e238_30, e238_33, e238_34, e238_36, e238_37, e238_38, e238_39, e238_42, e238_43, e238_44, e238_45, e238_46, e238_47, e238_48, e238_51, e238_53, e238_54, e238_55, e238_56, e238_59, e238_60, e238_61, e238_63, e238_64, e238_65, e238_66, e238_69, e238_72, e238_73, rk_n, rk_v, nl_n, nl_i, nl_r, cat_n, ip_cat_int, ip_cat_ref, ip_cat_long, ip_rf_some, Nat.reduceAdd, Nat.reduceLeDiff, Nat.reduceLT, Nat.le_refl, Nat.zero_le, hR, hc, m1, ia_lit, nu_i, nu_tn, nu_ge, lk, lc, g1, k8, hs, hasB, lb, b6, lf, bf, f1, r1, s1, mu8, mu3 l0, nu_add, g2, g3, nu_1, decide_true, Bool.not_true, Bool.and_false, ite_0, Bool.false_eq_true, Bool.true_eq_false, if_true, if_false, not_true_eq_false, not_false_eq_true, zle, eq_self]
      · simp only [e238_0, e238_1, e238_2, e238_3, e238_7, e238_8, e238_11, e238_14, e238_15, e238_17, e238_20, e238_23, e238_24, e238_27, e238_29, e238_30, e238_33, e238_34, e238_36, e238_37, e238_38, e238_39, e238_42, e238_43, e238_44, e238_45, e238_46, e238_47, e238_48, e238_51, e238_53, e238_54, e238_55, e238_56, e238_59, e238_60, e238_61, e238_63, e238_64, e238_65, e238_66, e238_69, e238_72, e238_73, rk_n, rk_v, nl_n, nl_i, nl_r, cat_n, ip_cat_int, ip_cat_ref, ip_cat_long, ip_rf_some, Nat.reduceAdd, Nat.reduceLeDiff, Nat.reduceLT, Nat.le_refl, Nat.zero_le, hR, hc, m1, ia_lit, nu_i, nu_tn, nu_ge, lk, lc, g1, k8, hs, hasB, lb, b6, lf, bf, f1, r1, s1, mu8, mu3 l0, nu_add, g2, g3, sh1, of_or, nu_1, decide_false, Bool.not_false, Bool.and_true, ite_0, Bool.false_eq_true, Bool.true_eq_false, if_true, if_false, not_true_eq_false, not_false_eq_true, zle, eq_self]
    · simp only [e238_0, e238_1, e238_2, e238_3, e238_7, e238_8, e238_11, e238_14, e238_15, e238_17, e238_20, e238_23, e238_24, e238_27, e238_29, e238_30, e238_33, e238_34, e238_36, e238_37, e238_38, e238_39, e238_42, e238_43, e238_44, e238_45, e238_46, e238_47, e238_48, e238_51, e238_53, e238_54, e238_55, e238_56, e238_59, e238_60, e238_61, e238_63, e238_64, e238_65, e238_66, e238_69, e238_72, e238_73, rk_n, rk_v, nl_n, nl_i, nl_r, cat_n, ip_cat_int, ip_cat_ref, ip_cat_long, ip_rf_some, Nat.reduceAdd, Nat.reduceLeDiff, Nat.reduceLT, Nat.le_refl, Nat.zero_le, hR, hc, nu_ge, lk, lc, g1, k8, hs, hasB, g2, nu_1, Bool.false_and, ite_0, Bool.false_eq_true, Bool.true_eq_false, if_true, if_false, not_true_eq_false, not_false_eq_true, zle, eq_self]
  · rw [e238_5]
    simp only [e238_0, e238_1, e238_2, e238_3, e238_7, e238_8, e238_11, e238_14, e238_15, e238_17, e238_20, e238_23, e238_24, e238_27, e238_29, e238_30, e238_33, e238_34, e238_36, e238_37, e238_38, e238_39, e238_42, e238_43, e238_44, e238_45, e238_46, e238_47, e238_48, e238_51, e238_53, e238_54, e238_55, e238_56, e238_59, e238_60, e238_61, e238_63, e238_64, e238_65, e238_66, e238_69, e238_72, e238_73, rk_n, rk_v, nl_n, nl_i, nl_r, cat_n, ip_cat_int, ip_cat_ref, ip_cat_long, ip_rf_some, Nat.reduceAdd, Nat.reduceLeDiff, Nat.reduceLT, Nat.le_refl, Nat.zero_le, hc, Int32.le_refl, errN, Bool.false_eq_true, Bool.true_eq_false, if_true, if_false, not_true_eq_false, not_false_eq_true, zle, eq_self]
theorem c258 (hR : LYR R) (X : MTx c std rst br win I) (M : MNd w p lev V fl I) (a2 : ap < 2) (e9 : I 265 59 = Int32.ofNat ap) (hs : s < 256) (hh8 : hh < 256) : ∃ l5 l6 l7 : Option Value, ip_nl l5 = ip_nl l5 ∧ cf (d + 2) 258 [.ref 265, .int (Int32.ofNat s), .int (Int32.ofNat hh)] (SH n, I, L, R, nc, ns, nx) = some (.inl (some (.int (Int32.ofNat (setN (fun k => E2b V fl ap s hh k) c)))), (SH n, I, L, R, nc, ns, nx)) := by
  obtain ⟨hc8, hc, -, -, -, -⟩ := X
  obtain ⟨hw, m1, v8, m6, m4, m7, m8, m10, mb, mf, mp⟩ := M
  have lc := lt8 hc8
  have lw : w < 2147483648 := by omega
  obtain ⟨-, mk⟩ := mb ap a2
  have la : 2 * w + ap < 2147483648 := by omega
  have ba : 2 * w + ap < 80 := by omega
  refine ⟨none, none, none, rfl, ?_⟩
  simp only [en258, e258_0, e258_1, e258_2, e258_3, e258_7, e258_8, e258_11, e258_14, e258_15, e258_16, e258_19, e258_21, e258_22, e258_25, e258_28, e258_31, e258_34, e258_35, e258_38, e258_40, e258_41, e258_44, e258_45, e258_47, e258_48, e258_49, e258_51, e258_52, e258_55, e258_56, e258_59, e258_60, e258_62, e258_65, e258_68, e258_69, e258_72, e258_73, e258_76, e258_77, e258_78, e258_79, e258_80, e258_81, e258_83, e258_86, e258_89, e258_91, e258_93, e258_96, e258_97, e258_100, e258_101, e258_103, e258_104, e258_107, e258_108, e258_109, e258_112, e258_113, e258_114, e258_117, e258_118, e258_119, e258_121, e258_124, e258_127, e258_128, e258_130, e258_133, e258_136, e258_138, e258_140, e258_143, e258_144, e258_147, e258_148, e258_150, e258_151, e258_153, e258_156, e258_158, e258_161, e258_162, e258_164, e258_165, e258_168, e258_169, e258_170, e258_171, e258_174, e258_177, e258_178, rk_n, rk_v, nl_n, nl_i, nl_r, cat_n, ip_cat_int, ip_cat_ref, ip_cat_long, ip_rf_some, Nat.reduceAdd, Nat.reduceLeDiff, Nat.reduceLT, Nat.le_refl, Nat.zero_le]
  refine Exists.elim (for_ex (c := c) (fun k (x : Option Value × Option Value × Option Value) => rf (d + 2) 258 5 [some (.ref 265), some (.int (Int32.ofNat s)), some (.int (Int32.ofNat hh)), some (.int (Int32.ofNat (setN (fun k => E2b V fl ap s hh k) k))), some (.int (Int32.ofNat k)), x.1, x.2.1, x.2.2] [] (SH n, I, L, R, nc, ns, nx)) (fun k x => ip_nl x.1 = true ∧ ip_nl x.2.1 = true ∧ ip_nl x.2.2 = true) ?_ (none, none, none) ⟨nl_n, nl_n, nl_n⟩) ?_
  · rintro k ⟨l5, l6, l7⟩ hk ⟨n5, n6, n7⟩
    dsimp only at n5 n6 n7 ⊢
    have lk : k < 2147483648 := by omega
    have g1 : ¬ c ≤ k := by omega
    have k8 : k < 8 := by omega
    have lf : 8 * w + k < 2147483648 := by omega
    have bf : 8 * w + k < 320 := by omega
    have f1 := mf k k8
    have C := c228 (d := d) (n := n) (L := L) (nc := nc) (ns := ns) (nx := nx) hR hw m6 m4 v8 k8 a2
    have a8 := of_andn _ (v8 8) _ hh8
    have b8 : V 8 &&& (255 ^^^ hh) < 256 := andn_lt (v8 8)
    have t8 : (V 8 &&& (255 ^^^ hh)).testBit k = ((V 8).testBit k && !hh.testBit k) := by rw [Nat.testBit_and, tbn, decide_eq_true k8, Bool.true_xor]
    cases ha : agN V k ap with
    | false =>
      have eb : E2b V fl ap s hh k = false := by unfold E2b; rw [ha]; rfl
      rw [ha] at C
      refine ⟨(l5, l6, l7), ⟨n5, n6, n7⟩, ?_⟩
      rw [e258_5, setN, eb]
      simp only [e258_0, e258_1, e258_2, e258_3, e258_7, e258_8, e258_11, e258_14, e258_15, e258_16, e258_19, e258_21, e258_22, e258_25, e258_28, e258_31, e258_34, e258_35, e258_38, e258_40, e258_41, e258_44, e258_45, e258_47, e258_48, e258_49, e258_51, e258_52, e258_55, e258_56, e258_59, e258_60, e258_62, e258_65, e258_68, e258_69, e258_72, e258_73, e258_76, e258_77, e258_78, e258_79, e258_80, e258_81, e258_83, e258_86, e258_89, e258_91, e258_93, e258_96, e258_97, e258_100, e258_101, e258_103, e258_104, e258_107, e258_108, e258_109, e258_112, e258_113, e258_114, e258_117, e258_118, e258_119, e258_121, e258_124, e258_127, e258_128, e258_130, e258_133, e258_136, e258_138, e258_140, e258_143, e258_144, e258_147, e258_148, e258_150, e258_151, e258_153, e258_156, e258_158, e258_161, e258_162, e258_164, e258_165, e258_168, e258_169, e258_170, e258_171, e258_174, e258_177, e258_178, rk_n, rk_v, nl_n, nl_i, nl_r, cat_n, ip_cat_int, ip_cat_ref, ip_cat_long, ip_rf_some, Nat.reduceAdd, Nat.reduceLeDiff, Nat.reduceLT, Nat.le_refl, Nat.zero_le, hR, hc, m1, nu_ge, lk, lc, g1, e9, C, n5, n6, n7, nu_1, Bool.false_eq_true, Bool.true_eq_false, if_true, if_false, not_true_eq_false, not_false_eq_true, zle, eq_self]
    | true =>
      rw [ha] at C
      have front : rf (d + 2) 258 5 [some (.ref 265), some (.int (Int32.ofNat s)), some (.int (Int32.ofNat hh)), some (.int (Int32.ofNat (setN (fun k => E2b V fl ap s hh k) k))), some (.int (Int32.ofNat k)), l5, l6, l7] [] (SH n, I, L, R, nc, ns, nx) = rf (d + 2) 258 103 [some (.ref 265), some (.int (Int32.ofNat s)), some (.int (Int32.ofNat hh)), some (.int (Int32.ofNat (setN (fun k => E2b V fl ap s hh k) k))), some (.int (Int32.ofNat k)), some (.int (fl k)), some (.int (if (!(V 7).testBit k || ((V 8).testBit k && !hh.testBit k) || decide (fl k = 9)) = true then 1 else 0)), l7] [] (SH n, I, L, R, nc, ns, nx) := by
        rw [e258_5]
        simp only [e258_7, e258_8, e258_11, e258_14, e258_15, e258_16, e258_19, e258_21, e258_22, e258_25, e258_28, e258_34, e258_35, e258_38, e258_40, e258_41, e258_44, e258_45, e258_47, e258_48, e258_49, e258_51, e258_52, e258_55, e258_56, e258_59, e258_60, e258_62, e258_65, e258_68, e258_69, e258_72, e258_73, e258_76, e258_77, e258_78, e258_79, e258_80, e258_81, e258_83, e258_86, e258_89, e258_91, e258_93, e258_96, e258_97, e258_100, e258_101, rk_n, rk_v, nl_n, nl_i, nl_r, cat_n, ip_cat_int, ip_cat_ref, ip_cat_long, ip_rf_some, Nat.reduceAdd, Nat.reduceLeDiff, Nat.reduceLT, Nat.le_refl, Nat.zero_le, hR, hc, ia_lit, nu_i, nu_tn, lw, hw, lf, bf, m1, m7, m8, nu_ge, lk, lc, g1, e9, C, mu8, nu_add, f1, hasB (v8 7) k8, a8, hasB b8 k8, t8, ite_0, n5, n6, n7, Bool.false_eq_true, Bool.true_eq_false, if_true, if_false, not_true_eq_false, not_false_eq_true, zle, eq_self]
        cases (V 7).testBit k <;> cases (V 8).testBit k <;> cases hh.testBit k <;> by_cases g9 : fl k = 9 <;> simp only [g9, Bool.false_eq_true, Bool.true_eq_false, if_true, if_false, not_true_eq_false, not_false_eq_true, zle, eq_self, Bool.not_true, Bool.not_false, Bool.and_true, Bool.true_and, Bool.and_false, Bool.false_and, Bool.or_true, Bool.true_or, Bool.or_false, Bool.false_or, decide_true, decide_false]
      have mid : ∀ l6 : Int32, rf (d + 2) 258 103 [some (.ref 265), some (.int (Int32.ofNat s)), some (.int (Int32.ofNat hh)), some (.int (Int32.ofNat (setN (fun k => E2b V fl ap s hh k) k))), some (.int (Int32.ofNat k)), some (.int (fl k)), some (.int l6), l7] [] (SH n, I, L, R, nc, ns, nx) = rf (d + 2) 258 150 [some (.ref 265), some (.int (Int32.ofNat s)), some (.int (Int32.ofNat hh)), some (.int (Int32.ofNat (setN (fun k => E2b V fl ap s hh k) k))), some (.int (Int32.ofNat k)), some (.int (fl k)), some (.int l6), some (.int (if ((V (14 + ap)).testBit k && s.testBit k || !decide (fl k < 8)) = true then 1 else 0))] [] (SH n, I, L, R, nc, ns, nx) := by
        intro l6
        simp only [e258_103, e258_104, e258_107, e258_108, e258_109, e258_112, e258_113, e258_114, e258_117, e258_118, e258_119, e258_121, e258_124, e258_127, e258_128, e258_130, e258_133, e258_136, e258_138, e258_140, e258_143, e258_144, e258_147, e258_148, rk_n, rk_v, nl_n, nl_i, nl_r, cat_n, ip_cat_int, ip_cat_ref, ip_cat_long, ip_rf_some, Nat.reduceAdd, Nat.reduceLeDiff, Nat.reduceLT, Nat.le_refl, Nat.zero_le, hR, ia_lit, nu_i, nu_tn, la, ba, m1, e9, mu2, nu_add, mk, hasB (v8 _) k8, hasB hs k8, ite_0, Bool.false_eq_true, Bool.true_eq_false, if_true, if_false, not_true_eq_false, not_false_eq_true, zle, eq_self]
        cases (V (14 + ap)).testBit k <;> cases s.testBit k <;> by_cases g8 : fl k < 8 <;> simp only [g8, Bool.false_eq_true, Bool.true_eq_false, if_true, if_false, not_true_eq_false, not_false_eq_true, zle, eq_self, Bool.and_true, Bool.true_and, Bool.and_false, Bool.false_and, Bool.or_true, Bool.true_or, Bool.or_false, Bool.false_or, Bool.not_true, Bool.not_false, decide_true, decide_false]
      refine ⟨(some (.int (fl k)), some (.int (if (!(V 7).testBit k || ((V 8).testBit k && !hh.testBit k) || decide (fl k = 9)) = true then 1 else 0)), some (.int (if ((V (14 + ap)).testBit k && s.testBit k || !decide (fl k < 8)) = true then 1 else 0))), ⟨nl_i, nl_i, nl_i⟩, ?_⟩
      rw [front, mid, setN]
      have eb : E2b V fl ap s hh k = ((!(V 7).testBit k || ((V 8).testBit k && !hh.testBit k) || decide (fl k = 9)) && ((V (14 + ap)).testBit k && s.testBit k || !decide (fl k < 8))) := by unfold E2b; rw [ha]; rfl
      rw [eb]
      generalize (!(V 7).testBit k || ((V 8).testBit k && !hh.testBit k) || decide (fl k = 9)) = B1
      generalize ((V (14 + ap)).testBit k && s.testBit k || !decide (fl k < 8)) = B2
      cases B1 <;> cases B2 <;> simp only [e258_150, e258_151, e258_153, e258_156, e258_158, e258_161, e258_162, e258_164, e258_165, e258_168, e258_169, e258_170, e258_171, e258_174, rk_n, rk_v, nl_n, nl_i, nl_r, cat_n, ip_cat_int, ip_cat_ref, ip_cat_long, ip_rf_some, Nat.reduceAdd, Nat.reduceLeDiff, Nat.reduceLT, Nat.le_refl, Nat.zero_le, ite_0, k8, sh1, of_or, or_0, nu_1, Bool.false_eq_true, Bool.true_eq_false, if_true, if_false, not_true_eq_false, not_false_eq_true, zle, eq_self, Bool.and_true, Bool.true_and, Bool.and_false, Bool.false_and]
  · rintro ⟨l5, l6, l7⟩ ⟨-, e⟩
    refine Eq.trans e ?_
    rw [e258_5]
    simp only [e258_0, e258_1, e258_2, e258_3, e258_7, e258_8, e258_11, e258_14, e258_15, e258_16, e258_19, e258_21, e258_22, e258_25, e258_28, e258_31, e258_34, e258_35, e258_38, e258_40, e258_41, e258_44, e258_45, e258_47, e258_48, e258_49, e258_51, e258_52, e258_55, e258_56, e258_59, e258_60, e258_62, e258_65, e258_68, e258_69, e258_72, e258_73, e258_76, e258_77, e258_78, e258_79, e258_80, e258_81, e258_83, e258_86, e258_89, e258_91, e258_93, e258_96, e258_97, e258_100, e258_101, e258_103, e258_104, e258_107, e258_108, e258_109, e258_112, e258_113, e258_114, e258_117, e258_118, e258_119, e258_121, e258_124, e258_127, e258_128, e258_130, e258_133, e258_136, e258_138, e258_140, e258_143, e258_144, e258_147, e258_148, e258_150, e258_151, e258_153, e258_156, e258_158, e258_161, e258_162, e258_164, e258_165, e258_168, e258_169, e258_170, e258_171, e258_174, e258_177, e258_178, rk_n, rk_v, nl_n, nl_i, nl_r, cat_n, ip_cat_int, ip_cat_ref, ip_cat_long, ip_rf_some, Nat.reduceAdd, Nat.reduceLeDiff, Nat.reduceLT, Nat.le_refl, Nat.zero_le, hc, Int32.le_refl, Bool.false_eq_true, Bool.true_eq_false, if_true, if_false, not_true_eq_false, not_false_eq_true, zle, eq_self]
theorem sure_3 {win : Nat → Bool} {z o : Nat} : sureI win z o = 0 ∨ sureI win z o = 1 ∨ sureI win z o = -1 := by
  unfold sureI
  split
  · exact Or.inl rfl
  · split
    · exact Or.inr (Or.inl rfl)
    · exact Or.inr (Or.inr rfl)
theorem whoG (a2 : ap < 2) : (if aftN c std rst br win V fl lev m = -1 then (1 : Int32) else if aftN c std rst br win V fl lev m = Int32.ofNat ap then 2 else 0) = Int32.ofNat (rkN (ogI c std rst br win V fl lev ap m)) := by
  have h3 : aftN c std rst br win V fl lev m = 0 ∨ aftN c std rst br win V fl lev m = 1 ∨ aftN c std rst br win V fl lev m = -1 := sure_3
  unfold ogI outE
  rcases lt2 a2 with rfl | rfl <;> rcases h3 with h | h | h <;> rw [h] <;> decide
theorem err_E2 : errN c std rst br win V fl 2 (o &&& setN (fun k => E2b V fl ap s (s &&& heardN c std rst br win V fl lev ap) k) c) = o &&& E2 c std rst br win V fl lev ap s := by
  apply Nat.eq_of_testBit_eq
  intro i
  unfold errN E2
  rw [Nat.testBit_and, setN_bit, setN_bit, Nat.testBit_and, setN_bit]
  cases decide (i < c) <;> cases o.testBit i <;> cases E2b V fl ap s (s &&& heardN c std rst br win V fl lev ap) i <;> simp
end CM
