/-! THE MODEL: sets by loops; pictures of its text and of its node at hand -/
theorem ite_0 {P : Prop} [Decidable P] : ((if P then (1 : Int32) else 0) = 0) = ¬ P := by by_cases h : P <;> simp [h]
theorem ite_1 {P : Prop} [Decidable P] : ((if P then (1 : Int32) else 0) = 1) = P := by by_cases h : P <;> simp [h]
theorem b_nt {b : Bool} : (¬ b = true) = (b = false) := by cases b <;> simp
theorem lt8 {c : Nat} (h : c ≤ 8) : c < 2147483648 := by omega
/-- issues, standards, what they rest on, bars, who wins -/
def MTx (c : Nat) (std rst : Nat → Nat) (br : Nat → Int32) (win : Nat → Bool) (I : Nat → Nat → Int32) : Prop :=
  c ≤ 8 ∧ I 265 17 = Int32.ofNat c ∧ (∀ k, k < c → I 275 k = Int32.ofNat (std k) ∧ std k < 3) ∧ (∀ k, k < c → I 276 k = Int32.ofNat (rst k) ∧ rst k < 256) ∧ (∀ k, k < 6 → I 277 k = br k) ∧ (∀ s, s < 256 → I 287 s = wb win s)
/-- what rests on some, issue by issue on -/
def restOn (rst : Nat → Nat) (m : Nat) : Nat → Nat
  | 0 => 0
  | k + 1 => if rst k &&& (m ||| restOn rst m k) = 0 then restOn rst m k else restOn rst m k ||| 2 ^ k
theorem restOn_lt (rst : Nat → Nat) (m : Nat) : ∀ k, restOn rst m k < 2 ^ k := by
  intro k
  induction k with
  | zero => decide
  | succ k ih =>
    rw [restOn]
    split
    · exact Nat.lt_of_lt_of_le ih (Nat.pow_le_pow_right (by omega) (by omega))
    · refine Nat.or_lt_two_pow ?_ ?_
      · exact Nat.lt_of_lt_of_le ih (Nat.pow_le_pow_right (by omega) (by omega))
      · exact Nat.pow_lt_pow_right (by omega) (by omega)
theorem p2le {k : Nat} (h : k ≤ 8) : 2 ^ k ≤ 256 := Nat.pow_le_pow_right (n := 2) (m := 8) (by omega) h
theorem setN_256 (P : Nat → Bool) {c : Nat} (h : c ≤ 8) : setN P c < 256 := Nat.lt_of_lt_of_le (setN_lt P c) (p2le h)
theorem ofn_0 {s : Nat} (h : s < 2147483648) : (Int32.ofNat s = 0) = (s = 0) := nu_eq (k := 0) h (by omega)
section MS
variable {n d a b T c s z o w m p lev k side : Nat} {I J : Nat → Nat → Int32} {L : Nat → Nat → Int64} {R : Nat → Nat → Option Nat} {nc ns : Nat} {nx : Bool} {x y j : Int32} {h : ip_H} {f g std rst V : Nat → Nat} {win : Nat → Bool} {br fl : Nat → Int32}
theorem hasB (hs : s < 256) (hk : k < 8) : cf d 186 [.int (Int32.ofNat s), .int (Int32.ofNat k)] h = some (.inl (some (.int (if s.testBit k = true then 1 else 0))), h) := by
  rw [c186, bit_1' hs hk]
theorem c218 (hR : LYR R) (M : MTx c std rst br win I) (hm : m < 256) : cf d 218 [.ref 265, .int (Int32.ofNat m)] (SH n, I, L, R, nc, ns, nx) = some (.inl (some (.int (Int32.ofNat (restOn rst m c)))), (SH n, I, L, R, nc, ns, nx)) := by
  obtain ⟨hc8, hc, -, hr, -, -⟩ := M
  have lc := lt8 hc8
  simp only [en218, e218_0, e218_1, e218_2, e218_3, e218_5, e218_6, e218_9, e218_12, e218_13, e218_16, e218_17, e218_18, e218_19, e218_20, e218_21, e218_22, e218_25, e218_26, e218_27, e218_28, e218_29, e218_30, e218_31, e218_34, e218_37, e218_38, rk_n, rk_v, nl_n, nl_i, nl_r, cat_n, ip_cat_int, ip_cat_ref, ip_cat_long, ip_rf_some, Nat.reduceAdd, Nat.reduceLeDiff, Nat.reduceLT, Nat.le_refl, Nat.zero_le]
  refine (for_eq (c := c) (fun k => rf d 218 4 [some (.ref 265), some (.int (Int32.ofNat m)), some (.int (Int32.ofNat (restOn rst m k))), some (.int (Int32.ofNat k))] [] (SH n, I, L, R, nc, ns, nx)) ?_).trans ?_
  · intro k hk
    try dsimp only
    have lk : k < 2147483648 := by omega
    have g1 : ¬ c ≤ k := by omega
    have k8 : k < 8 := by omega
    obtain ⟨f1, f2⟩ := hr k hk
    have l2 : rst k &&& (m ||| restOn rst m k) < 2147483648 := Nat.lt_of_le_of_lt Nat.and_le_left (by omega)
    rw [e218_4, restOn]
    by_cases g3 : rst k &&& (m ||| restOn rst m k) = 0
    · simp only [e218_0, e218_1, e218_2, e218_3, e218_5, e218_6, e218_9, e218_12, e218_13, e218_16, e218_17, e218_18, e218_19, e218_20, e218_21, e218_22, e218_25, e218_26, e218_27, e218_28, e218_29, e218_30, e218_31, e218_34, e218_37, e218_38, rk_n, rk_v, nl_n, nl_i, nl_r, cat_n, ip_cat_int, ip_cat_ref, ip_cat_long, ip_rf_some, Nat.reduceAdd, Nat.reduceLeDiff, Nat.reduceLT, Nat.le_refl, Nat.zero_le, hR, hc, nu_ge, lk, lc, g1, ia_lit, nu_i, nu_tn, k8, f1, of_or, of_and, ofn_0, l2, g3, nu_1, Bool.false_eq_true, Bool.true_eq_false, if_true, if_false, not_true_eq_false, not_false_eq_true]
    · simp only [e218_0, e218_1, e218_2, e218_3, e218_5, e218_6, e218_9, e218_12, e218_13, e218_16, e218_17, e218_18, e218_19, e218_20, e218_21, e218_22, e218_25, e218_26, e218_27, e218_28, e218_29, e218_30, e218_31, e218_34, e218_37, e218_38, rk_n, rk_v, nl_n, nl_i, nl_r, cat_n, ip_cat_int, ip_cat_ref, ip_cat_long, ip_rf_some, Nat.reduceAdd, Nat.reduceLeDiff, Nat.reduceLT, Nat.le_refl, Nat.zero_le, hR, hc, nu_ge, lk, lc, g1, ia_lit, nu_i, nu_tn, k8, f1, of_or, of_and, ofn_0, l2, g3, sh1, nu_1, Bool.false_eq_true, Bool.true_eq_false, if_true, if_false, not_true_eq_false, not_false_eq_true]
  · rw [e218_4]
    simp only [e218_0, e218_1, e218_2, e218_3, e218_5, e218_6, e218_9, e218_12, e218_13, e218_16, e218_17, e218_18, e218_19, e218_20, e218_21, e218_22, e218_25, e218_26, e218_27, e218_28, e218_29, e218_30, e218_31, e218_34, e218_37, e218_38, rk_n, rk_v, nl_n, nl_i, nl_r, cat_n, ip_cat_int, ip_cat_ref, ip_cat_long, ip_rf_some, Nat.reduceAdd, Nat.reduceLeDiff, Nat.reduceLT, Nat.le_refl, Nat.zero_le, hc, Int32.le_refl, if_true]
/-- pages: as the model adds them -/
def pgM (s : Nat) (f : Nat → Nat) : Nat → Nat
  | 0 => 0
  | k + 1 => pgM s f k + (if s.testBit k = true then 1 + pop (f k) else 0)
theorem c247 (hR : LYR R) (M : MTx c std rst br win I) (hs : s < 256) : cf (d + 1) 247 [.ref 265, .int (Int32.ofNat s)] (SH n, I, L, R, nc, ns, nx) = some (.inl (some (.int (Int32.ofNat (pgM s rst c)))), (SH n, I, L, R, nc, ns, nx)) := by
  obtain ⟨hc8, hc, -, hr, -, -⟩ := M
  have lc := lt8 hc8
  simp only [en247, e247_0, e247_1, e247_2, e247_3, e247_5, e247_6, e247_9, e247_12, e247_13, e247_14, e247_15, e247_18, e247_21, e247_22, e247_23, e247_26, e247_27, e247_28, e247_31, e247_32, e247_35, e247_36, e247_37, e247_38, e247_41, e247_44, e247_45, rk_n, rk_v, nl_n, nl_i, nl_r, cat_n, ip_cat_int, ip_cat_ref, ip_cat_long, ip_rf_some, Nat.reduceAdd, Nat.reduceLeDiff, Nat.reduceLT, Nat.le_refl, Nat.zero_le]
  refine (for_eq (c := c) (fun k => rf (d + 1) 247 4 [some (.ref 265), some (.int (Int32.ofNat s)), some (.int (Int32.ofNat (pgM s rst k))), some (.int (Int32.ofNat k))] [] (SH n, I, L, R, nc, ns, nx)) ?_).trans ?_
  · intro k hk
    try dsimp only
    have lk : k < 2147483648 := by omega
    have g1 : ¬ c ≤ k := by omega
    have k8 : k < 8 := by omega
    obtain ⟨f1, f2⟩ := hr k hk
    have a1 : (1 : Int32) + Int32.ofNat (pop (rst k)) = Int32.ofNat (1 + pop (rst k)) := nu_add (t := 1)
    have a0 : Int32.ofNat (pgM s rst k) + 0 = Int32.ofNat (pgM s rst k + 0) := nu_add (s := 0)
    rw [e247_4, pgM]
    by_cases g3 : s.testBit k = true
    · simp only [e247_0, e247_1, e247_2, e247_3, e247_5, e247_6, e247_9, e247_12, e247_13, e247_14, e247_15, e247_18, e247_21, e247_22, e247_23, e247_26, e247_27, e247_28, e247_31, e247_32, e247_35, e247_36, e247_37, e247_38, e247_41, e247_44, e247_45, rk_n, rk_v, nl_n, nl_i, nl_r, cat_n, ip_cat_int, ip_cat_ref, ip_cat_long, ip_rf_some, Nat.reduceAdd, Nat.reduceLeDiff, Nat.reduceLT, Nat.le_refl, Nat.zero_le, hR, hc, nu_ge, lk, lc, g1, ia_lit, nu_i, nu_tn, k8, hs, hasB, ite_0, g3, f1, c226 f2, a1, nu_add, nu_1, Bool.false_eq_true, Bool.true_eq_false, if_true, if_false, not_true_eq_false, not_false_eq_true]
    · simp only [e247_0, e247_1, e247_2, e247_3, e247_5, e247_6, e247_9, e247_12, e247_13, e247_14, e247_15, e247_18, e247_21, e247_22, e247_23, e247_26, e247_27, e247_28, e247_31, e247_32, e247_35, e247_36, e247_37, e247_38, e247_41, e247_44, e247_45, rk_n, rk_v, nl_n, nl_i, nl_r, cat_n, ip_cat_int, ip_cat_ref, ip_cat_long, ip_rf_some, Nat.reduceAdd, Nat.reduceLeDiff, Nat.reduceLT, Nat.le_refl, Nat.zero_le, hR, hc, nu_ge, lk, lc, g1, ia_lit, nu_i, nu_tn, k8, hs, hasB, ite_0, g3, a0, nu_1, Bool.false_eq_true, Bool.true_eq_false, if_true, if_false, not_true_eq_false, not_false_eq_true]
  · rw [e247_4]
    simp only [e247_0, e247_1, e247_2, e247_3, e247_5, e247_6, e247_9, e247_12, e247_13, e247_14, e247_15, e247_18, e247_21, e247_22, e247_23, e247_26, e247_27, e247_28, e247_31, e247_32, e247_35, e247_36, e247_37, e247_38, e247_41, e247_44, e247_45, rk_n, rk_v, nl_n, nl_i, nl_r, cat_n, ip_cat_int, ip_cat_ref, ip_cat_long, ip_rf_some, Nat.reduceAdd, Nat.reduceLeDiff, Nat.reduceLT, Nat.le_refl, Nat.zero_le, hc, Int32.le_refl, if_true]
end MS
