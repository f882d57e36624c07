/-! COUNTING nodes: the class's -/
section CN
variable {n d a b T c : Nat} {I : Nat → Nat → Int32} {L : Nat → Nat → Int64} {R : Nat → Nat → Option Nat} {nc ns : Nat} {nx : Bool} {x y z w j : Int32} {h : ip_H}
/-- how many of q from k on have f = x, on top of an int -/
def cnt (f : Nat → Int32) (x : Int32) : Nat → Nat → Int32 → Int32
  | 0, _, acc => acc
  | q + 1, k, acc => cnt f x q (k + 1) (if f k = x then acc + 1 else acc)
theorem l35 (hR : LYR R) (hc : I 2 6 = Int32.ofNat c) (hc4 : c ≤ 40) : ∀ q k acc, k + q = c → rf d 35 4 [some (.ref 2), some (.int x), some (.int acc), some (.int (Int32.ofNat k))] [] (SH n, I, L, R, nc, ns, nx) = some (.inl (some (.int (cnt (fun k => I (65 + 5 * k) 2) x q k acc))), (SH n, I, L, R, nc, ns, nx)) := by
  intro q
  induction q with
  | zero =>
    intro k acc h1
    have g : ((Int32.ofNat c : Int32) ≤ Int32.ofNat k) = (c ≤ k) := nu_lit (by omega) (by omega)
    have g1 : c ≤ k := by omega
    rw [e35_4]
    simp only [e35_0, e35_1, e35_2, e35_3, e35_5, e35_6, e35_9, e35_12, e35_13, e35_16, e35_17, e35_18, e35_21, e35_22, e35_25, e35_28, e35_31, e35_34, e35_35, rk_n, rk_v, nl_n, nl_i, nl_r, cat_n, ip_cat_int, ip_cat_ref, ip_cat_long, ip_rf_some, Nat.reduceAdd, Nat.reduceLeDiff, Nat.reduceLT, Nat.le_refl, Nat.zero_le, hc, g, g1, if_true, cnt]
  | succ q ih =>
    intro k acc h1
    have g : ((Int32.ofNat c : Int32) ≤ Int32.ofNat k) = (c ≤ k) := nu_lit (by omega) (by omega)
    have g1 : ¬ c ≤ k := by omega
    have b0 := (nu_inb (t := k) (k := 40) (by omega)).mpr (by omega)
    have e1 := nd_of (k := k) (by omega)
    have e2 := isN_nd (k := k) (by omega)
    have a1 : Int32.ofNat k + 1 = Int32.ofNat (k + 1) := nu_add (s := 1)
    rw [e35_4, cnt, ← ih (k + 1) _ (by omega)]
    by_cases g3 : I (65 + 5 * k) 2 = x
    · simp only [e35_0, e35_1, e35_2, e35_3, e35_5, e35_6, e35_9, e35_12, e35_13, e35_16, e35_17, e35_18, e35_21, e35_22, e35_25, e35_28, e35_31, e35_34, e35_35, rk_n, rk_v, nl_n, nl_i, nl_r, cat_n, ip_cat_int, ip_cat_ref, ip_cat_long, ip_rf_some, Nat.reduceAdd, Nat.reduceLeDiff, Nat.reduceLT, Nat.le_refl, Nat.zero_le, hc, hR, b0, e1, e2, g, g1, g3, a1, not_true_eq_false, if_true, if_false]
    · simp only [e35_0, e35_1, e35_2, e35_3, e35_5, e35_6, e35_9, e35_12, e35_13, e35_16, e35_17, e35_18, e35_21, e35_22, e35_25, e35_28, e35_31, e35_34, e35_35, rk_n, rk_v, nl_n, nl_i, nl_r, cat_n, ip_cat_int, ip_cat_ref, ip_cat_long, ip_rf_some, Nat.reduceAdd, Nat.reduceLeDiff, Nat.reduceLT, Nat.le_refl, Nat.zero_le, hc, hR, b0, e1, e2, g, g1, g3, a1, not_false_eq_true, if_true, if_false]
theorem c35 (hR : LYR R) (hc : I 2 6 = Int32.ofNat c) (hc4 : c ≤ 40) : cf d 35 [.ref 2, .int x] (SH n, I, L, R, nc, ns, nx) = some (.inl (some (.int (cnt (fun k => I (65 + 5 * k) 2) x c 0 0))), (SH n, I, L, R, nc, ns, nx)) := by
  simp only [en35, e35_0, e35_1, e35_2, e35_3, e35_5, e35_6, e35_9, e35_12, e35_13, e35_16, e35_17, e35_18, e35_21, e35_22, e35_25, e35_28, e35_31, e35_34, e35_35, rk_n, rk_v, nl_n, nl_i, nl_r, cat_n, ip_cat_int, ip_cat_ref, ip_cat_long, ip_rf_some, Nat.reduceAdd, Nat.reduceLeDiff, Nat.reduceLT, Nat.le_refl, Nat.zero_le]
  exact l35 hR hc hc4 c 0 0 (by omega)
end CN
