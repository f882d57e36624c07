/-! THE NEXT CHILD: class and model -/
section NX
variable {n d a b T c : Nat} {I : Nat → Nat → Int32} {L : Nat → Nat → Int64} {R : Nat → Nat → Option Nat} {nc ns : Nat} {nx : Bool} {x y z w j : Int32} {h : ip_H}
/-- the first k from one on, below c, with f k = x; -1 -/
def nxt (f : Nat → Int32) (c : Nat) (x : Int32) : Nat → Nat → Int32
  | 0, _ => -1
  | q + 1, k => if k < c then (if f k = x then Int32.ofNat k else nxt f c x q (k + 1)) else -1
theorem nd_of {k : Nat} (h : k < 2147483648) : nd (Int32.ofNat k) = 65 + 5 * k := by
  unfold nd
  rw [nu_tn h]
theorem isN_nd {k : Nat} (h : k < 40) : isN (65 + 5 * k) := Or.inr (Or.inr (Or.inr ⟨k, h, rfl⟩))
theorem l27 (hR : LYR R) (hc : I 2 6 = Int32.ofNat c) (hc4 : c ≤ 40) : ∀ q k, c ≤ q + k → k ≤ 41 → rf d 27 4 [some (.ref 2), some (.int x), some (.int y), some (.int (Int32.ofNat k))] [] (SH n, I, L, R, nc, ns, nx) = some (.inl (some (.int (nxt (fun k => I (65 + 5 * k) 1) c x (q + 1) k))), (SH n, I, L, R, nc, ns, nx)) := by
  intro q
  induction q with
  | zero =>
    intro k h1 h2
    have g : ((Int32.ofNat c : Int32) ≤ Int32.ofNat k) = (c ≤ k) := nu_lit (by omega) (by omega)
    have g1 : c ≤ k := by omega
    have g2 : ¬ k < c := by omega
    rw [e27_4]
    simp only [e27_0, e27_1, e27_2, e27_3, e27_5, e27_6, e27_9, e27_12, e27_13, e27_16, e27_17, e27_18, e27_21, e27_22, e27_25, e27_26, e27_27, e27_30, e27_33, e27_34, rk_n, rk_v, nl_n, nl_i, nl_r, cat_n, ip_cat_int, ip_cat_ref, ip_cat_long, ip_rf_some, Nat.reduceAdd, Nat.reduceLeDiff, Nat.reduceLT, Nat.le_refl, Nat.zero_le, hc, g, g1, if_true, nxt, g2, if_false]
  | succ q ih =>
    intro k h1 h2
    have g : ((Int32.ofNat c : Int32) ≤ Int32.ofNat k) = (c ≤ k) := nu_lit (by omega) (by omega)
    rw [e27_4]
    by_cases g1 : c ≤ k
    · have g2 : ¬ k < c := by omega
      simp only [e27_0, e27_1, e27_2, e27_3, e27_5, e27_6, e27_9, e27_12, e27_13, e27_16, e27_17, e27_18, e27_21, e27_22, e27_25, e27_26, e27_27, e27_30, e27_33, e27_34, rk_n, rk_v, nl_n, nl_i, nl_r, cat_n, ip_cat_int, ip_cat_ref, ip_cat_long, ip_rf_some, Nat.reduceAdd, Nat.reduceLeDiff, Nat.reduceLT, Nat.le_refl, Nat.zero_le, hc, g, g1, if_true, nxt, g2, if_false]
    · have g2 : k < c := by omega
      have b0 := (nu_inb (t := k) (k := 40) (by omega)).mpr (by omega)
      have e1 := nd_of (k := k) (by omega)
      have e2 := isN_nd (k := k) (by omega)
      have a1 : Int32.ofNat k + 1 = Int32.ofNat (k + 1) := nu_add (s := 1)
      rw [nxt, if_pos g2]
      by_cases g3 : I (65 + 5 * k) 1 = x
      · simp only [e27_0, e27_1, e27_2, e27_3, e27_5, e27_6, e27_9, e27_12, e27_13, e27_16, e27_17, e27_18, e27_21, e27_22, e27_25, e27_26, e27_27, e27_30, e27_33, e27_34, rk_n, rk_v, nl_n, nl_i, nl_r, cat_n, ip_cat_int, ip_cat_ref, ip_cat_long, ip_rf_some, Nat.reduceAdd, Nat.reduceLeDiff, Nat.reduceLT, Nat.le_refl, Nat.zero_le, hc, hR, b0, e1, e2, g, g1, g3, not_true_eq_false, if_true, if_false]
      · rw [if_neg g3, ← ih (k + 1) (by omega) (by omega)]
        simp only [e27_0, e27_1, e27_2, e27_3, e27_5, e27_6, e27_9, e27_12, e27_13, e27_16, e27_17, e27_18, e27_21, e27_22, e27_25, e27_26, e27_27, e27_30, e27_33, e27_34, rk_n, rk_v, nl_n, nl_i, nl_r, cat_n, ip_cat_int, ip_cat_ref, ip_cat_long, ip_rf_some, Nat.reduceAdd, Nat.reduceLeDiff, Nat.reduceLT, Nat.le_refl, Nat.zero_le, hc, hR, b0, e1, e2, g, g1, g3, a1, not_false_eq_true, if_true, if_false]
theorem c27 (hR : LYR R) (hc : I 2 6 = Int32.ofNat c) (hc4 : c ≤ 40) {k : Nat} (hk : k ≤ 40) : cf d 27 [.ref 2, .int x, .int (Int32.ofNat k)] (SH n, I, L, R, nc, ns, nx) = some (.inl (some (.int (nxt (fun k => I (65 + 5 * k) 1) c x 42 (k + 1)))), (SH n, I, L, R, nc, ns, nx)) := by
  have a1 : Int32.ofNat k + 1 = Int32.ofNat (k + 1) := nu_add (s := 1)
  simp only [en27, e27_0, e27_1, e27_2, e27_3, e27_5, e27_6, e27_9, e27_12, e27_13, e27_16, e27_17, e27_18, e27_21, e27_22, e27_25, e27_26, e27_27, e27_30, e27_33, e27_34, rk_n, rk_v, nl_n, nl_i, nl_r, cat_n, ip_cat_int, ip_cat_ref, ip_cat_long, ip_rf_some, Nat.reduceAdd, Nat.reduceLeDiff, Nat.reduceLT, Nat.le_refl, Nat.zero_le, a1]
  exact l27 hR hc hc4 41 (k + 1) (by omega) (by omega)
theorem l262 (hR : LYR R) (hc : I 265 37 = Int32.ofNat c) (hc4 : c ≤ 40) : ∀ q k, c ≤ q + k → k ≤ 41 → rf d 262 4 [some (.ref 265), some (.int x), some (.int y), some (.int (Int32.ofNat k))] [] (SH n, I, L, R, nc, ns, nx) = some (.inl (some (.int (nxt (fun k => I 290 k) c x (q + 1) k))), (SH n, I, L, R, nc, ns, nx)) := by
  intro q
  induction q with
  | zero =>
    intro k h1 h2
    have g : ((Int32.ofNat c : Int32) ≤ Int32.ofNat k) = (c ≤ k) := nu_lit (by omega) (by omega)
    have g1 : c ≤ k := by omega
    have g2 : ¬ k < c := by omega
    rw [e262_4]
    simp only [e262_0, e262_1, e262_2, e262_3, e262_5, e262_6, e262_9, e262_12, e262_13, e262_16, e262_17, e262_18, e262_19, e262_22, e262_23, e262_24, e262_27, e262_30, e262_31, rk_n, rk_v, nl_n, nl_i, nl_r, cat_n, ip_cat_int, ip_cat_ref, ip_cat_long, ip_rf_some, Nat.reduceAdd, Nat.reduceLeDiff, Nat.reduceLT, Nat.le_refl, Nat.zero_le, hc, g, g1, if_true, nxt, g2, if_false]
  | succ q ih =>
    intro k h1 h2
    have g : ((Int32.ofNat c : Int32) ≤ Int32.ofNat k) = (c ≤ k) := nu_lit (by omega) (by omega)
    rw [e262_4]
    by_cases g1 : c ≤ k
    · have g2 : ¬ k < c := by omega
      simp only [e262_0, e262_1, e262_2, e262_3, e262_5, e262_6, e262_9, e262_12, e262_13, e262_16, e262_17, e262_18, e262_19, e262_22, e262_23, e262_24, e262_27, e262_30, e262_31, rk_n, rk_v, nl_n, nl_i, nl_r, cat_n, ip_cat_int, ip_cat_ref, ip_cat_long, ip_rf_some, Nat.reduceAdd, Nat.reduceLeDiff, Nat.reduceLT, Nat.le_refl, Nat.zero_le, hc, g, g1, if_true, nxt, g2, if_false]
    · have g2 : k < c := by omega
      have b0 := (nu_inb (t := k) (k := 40) (by omega)).mpr (by omega)
      have e1 := nu_tn (t := k) (by omega)
      have a1 : Int32.ofNat k + 1 = Int32.ofNat (k + 1) := nu_add (s := 1)
      rw [nxt, if_pos g2]
      by_cases g3 : I 290 k = x
      · simp only [e262_0, e262_1, e262_2, e262_3, e262_5, e262_6, e262_9, e262_12, e262_13, e262_16, e262_17, e262_18, e262_19, e262_22, e262_23, e262_24, e262_27, e262_30, e262_31, rk_n, rk_v, nl_n, nl_i, nl_r, cat_n, ip_cat_int, ip_cat_ref, ip_cat_long, ip_rf_some, Nat.reduceAdd, Nat.reduceLeDiff, Nat.reduceLT, Nat.le_refl, Nat.zero_le, hc, hR, ia_lit, b0, e1, g, g1, g3, not_true_eq_false, if_true, if_false]
      · rw [if_neg g3, ← ih (k + 1) (by omega) (by omega)]
        simp only [e262_0, e262_1, e262_2, e262_3, e262_5, e262_6, e262_9, e262_12, e262_13, e262_16, e262_17, e262_18, e262_19, e262_22, e262_23, e262_24, e262_27, e262_30, e262_31, rk_n, rk_v, nl_n, nl_i, nl_r, cat_n, ip_cat_int, ip_cat_ref, ip_cat_long, ip_rf_some, Nat.reduceAdd, Nat.reduceLeDiff, Nat.reduceLT, Nat.le_refl, Nat.zero_le, hc, hR, ia_lit, b0, e1, g, g1, g3, a1, not_false_eq_true, if_true, if_false]
theorem c262 (hR : LYR R) (hc : I 265 37 = Int32.ofNat c) (hc4 : c ≤ 40) {k : Nat} (hk : k ≤ 40) : cf d 262 [.ref 265, .int x, .int (Int32.ofNat k)] (SH n, I, L, R, nc, ns, nx) = some (.inl (some (.int (nxt (fun k => I 290 k) c x 42 (k + 1)))), (SH n, I, L, R, nc, ns, nx)) := by
  have a1 : Int32.ofNat k + 1 = Int32.ofNat (k + 1) := nu_add (s := 1)
  simp only [en262, e262_0, e262_1, e262_2, e262_3, e262_5, e262_6, e262_9, e262_12, e262_13, e262_16, e262_17, e262_18, e262_19, e262_22, e262_23, e262_24, e262_27, e262_30, e262_31, rk_n, rk_v, nl_n, nl_i, nl_r, cat_n, ip_cat_int, ip_cat_ref, ip_cat_long, ip_rf_some, Nat.reduceAdd, Nat.reduceLeDiff, Nat.reduceLT, Nat.le_refl, Nat.zero_le, a1]
  exact l262 hR hc hc4 41 (k + 1) (by omega) (by omega)
end NX
