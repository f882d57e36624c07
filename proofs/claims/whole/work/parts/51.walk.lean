/-! WALKS along what is ahead: depthOf and deepOf; p k: the node ahead of k (k above 0) -/
section WK
variable {n d a b T c : Nat} {I : Nat → Nat → Int32} {L : Nat → Nat → Int64} {R : Nat → Nat → Option Nat} {nc ns : Nat} {nx : Bool} {x y z w j : Int32} {h : ip_H} {p : Nat → Nat}
def dpI (p : Nat → Nat) : Nat → Nat → Int32 → Int32
  | 0, _, acc => acc
  | q + 1, k, acc => if k = 0 then acc else dpI p q (p k) (acc + 1)
theorem nu_m1 {t : Nat} (h : t < 2147483648) : ¬ Int32.ofNat t = -1 := by
  intro e
  have g := nu_nn h
  rw [e] at g
  exact g (by decide)
theorem l177 (hR : LYR R) (hc4 : c ≤ 40) (h0 : I 65 1 = -1) (hp : ∀ k, 0 < k → k < c → I (65 + 5 * k) 1 = Int32.ofNat (p k) ∧ p k < k) : ∀ q k acc st, k ≤ q → k < c → st + k < 40 → rf d 177 15 [some (.ref 2), some (.int y), some (.int acc), some (.int (I (65 + 5 * k) 1)), some (.int (Int32.ofNat st))] [] (SH n, I, L, R, nc, ns, nx) = some (.inl (some (.int (dpI p (q + 1) k acc))), (SH n, I, L, R, nc, ns, nx)) := by
  intro q
  induction q with
  | zero =>
    intro k acc st h1 h2 h3
    have e : k = 0 := by omega
    subst e
    have g : ((40 : Int32) ≤ Int32.ofNat st) = (40 ≤ st) := nu_lit (c := 40) (by omega) (by omega)
    have g1 : ¬ 40 ≤ st := by omega
    rw [e177_15]
    simp only [e177_0, e177_1, e177_2, e177_3, e177_6, e177_7, e177_8, e177_11, e177_12, e177_13, e177_17, e177_19, e177_22, e177_23, e177_24, e177_27, e177_30, e177_31, e177_34, e177_35, e177_36, e177_39, e177_40, e177_43, e177_46, e177_47, rk_n, rk_v, nl_n, nl_i, nl_r, cat_n, ip_cat_int, ip_cat_ref, ip_cat_long, ip_rf_some, Nat.reduceAdd, Nat.reduceLeDiff, Nat.reduceLT, Nat.le_refl, Nat.zero_le, g, g1, Nat.mul_zero, Nat.add_zero, h0, if_true, if_false, dpI]
  | succ q ih =>
    intro k acc st h1 h2 h3
    have g : ((40 : Int32) ≤ Int32.ofNat st) = (40 ≤ st) := nu_lit (c := 40) (by omega) (by omega)
    have g1 : ¬ 40 ≤ st := by omega
    rw [e177_15, dpI]
    by_cases hk : k = 0
    · subst hk
      simp only [e177_0, e177_1, e177_2, e177_3, e177_6, e177_7, e177_8, e177_11, e177_12, e177_13, e177_17, e177_19, e177_22, e177_23, e177_24, e177_27, e177_30, e177_31, e177_34, e177_35, e177_36, e177_39, e177_40, e177_43, e177_46, e177_47, rk_n, rk_v, nl_n, nl_i, nl_r, cat_n, ip_cat_int, ip_cat_ref, ip_cat_long, ip_rf_some, Nat.reduceAdd, Nat.reduceLeDiff, Nat.reduceLT, Nat.le_refl, Nat.zero_le, g, g1, Nat.mul_zero, Nat.add_zero, h0, if_true, if_false]
    · obtain ⟨e1, e2⟩ := hp k (by omega) h2
      have b0 := (nu_inb (t := p k) (k := 40) (by omega)).mpr (by omega)
      have e3 := nd_of (k := p k) (by omega)
      have e4 := isN_nd (k := p k) (by omega)
      have e5 := nu_m1 (t := p k) (by omega)
      have a1 : Int32.ofNat st + 1 = Int32.ofNat (st + 1) := nu_add (s := 1)
      rw [if_neg hk, ← ih (p k) (acc + 1) (st + 1) (by omega) (by omega) (by omega), e1]
      simp only [e177_0, e177_1, e177_2, e177_3, e177_6, e177_7, e177_8, e177_11, e177_12, e177_13, e177_17, e177_19, e177_22, e177_23, e177_24, e177_27, e177_30, e177_31, e177_34, e177_35, e177_36, e177_39, e177_40, e177_43, e177_46, e177_47, rk_n, rk_v, nl_n, nl_i, nl_r, cat_n, ip_cat_int, ip_cat_ref, ip_cat_long, ip_rf_some, Nat.reduceAdd, Nat.reduceLeDiff, Nat.reduceLT, Nat.le_refl, Nat.zero_le, hR, g, g1, b0, e3, e4, e5, a1, if_true, if_false]
theorem c177 (hR : LYR R) (hc4 : c ≤ 40) (h0 : I 65 1 = -1) (hp : ∀ k, 0 < k → k < c → I (65 + 5 * k) 1 = Int32.ofNat (p k) ∧ p k < k) {k : Nat} (hk : k < c) : cf d 177 [.ref 2, .int (Int32.ofNat k)] (SH n, I, L, R, nc, ns, nx) = some (.inl (some (.int (dpI p 41 k 0))), (SH n, I, L, R, nc, ns, nx)) := by
  have b0 := (nu_inb (t := k) (k := 40) (by omega)).mpr (by omega)
  have e3 := nd_of (k := k) (by omega)
  have e4 := isN_nd (k := k) (by omega)
  simp only [en177, e177_0, e177_1, e177_2, e177_3, e177_6, e177_7, e177_8, e177_11, e177_12, e177_13, e177_17, e177_19, e177_22, e177_23, e177_24, e177_27, e177_30, e177_31, e177_34, e177_35, e177_36, e177_39, e177_40, e177_43, e177_46, e177_47, rk_n, rk_v, nl_n, nl_i, nl_r, cat_n, ip_cat_int, ip_cat_ref, ip_cat_long, ip_rf_some, Nat.reduceAdd, Nat.reduceLeDiff, Nat.reduceLT, Nat.le_refl, Nat.zero_le, hR, b0, e3, e4]
  exact l177 hR hc4 h0 hp 40 k 0 0 (by omega) hk (by omega)
theorem l280 (hR : LYR R) (hc4 : c ≤ 40) (h0 : I 290 0 = -1) (hp : ∀ k, 0 < k → k < c → I 290 k = Int32.ofNat (p k) ∧ p k < k) : ∀ q k acc, k ≤ q → k < c → rf d 280 9 [some (.ref 265), some (.int y), some (.int acc), some (.int (I 290 k))] [] (SH n, I, L, R, nc, ns, nx) = some (.inl (some (.int (dpI p (q + 1) k acc))), (SH n, I, L, R, nc, ns, nx)) := by
  intro q
  induction q with
  | zero =>
    intro k acc h1 h2
    have e : k = 0 := by omega
    subst e
    rw [e280_9]
    simp only [e280_0, e280_1, e280_2, e280_3, e280_6, e280_7, e280_8, e280_10, e280_11, e280_14, e280_17, e280_18, e280_21, e280_22, e280_23, e280_24, e280_27, e280_28, rk_n, rk_v, nl_n, nl_i, nl_r, cat_n, ip_cat_int, ip_cat_ref, ip_cat_long, ip_rf_some, Nat.reduceAdd, Nat.reduceLeDiff, Nat.reduceLT, Nat.le_refl, Nat.zero_le, h0, if_true, if_false, dpI]
  | succ q ih =>
    intro k acc h1 h2
    rw [e280_9, dpI]
    by_cases hk : k = 0
    · subst hk
      simp only [e280_0, e280_1, e280_2, e280_3, e280_6, e280_7, e280_8, e280_10, e280_11, e280_14, e280_17, e280_18, e280_21, e280_22, e280_23, e280_24, e280_27, e280_28, rk_n, rk_v, nl_n, nl_i, nl_r, cat_n, ip_cat_int, ip_cat_ref, ip_cat_long, ip_rf_some, Nat.reduceAdd, Nat.reduceLeDiff, Nat.reduceLT, Nat.le_refl, Nat.zero_le, h0, if_true, if_false]
    · obtain ⟨e1, e2⟩ := hp k (by omega) h2
      have b0 := (nu_inb (t := p k) (k := 40) (by omega)).mpr (by omega)
      have e3 := nu_tn (t := p k) (by omega)
      have e5 := nu_m1 (t := p k) (by omega)
      rw [if_neg hk, ← ih (p k) (acc + 1) (by omega) (by omega), e1]
      simp only [e280_0, e280_1, e280_2, e280_3, e280_6, e280_7, e280_8, e280_10, e280_11, e280_14, e280_17, e280_18, e280_21, e280_22, e280_23, e280_24, e280_27, e280_28, rk_n, rk_v, nl_n, nl_i, nl_r, cat_n, ip_cat_int, ip_cat_ref, ip_cat_long, ip_rf_some, Nat.reduceAdd, Nat.reduceLeDiff, Nat.reduceLT, Nat.le_refl, Nat.zero_le, hR, ia_lit, b0, e3, e5, if_true, if_false]
theorem c280 (hR : LYR R) (hc4 : c ≤ 40) (h0 : I 290 0 = -1) (hp : ∀ k, 0 < k → k < c → I 290 k = Int32.ofNat (p k) ∧ p k < k) {k : Nat} (hk : k < c) : cf d 280 [.ref 265, .int (Int32.ofNat k)] (SH n, I, L, R, nc, ns, nx) = some (.inl (some (.int (dpI p 41 k 0))), (SH n, I, L, R, nc, ns, nx)) := by
  have b0 := (nu_inb (t := k) (k := 40) (by omega)).mpr (by omega)
  have e3 := nu_tn (t := k) (by omega)
  simp only [en280, e280_0, e280_1, e280_2, e280_3, e280_6, e280_7, e280_8, e280_10, e280_11, e280_14, e280_17, e280_18, e280_21, e280_22, e280_23, e280_24, e280_27, e280_28, rk_n, rk_v, nl_n, nl_i, nl_r, cat_n, ip_cat_int, ip_cat_ref, ip_cat_long, ip_rf_some, Nat.reduceAdd, Nat.reduceLeDiff, Nat.reduceLT, Nat.le_refl, Nat.zero_le, hR, ia_lit, b0, e3]
  exact l280 hR hc4 h0 hp 40 k 0 (by omega) hk
end WK
