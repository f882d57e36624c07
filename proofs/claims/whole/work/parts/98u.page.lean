/-! THE PAGE: one byte, in both -/
section PGE
variable {n d a b T c s t z o w m p lev k side ap N q : Nat} {I J K : Nat → Nat → Int32} {L L' : Nat → Nat → Int64} {R R' : Nat → Nat → Option Nat} {nc ns : Nat} {nx : Bool} {x y j v u code x1 x2 x3 : Int32} {P : Nat → Nat → Prop} {h' h : ip_H}
def putC (I : Nat → Nat → Int32) (p : Nat) (x : Int32) : Nat → Nat → Int32 := ip_up (ip_up I 64 p x) 63 1 (Int32.ofNat (p + 1))
def putM (I : Nat → Nat → Int32) (p : Nat) (x : Int32) : Nat → Nat → Int32 := ip_up (ip_up I 306 p x) 265 70 (Int32.ofNat (p + 1))
theorem c32 (hR : LYR R) (hp : I 63 1 = Int32.ofNat p) (h2 : p < 256) : cf d 32 [.ref 63, .int x] (SH n, I, L, R, nc, ns, nx) = some (.inl none, (SH n, putC I p x, L, R, nc, ns, nx)) := by
  have g : ((256 : Int32) ≤ Int32.ofNat p) = (256 ≤ p) := nu_lit (c := 256) (by omega) (by omega)
  have g1 : ¬ 256 ≤ p := by omega
  have lp : p < 2147483648 := by omega
  simp only [en32, e32_0, e32_1, e32_4, e32_7, e32_10, e32_11, e32_14, e32_15, e32_18, e32_19, e32_20, e32_21, e32_21r, e32_22, e32_25, e32_26, e32_27, e32_30, rk_n, rk_v, nl_n, nl_i, nl_r, cat_n, ip_cat_int, ip_cat_ref, ip_cat_long, ip_rf_some, Nat.reduceAdd, Nat.reduceLeDiff, Nat.reduceLT, Nat.le_refl, Nat.zero_le, hR, ia_lit, nu_i, nu_tn, lp, h2, hp, g, g1, up_a, Nat.reduceEqDiff, nu_1, putC, Bool.false_eq_true, Bool.true_eq_false, if_true, if_false, not_true_eq_false, not_false_eq_true, zle, eq_self]
theorem c274 (hR : LYR R) (hp : I 265 70 = Int32.ofNat p) (h2 : p < 400) : cf d 274 [.ref 265, .int x] (SH n, I, L, R, nc, ns, nx) = some (.inl none, (SH n, putM I p x, L, R, nc, ns, nx)) := by
  have lp : p < 2147483648 := by omega
  simp only [en274, e274_0, e274_1, e274_4, e274_5, e274_8, e274_9, e274_10, e274_11, e274_11r, e274_12, e274_15, e274_16, e274_17, e274_20, rk_n, rk_v, nl_n, nl_i, nl_r, cat_n, ip_cat_int, ip_cat_ref, ip_cat_long, ip_rf_some, Nat.reduceAdd, Nat.reduceLeDiff, Nat.reduceLT, Nat.le_refl, Nat.zero_le, hR, ia_lit, nu_i, nu_tn, lp, h2, hp, up_a, Nat.reduceEqDiff, nu_1, putM, Bool.false_eq_true, Bool.true_eq_false, if_true, if_false, not_true_eq_false, not_false_eq_true, zle, eq_self]
theorem pg_both (X : RPa p I) (h : p < 256) : RPa (p + 1) (putM (putC I p x) p x) := by
  obtain ⟨p1, p2, p3, p4⟩ := X
  unfold putM putC
  refine ⟨by omega, by rw [up_a (by decide), up_a (by decide), up_eq], by rw [up_eq], fun k hk => ?_⟩
  by_cases e : k = p
  · subst e
    rw [up_a (by decide), up_a (by decide), up_a (by decide), up_eq, up_a (by decide), up_eq]
  · rw [up_a (by decide), up_a (by decide), up_a (by decide), up_k e, up_a (by decide), up_k e, up_a (by decide), up_a (by decide)]
    exact p4 k (by omega)
end PGE
