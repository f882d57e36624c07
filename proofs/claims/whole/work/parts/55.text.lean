/-! TEXTS of the class: standards, pages, truth -/
theorem of_andn : ∀ a, a < 256 → ∀ b, b < 256 → Int32.ofNat a &&& (Int32.ofNat b ^^^ -1) = Int32.ofNat (a &&& (255 ^^^ b)) := by decide +kernel
theorem bit_0' {s k : Nat} (hs : s < 256) (hk : k < 8) : (Int32.ofNat s &&& 1 <<< (Int32.ofNat k &&& 31) = 0) = (s.testBit k = false) := propext (bit_0 s hs k hk)
theorem bit_1' {s k : Nat} (hs : s < 256) (hk : k < 8) : (Int32.ofNat s >>> (Int32.ofNat k &&& 31) &&& 1 = 1) = (s.testBit k = true) := propext (bit_1 s hs k hk)
theorem bit_2 {s k : Nat} (hs : s < 256) (hk : k < 8) : (Int32.ofNat s &&& Int32.ofNat (2 ^ k) = 0) = (s.testBit k = false) := by rw [← bit_0' hs hk, sh1 k hk]
theorem bit_3 {s k : Nat} (hs : s < 256) (hk : k < 8) : (Int32.ofNat (s &&& 2 ^ k) = 0) = (s.testBit k = false) := by rw [← of_and, bit_2 hs hk]
theorem nu_ge {c k : Nat} (hc : c < 2147483648) (hk : k < 2147483648) : (Int32.ofNat c ≤ Int32.ofNat k) = (c ≤ k) := nu_lit hc hk
theorem nu_eq {c k : Nat} (hc : c < 2147483648) (hk : k < 2147483648) : (Int32.ofNat c = Int32.ofNat k) = (c = k) := propext (nu_inj hc hk)
theorem nu_i {t k : Nat} (h : t < 2147483648) : inb (Int32.ofNat t) k = (t < k) := propext (nu_inb h)
theorem nu_1 {k : Nat} : Int32.ofNat k + 1 = Int32.ofNat (k + 1) := nu_add (s := 1)
theorem tb_false {b : Bool} (h : ¬ b = false) : b = true := by cases b <;> simp at h ⊢
section TX
variable {n d a b T c s z o : Nat} {I : Nat → Nat → Int32} {L : Nat → Nat → Int64} {R : Nat → Nat → Option Nat} {nc ns : Nat} {nx : Bool} {x y w j : Int32} {h : ip_H} {f g : Nat → Nat}
theorem c102 (hR : LYR R) (hT : isT T) (hc : I T 6 = Int32.ofNat c) (hc8 : c ≤ 8) : cf d 102 [.ref T, .int x] (SH n, I, L, R, nc, ns, nx) = some (.inl (some (.int (Int32.ofNat (setN (fun k => decide (I (T + 2) k = x)) c)))), (SH n, I, L, R, nc, ns, nx)) := by
  simp only [en102, e102_0, e102_1, e102_2, e102_3, e102_5, e102_6, e102_9, e102_12, e102_13, e102_16, e102_17, e102_18, e102_19, e102_22, e102_23, e102_24, e102_25, e102_26, e102_27, e102_28, e102_31, e102_34, e102_35, rk_n, rk_v, nl_n, nl_i, nl_r, cat_n, ip_cat_int, ip_cat_ref, ip_cat_long, ip_rf_some, Nat.reduceAdd, Nat.reduceLeDiff, Nat.reduceLT, Nat.le_refl, Nat.zero_le]
  refine (for_eq (c := c) (fun k => rf d 102 4 [some (.ref T), some (.int x), some (.int (Int32.ofNat (setN (fun k => decide (I (T + 2) k = x)) k))), some (.int (Int32.ofNat k))] [] (SH n, I, L, R, nc, ns, nx)) ?_).trans ?_
  · intro k hk
    try dsimp only
    have lk : k < 2147483648 := by omega
    have lc : c < 2147483648 := by omega
    have g1 : ¬ c ≤ k := by omega
    have k8 : k < 8 := by omega
    rw [e102_4, setN]
    by_cases g3 : I (T + 2) k = x
    · simp only [e102_0, e102_1, e102_2, e102_3, e102_5, e102_6, e102_9, e102_12, e102_13, e102_16, e102_17, e102_18, e102_19, e102_22, e102_23, e102_24, e102_25, e102_26, e102_27, e102_28, e102_31, e102_34, e102_35, rk_n, rk_v, nl_n, nl_i, nl_r, cat_n, ip_cat_int, ip_cat_ref, ip_cat_long, ip_rf_some, Nat.reduceAdd, Nat.reduceLeDiff, Nat.reduceLT, Nat.le_refl, Nat.zero_le, hT, hR, hc, nu_ge, lk, lc, g1, ia_T2 hT, nu_i, nu_tn, k8, g3, decide_true, sh1, of_or, nu_1, not_true_eq_false, if_true, if_false]
    · simp only [e102_0, e102_1, e102_2, e102_3, e102_5, e102_6, e102_9, e102_12, e102_13, e102_16, e102_17, e102_18, e102_19, e102_22, e102_23, e102_24, e102_25, e102_26, e102_27, e102_28, e102_31, e102_34, e102_35, rk_n, rk_v, nl_n, nl_i, nl_r, cat_n, ip_cat_int, ip_cat_ref, ip_cat_long, ip_rf_some, Nat.reduceAdd, Nat.reduceLeDiff, Nat.reduceLT, Nat.le_refl, Nat.zero_le, hT, hR, hc, nu_ge, lk, lc, g1, ia_T2 hT, nu_i, nu_tn, k8, g3, decide_false, Bool.false_eq_true, nu_1, not_false_eq_true, if_true, if_false]
  · rw [e102_4]
    simp only [e102_0, e102_1, e102_2, e102_3, e102_5, e102_6, e102_9, e102_12, e102_13, e102_16, e102_17, e102_18, e102_19, e102_22, e102_23, e102_24, e102_25, e102_26, e102_27, e102_28, e102_31, e102_34, e102_35, rk_n, rk_v, nl_n, nl_i, nl_r, cat_n, ip_cat_int, ip_cat_ref, ip_cat_long, ip_rf_some, Nat.reduceAdd, Nat.reduceLeDiff, Nat.reduceLT, Nat.le_refl, Nat.zero_le, hT, hc, Int32.le_refl, if_true]
/-- pages: as the class adds them -/
def pgC (s : Nat) (f : Nat → Nat) : Nat → Nat
  | 0 => pop s
  | k + 1 => if s.testBit k = true then pgC s f k + pop (f k) else pgC s f k
theorem pgC_le {s : Nat} {f : Nat → Nat} (hs : s < 256) (hf : ∀ k, k < c → f k < 256) : ∀ k, k ≤ c → pgC s f k ≤ 8 + 8 * k := by
  intro k
  induction k with
  | zero => intro _; have := pop_le s hs; unfold pgC; omega
  | succ k ih =>
    intro hk
    have := pop_le (f k) (hf k (by omega))
    have := ih (by omega)
    unfold pgC
    split <;> omega
theorem c131 (hR : LYR R) (hT : isT T) (hc : I T 6 = Int32.ofNat c) (hc8 : c ≤ 8) (hf : ∀ k, k < c → I (T + 3) k = Int32.ofNat (f k) ∧ f k < 256) (hs : s < 256) : cf (d + 1) 131 [.ref T, .int (Int32.ofNat s)] (SH n, I, L, R, nc, ns, nx) = some (.inl (some (.int (Int32.ofNat (pgC s f c)))), (SH n, I, L, R, nc, ns, nx)) := by
  simp only [en131, e131_0, e131_1, e131_4, e131_5, e131_6, e131_8, e131_9, e131_12, e131_15, e131_16, e131_17, e131_18, e131_19, e131_20, e131_23, e131_24, e131_25, e131_28, e131_29, e131_30, e131_33, e131_34, e131_35, e131_38, e131_41, e131_42, rk_n, rk_v, nl_n, nl_i, nl_r, cat_n, ip_cat_int, ip_cat_ref, ip_cat_long, ip_rf_some, Nat.reduceAdd, Nat.reduceLeDiff, Nat.reduceLT, Nat.le_refl, Nat.zero_le, c19s hs]
  refine (for_eq (c := c) (fun k => rf (d + 1) 131 7 [some (.ref T), some (.int (Int32.ofNat s)), some (.int (Int32.ofNat (pgC s f k))), some (.int (Int32.ofNat k))] [] (SH n, I, L, R, nc, ns, nx)) ?_).trans ?_
  · intro k hk
    try dsimp only
    have lk : k < 2147483648 := by omega
    have lc : c < 2147483648 := by omega
    have g1 : ¬ c ≤ k := by omega
    have k8 : k < 8 := by omega
    obtain ⟨f1, f2⟩ := hf k hk
    rw [e131_7, pgC]
    by_cases g3 : s.testBit k = true
    · simp only [e131_0, e131_1, e131_4, e131_5, e131_6, e131_8, e131_9, e131_12, e131_15, e131_16, e131_17, e131_18, e131_19, e131_20, e131_23, e131_24, e131_25, e131_28, e131_29, e131_30, e131_33, e131_34, e131_35, e131_38, e131_41, e131_42, rk_n, rk_v, nl_n, nl_i, nl_r, cat_n, ip_cat_int, ip_cat_ref, ip_cat_long, ip_rf_some, Nat.reduceAdd, Nat.reduceLeDiff, Nat.reduceLT, Nat.le_refl, Nat.zero_le, hT, hR, hc, nu_ge, lk, lc, g1, ia_T3 hT, nu_i, nu_tn, k8, hs, f1, c19s f2, bit_0', g3, Bool.true_eq_false, nu_1, nu_add, if_true, if_false]
    · simp only [e131_0, e131_1, e131_4, e131_5, e131_6, e131_8, e131_9, e131_12, e131_15, e131_16, e131_17, e131_18, e131_19, e131_20, e131_23, e131_24, e131_25, e131_28, e131_29, e131_30, e131_33, e131_34, e131_35, e131_38, e131_41, e131_42, rk_n, rk_v, nl_n, nl_i, nl_r, cat_n, ip_cat_int, ip_cat_ref, ip_cat_long, ip_rf_some, Nat.reduceAdd, Nat.reduceLeDiff, Nat.reduceLT, Nat.le_refl, Nat.zero_le, hT, hR, hc, nu_ge, lk, lc, g1, k8, hs, bit_0', g3, Bool.eq_false_iff.mpr g3, Bool.false_eq_true, nu_1, if_true, if_false]
  · rw [e131_7]
    simp only [e131_0, e131_1, e131_4, e131_5, e131_6, e131_8, e131_9, e131_12, e131_15, e131_16, e131_17, e131_18, e131_19, e131_20, e131_23, e131_24, e131_25, e131_28, e131_29, e131_30, e131_33, e131_34, e131_35, e131_38, e131_41, e131_42, rk_n, rk_v, nl_n, nl_i, nl_r, cat_n, ip_cat_int, ip_cat_ref, ip_cat_long, ip_rf_some, Nat.reduceAdd, Nat.reduceLeDiff, Nat.reduceLT, Nat.le_refl, Nat.zero_le, hT, hc, Int32.le_refl, if_true]
/-! bits of longs -/
def bL (x : Int64) (p : Nat) : Bool := x.toBitVec.getLsbD p
theorem bL_and (x y : Int64) (p : Nat) : bL (x &&& y) p = (bL x p && bL y p) := by
  unfold bL
  rw [show (x &&& y).toBitVec = x.toBitVec &&& y.toBitVec from rfl, BitVec.getLsbD_and]
theorem bL_or (x y : Int64) (p : Nat) : bL (x ||| y) p = (bL x p || bL y p) := by
  unfold bL
  rw [show (x ||| y).toBitVec = x.toBitVec ||| y.toBitVec from rfl, BitVec.getLsbD_or]
theorem sh64 : ∀ p, p < 64 → ((Int32.ofNat p).toInt64.toUInt64 &&& Int64.toUInt64 63).toBitVec % 64 = BitVec.ofNat 64 p ∧ p < 64 := by decide +kernel
theorem bL_sh (x : Int64) {p : Nat} (hp : p < 64) (i : Nat) : bL (x.toUInt64 >>> ((Int32.ofNat p).toInt64.toUInt64 &&& Int64.toUInt64 63)).toInt64 i = bL x (p + i) := by
  unfold bL
  have e : (x.toUInt64 >>> ((Int32.ofNat p).toInt64.toUInt64 &&& Int64.toUInt64 63)).toInt64.toBitVec = x.toBitVec >>> (((Int32.ofNat p).toInt64.toUInt64 &&& Int64.toUInt64 63).toBitVec % 64) := rfl
  rw [e, (sh64 p hp).1]
  show (x.toBitVec >>> (BitVec.ofNat 64 p).toNat).getLsbD i = _
  rw [BitVec.getLsbD_ushiftRight, BitVec.toNat_ofNat, Nat.mod_eq_of_lt (by omega)]
theorem bL_z (x : Int64) : (lg_cmp (x &&& 1) 0 = 0) = (bL x 0 = false) := by
  have h : (x &&& 1).toBitVec = x.toBitVec &&& 1#64 := rfl
  rw [BitVec.and_one_eq_setWidth_ofBool_getLsbD] at h
  unfold bL
  cases hb : x.toBitVec.getLsbD 0 with
  | false =>
    rw [hb] at h
    have e : x &&& 1 = 0 := Int64.toBitVec_inj.mp h
    rw [e]
    apply propext
    constructor
    · intro _; rfl
    · intro _; decide
  | true =>
    rw [hb] at h
    have e : x &&& 1 = 1 := Int64.toBitVec_inj.mp h
    rw [e]
    apply propext
    constructor
    · intro q; exact absurd q (by decide)
    · intro q; cases q
/-- the claim at a set of issues decided for side 0 -/
def winL (L : Nat → Nat → Int64) (T s : Nat) : Bool := bL (L (T + 6) (s / 64)) (s % 64)
theorem i24 : ∀ s, s < 256 → Int32.ofNat s >>> (6 &&& 31) &&& 3 = Int32.ofNat (s / 64) ∧ Int32.ofNat s &&& 63 = Int32.ofNat (s % 64) ∧ s / 64 < 4 := by decide +kernel
theorem c24 (hR : LYR R) (hT : isT T) (hs : s < 256) : cf d 24 [.ref T, .int (Int32.ofNat s)] (SH n, I, L, R, nc, ns, nx) = some (.inl (some (.int (if winL L T s = true then 1 else 0))), (SH n, I, L, R, nc, ns, nx)) := by
  obtain ⟨e1, e2, e3⟩ := i24 s hs
  have l1 : s / 64 < 2147483648 := by omega
  have l2 : s % 64 < 64 := by omega
  have e4 : bL (L (T + 6) (s / 64)) (s % 64 + 0) = winL L T s := rfl
  by_cases g : winL L T s = true
  · simp only [en24, e24_0, e24_1, e24_3, e24_4, e24_5, e24_6, e24_7, e24_8, e24_11, e24_12, e24_13, e24_14, e24_16, e24_17, e24_18, e24_19, e24_20, e24_21, e24_22, e24_25, e24_26, e24_29, e24_30, rk_n, rk_v, nl_n, nl_i, nl_r, cat_n, ip_cat_int, ip_cat_ref, ip_cat_long, ip_rf_some, Nat.reduceAdd, Nat.reduceLeDiff, Nat.reduceLT, Nat.le_refl, Nat.zero_le, hT, hR, la_T6 hT, e1, e2, nu_i, nu_tn, l1, e3, bL_z, bL_sh _ l2, e4, g, Bool.true_eq_false, or_true, if_true, if_false]
  · simp only [en24, e24_0, e24_1, e24_3, e24_4, e24_5, e24_6, e24_7, e24_8, e24_11, e24_12, e24_13, e24_14, e24_16, e24_17, e24_18, e24_19, e24_20, e24_21, e24_22, e24_25, e24_26, e24_29, e24_30, rk_n, rk_v, nl_n, nl_i, nl_r, cat_n, ip_cat_int, ip_cat_ref, ip_cat_long, ip_rf_some, Nat.reduceAdd, Nat.reduceLeDiff, Nat.reduceLT, Nat.le_refl, Nat.zero_le, hT, hR, la_T6 hT, e1, e2, nu_i, nu_tn, l1, e3, bL_z, bL_sh _ l2, e4, g, Bool.eq_false_iff.mpr g, Bool.false_eq_true, true_or, if_true, if_false]
end TX
