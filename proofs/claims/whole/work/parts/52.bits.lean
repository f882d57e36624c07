/-! SETS as numbers below 256: bitCount and bits -/
section BI
variable {n d s t : Nat} {x y : Int32} {h : ip_H}
theorem of_and (a b : Nat) : Int32.ofNat a &&& Int32.ofNat b = Int32.ofNat (a &&& b) := by
  rw [← Int32.ofBitVec_ofNat, ← Int32.ofBitVec_ofNat, ← Int32.ofBitVec_ofNat, BitVec.ofNat_and, Int32.ofBitVec_and]
/-- how many bits below 8 -/
def pop (s : Nat) : Nat := (List.range 8).countP (fun k => s.testBit k)
def bcv (x : Int32) : Int32 :=
  let a := x - ((x.toUInt32 >>> (Int32.toUInt32 1 &&& Int32.toUInt32 31)).toInt32 &&& 1431655765)
  let b := (a &&& 858993459) + ((a.toUInt32 >>> (Int32.toUInt32 2 &&& Int32.toUInt32 31)).toInt32 &&& 858993459)
  let c := b + (b.toUInt32 >>> (Int32.toUInt32 4 &&& Int32.toUInt32 31)).toInt32 &&& 252645135
  let e := c + (c.toUInt32 >>> (Int32.toUInt32 8 &&& Int32.toUInt32 31)).toInt32
  let f := e + (e.toUInt32 >>> (Int32.toUInt32 16 &&& Int32.toUInt32 31)).toInt32
  f &&& 63
theorem c19 : cf d 19 [.int x] h = some (.inl (some (.int (bcv x))), h) := by
  simp only [en19, e19_0, e19_1, e19_2, e19_3, e19_4, e19_7, e19_8, e19_9, e19_10, e19_11, e19_14, e19_15, e19_16, e19_17, e19_18, e19_21, e19_22, e19_23, e19_24, e19_25, e19_26, e19_27, e19_28, e19_29, e19_32, e19_33, e19_34, e19_35, e19_36, e19_38, e19_39, e19_40, e19_41, e19_42, e19_43, e19_45, e19_46, e19_47, e19_48, e19_49, e19_51, e19_52, rk_n, rk_v, nl_n, nl_i, nl_r, cat_n, ip_cat_int, ip_cat_ref, ip_cat_long, ip_rf_some, Nat.reduceAdd, Nat.reduceLeDiff, Nat.reduceLT, Nat.le_refl, Nat.zero_le]
  rfl
theorem bcv_pop : ∀ s, s < 256 → bcv (Int32.ofNat s) = Int32.ofNat (pop s) := by decide +kernel
theorem pop_step : ∀ s, s < 256 → 0 < s → (s &&& (s - 1)) < s ∧ pop (s &&& (s - 1)) + 1 = pop s := by decide +kernel
theorem pop_le : ∀ s, s < 256 → pop s ≤ 8 := by decide +kernel
theorem l226 : ∀ q s t, s ≤ q → s < 256 → rf d 226 4 [some (.int y), some (.int (Int32.ofNat t)), some (.int (Int32.ofNat s))] [] h = some (.inl (some (.int (Int32.ofNat (t + pop s)))), h) := by
  intro q
  induction q with
  | zero =>
    intro s t h1 h2
    have e : s = 0 := Nat.le_zero.mp h1
    subst e
    have e0 : Int32.ofNat 0 = 0 := rfl
    have e1 : pop 0 = 0 := by decide
    rw [e226_4]
    simp only [e226_0, e226_1, e226_2, e226_3, e226_5, e226_8, e226_11, e226_12, e226_13, e226_14, e226_15, e226_16, e226_17, e226_20, e226_21, rk_n, rk_v, nl_n, nl_i, nl_r, cat_n, ip_cat_int, ip_cat_ref, ip_cat_long, ip_rf_some, Nat.reduceAdd, Nat.reduceLeDiff, Nat.reduceLT, Nat.le_refl, Nat.zero_le, e0, e1, if_true, Nat.add_zero]
  | succ q ih =>
    intro s t h1 h2
    by_cases hs : s = 0
    · exact ih s t (by omega) h2
    · obtain ⟨g1, g2⟩ := pop_step s h2 (by omega)
      have z : (Int32.ofNat s = 0) = False := eq_false (fun e => hs ((nu_inj (t := s) (s := 0) (by omega) (by omega)).mp e))
      have a1 : Int32.ofNat t + 1 = Int32.ofNat (t + 1) := nu_add (s := 1)
      have a2 : Int32.ofNat s - 1 = Int32.ofNat (s - 1) := (Int32.ofNat_sub s 1 (by omega)).symm
      rw [e226_4, ← g2, ← Nat.add_assoc, Nat.add_right_comm, ← ih (s &&& (s - 1)) (t + 1) (by omega) (by omega)]
      simp only [e226_0, e226_1, e226_2, e226_3, e226_5, e226_8, e226_11, e226_12, e226_13, e226_14, e226_15, e226_16, e226_17, e226_20, e226_21, rk_n, rk_v, nl_n, nl_i, nl_r, cat_n, ip_cat_int, ip_cat_ref, ip_cat_long, ip_rf_some, Nat.reduceAdd, Nat.reduceLeDiff, Nat.reduceLT, Nat.le_refl, Nat.zero_le, z, a1, a2, of_and, if_false]
theorem c226 (hs : s < 256) : cf d 226 [.int (Int32.ofNat s)] h = some (.inl (some (.int (Int32.ofNat (pop s)))), h) := by
  simp only [en226, e226_0, e226_1, e226_2, e226_3, e226_5, e226_8, e226_11, e226_12, e226_13, e226_14, e226_15, e226_16, e226_17, e226_20, e226_21, rk_n, rk_v, nl_n, nl_i, nl_r, cat_n, ip_cat_int, ip_cat_ref, ip_cat_long, ip_rf_some, Nat.reduceAdd, Nat.reduceLeDiff, Nat.reduceLT, Nat.le_refl, Nat.zero_le]
  have e := l226 (d := d) (h := h) (y := Int32.ofNat s) 256 s 0 (by omega) hs
  rw [Nat.zero_add] at e
  exact e
theorem c19s (hs : s < 256) : cf d 19 [.int (Int32.ofNat s)] h = some (.inl (some (.int (Int32.ofNat (pop s)))), h) := by
  rw [c19, bcv_pop s hs]
end BI
