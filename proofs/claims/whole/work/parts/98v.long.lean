/-! LONGS that are small and not negative, as numbers -/
theorem lg_int {t : Nat} (h : t < 9223372036854775808) : (Int64.ofNat t).toInt = t := Int64.toInt_ofNat_of_lt (by omega)
theorem lg_div {a : Nat} (h : a < 9223372036854775808) : Int64.ofNat a / 32 = Int64.ofNat (a / 32) := by
  rw [← Int64.toInt_inj, Int64.toInt_div, lg_int h, lg_int (by omega)]
  have e : (32 : Int64).toInt = 32 := by decide
  rw [e]
  have : ((a : Int).tdiv 32) = ((a / 32 : Nat) : Int) := by
    rw [Int.tdiv_eq_ediv_of_nonneg (by omega)]; omega
  rw [this]
  exact Int.bmod_eq_of_le (by omega) (by omega)
theorem lg_pos {a : Nat} (h : a < 9223372036854775808) : (lg_cmp (Int64.ofNat a) 0 ≤ 0) = (a = 0) := by
  have z0 : (0 : Int64).toInt = 0 := by decide
  have e : ¬ Int64.ofNat a < 0 := by
    rw [Int64.lt_iff_toInt_lt, lg_int h, z0]; omega
  by_cases z : a = 0
  · subst z; decide
  · have n : ¬ Int64.ofNat a = 0 := fun q => by
      have := congrArg Int64.toInt q
      rw [lg_int h, z0] at this
      omega
    have g : Int64.ofNat a > 0 := by
      show (0 : Int64) < Int64.ofNat a
      rw [Int64.lt_iff_toInt_lt, lg_int h, z0]; omega
    unfold lg_cmp
    simp only [g, n, z, if_false, if_true]
    decide
