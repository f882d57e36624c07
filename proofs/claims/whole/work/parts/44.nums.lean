/-! NUMBERS: ints that are small and not negative, as numbers -/
theorem nu_int {t : Nat} (h : t < 2147483648) : (Int32.ofNat t).toInt = t := Int32.toInt_ofNat_of_lt (by omega)
theorem nu_tn {t : Nat} (h : t < 2147483648) : (Int32.ofNat t).toNatClampNeg = t := by
  show (Int32.ofNat t).toInt.toNat = t
  rw [nu_int h]
  rfl
theorem nu_lt {t s : Nat} (h : t < 2147483648) (g : s < 2147483648) : Int32.ofNat t < Int32.ofNat s ↔ t < s := by
  rw [Int32.lt_iff_toInt_lt, nu_int h, nu_int g]
  omega
theorem nu_le {t s : Nat} (h : t < 2147483648) (g : s < 2147483648) : Int32.ofNat t ≤ Int32.ofNat s ↔ t ≤ s := by
  rw [Int32.le_iff_toInt_le, nu_int h, nu_int g]
  omega
theorem nu_nn {t : Nat} (h : t < 2147483648) : ¬ Int32.ofNat t < 0 := by
  rw [Int32.lt_iff_toInt_lt, nu_int h]
  have z : (0 : Int32).toInt = 0 := by decide
  rw [z]
  omega
theorem nu_inb {t k : Nat} (h : t < 2147483648) : inb (Int32.ofNat t) k ↔ t < k := by
  unfold inb
  rw [nu_tn h]
  have q := nu_nn h
  constructor
  · intro g
    exact Nat.lt_of_not_le (fun z => g (Or.inr z))
  · intro g z
    rcases z with z | z
    · exact q z
    · omega
theorem nu_add {t s : Nat} : Int32.ofNat t + Int32.ofNat s = Int32.ofNat (t + s) := (Int32.ofNat_add t s).symm
theorem nu_inj {t s : Nat} (h : t < 2147483648) (g : s < 2147483648) : Int32.ofNat t = Int32.ofNat s ↔ t = s := by
  constructor
  · intro e
    have := congrArg Int32.toInt e
    rw [nu_int h, nu_int g] at this
    omega
  · rintro rfl; rfl
/-- every int that isn't negative is such a number -/
theorem nu_of {x : Int32} (h : ¬ x < 0) : ∃ t : Nat, t < 2147483648 ∧ x = Int32.ofNat t := by
  rw [Int32.lt_iff_toInt_lt] at h
  have z : (0 : Int32).toInt = 0 := by decide
  rw [z] at h
  have q := x.toInt_lt
  refine ⟨x.toInt.toNat, by omega, ?_⟩
  rw [← Int32.toInt_inj, nu_int (by omega)]
  omega
theorem inb_nu {x : Int32} {k : Nat} (h : inb x k) : ∃ t : Nat, t < k ∧ x = Int32.ofNat t := by
  unfold inb at h
  obtain ⟨t, h1, rfl⟩ := nu_of (fun z => h (Or.inl z))
  refine ⟨t, ?_, rfl⟩
  rw [nu_tn h1] at h
  exact Nat.lt_of_not_le (fun z => h (Or.inr z))
