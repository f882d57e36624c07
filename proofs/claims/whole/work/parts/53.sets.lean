/-! SETS: bits, and sets by a property -/
theorem bit_0 : ∀ s, s < 256 → ∀ k, k < 8 → ((Int32.ofNat s &&& 1 <<< (Int32.ofNat k &&& 31) = 0) ↔ s.testBit k = false) := by decide +kernel
theorem bit_1 : ∀ s, s < 256 → ∀ k, k < 8 → ((Int32.ofNat s >>> (Int32.ofNat k &&& 31) &&& 1 = 1) ↔ s.testBit k = true) := by decide +kernel
theorem sh1 : ∀ k, k < 8 → (1 : Int32) <<< (Int32.ofNat k &&& 31) = Int32.ofNat (2 ^ k) := by decide +kernel
theorem sh_all : ∀ k, k < 9 → (1 : Int32) <<< (Int32.ofNat k &&& 31) - 1 = Int32.ofNat (2 ^ k - 1) := by decide +kernel
theorem of_or (a b : Nat) : Int32.ofNat a ||| Int32.ofNat b = Int32.ofNat (a ||| b) := by
  rw [← Int32.ofBitVec_ofNat, ← Int32.ofBitVec_ofNat, ← Int32.ofBitVec_ofNat, BitVec.ofNat_or, Int32.ofBitVec_or]
theorem of_xor (a b : Nat) : Int32.ofNat a ^^^ Int32.ofNat b = Int32.ofNat (a ^^^ b) := by
  rw [← Int32.ofBitVec_ofNat, ← Int32.ofBitVec_ofNat, ← Int32.ofBitVec_ofNat, BitVec.ofNat_xor, Int32.ofBitVec_xor]
/-- the set of those below c that have a property -/
def setN (P : Nat → Bool) : Nat → Nat
  | 0 => 0
  | c + 1 => if P c = true then setN P c ||| 2 ^ c else setN P c
theorem setN_bit (P : Nat → Bool) : ∀ c k, (setN P c).testBit k = (decide (k < c) && P k) := by
  intro c
  induction c with
  | zero => intro k; simp [setN]
  | succ c ih =>
    intro k
    unfold setN
    by_cases h : P c = true
    · rw [if_pos h, Nat.testBit_or, ih, Nat.testBit_two_pow]
      by_cases e : c = k
      · subst e
        simp [h]
      · have g : (k < c + 1) = (k < c) := by
          apply propext
          omega
        simp [e, g]
    · rw [if_neg h, ih]
      by_cases e : c = k
      · subst e
        simp [Bool.eq_false_iff.mpr h]
      · have g : (k < c + 1) = (k < c) := by
          apply propext
          omega
        simp only [g]
theorem setN_lt (P : Nat → Bool) (c : Nat) : setN P c < 2 ^ c := by
  apply Nat.lt_pow_two_of_testBit
  intro i hi
  rw [setN_bit]
  have : ¬ i < c := by omega
  simp [this]
theorem set_ext {a b : Nat} (h : ∀ k, a.testBit k = b.testBit k) : a = b := Nat.eq_of_testBit_eq h
