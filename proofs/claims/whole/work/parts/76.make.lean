/-! MAKENODE: the class -/
theorem tb_mod1 {t k : Nat} (i : Nat) : (t % 2 ^ k).testBit i = (decide (i < k) && t.testBit i) := Nat.testBit_mod_two_pow t k i
theorem andn_lt {a b : Nat} (ha : a < 256) : a &&& (255 ^^^ b) < 256 := Nat.lt_of_le_of_lt Nat.and_le_left ha
section MK
variable {n d a b T c s t z o w m p lev k side ap b0 b1 h0 h1 md C F B pg po u A t' o' S' : Nat} {I J K M : Nat → Nat → Int32} {L : Nat → Nat → Int64} {R : Nat → Nat → Option Nat} {nc ns : Nat} {nx : Bool} {x y j v lv hw0 what ah num : Int32} {h : ip_H} {f g std rst V : Nat → Nat} {win : Nat → Bool} {br fl : Nat → Int32}
def inN (A a : Nat) : Prop := A ≤ a ∧ a ≤ A + 4
theorem copy_get (hab : A + 5 ≤ F ∨ F + 5 ≤ A) : (∀ a j, ¬ inN A a → copyI I A F a j = I a j) ∧ (∀ j, (j = 4 ∨ j = 5 ∨ j = 6 ∨ j = 7 ∨ j = 8 ∨ j = 11) → copyI I A F A j = I F j) ∧ (∀ s, s < 2 → copyI I A F (A + 2) s = I (F + 2) s) ∧ (∀ i, i < 8 → copyI I A F (A + 3) i = I (F + 3) i ∧ copyI I A F (A + 4) i = I (F + 4) i) := by
  have q1 : ¬ F = A := by omega
  have q2 : ¬ F + 2 = A := by omega
  have q3 : ¬ F + 3 = A := by omega
  have q4 : ¬ F + 4 = A := by omega
  unfold copyI
  refine ⟨?_, ?_, ?_, ?_⟩
  · intro a j h
    have g0 : ¬ a = A := fun e => h (by unfold inN; omega)
    have g2 : ¬ a = A + 2 := fun e => h (by unfold inN; omega)
    have g3 : ¬ a = A + 3 := fun e => h (by unfold inN; omega)
    have g4 : ¬ a = A + 4 := fun e => h (by unfold inN; omega)
    simp only [row_a, up_a, g0, g2, g3, g4, not_false_eq_true]
  · intro j hj
    have g2 : ¬ A = A + 2 := by omega
    have g3 : ¬ A = A + 3 := by omega
    have g4 : ¬ A = A + 4 := by omega
    rcases hj with rfl | rfl | rfl | rfl | rfl | rfl <;> simp only [row_a, g2, g3, g4, up_eq, up_k, Nat.reduceEqDiff, not_false_eq_true]
  · intro s hs
    have g3 : ¬ A + 2 = A + 3 := by omega
    have g4 : ¬ A + 2 = A + 4 := by omega
    rw [row_a g4, row_a g3, row_eq]
    unfold va_cpy
    rw [if_pos (by omega)]
    simp
  · intro i hi
    have g4 : ¬ A + 3 = A + 4 := by omega
    have u3 : ∀ j, va_cpy (I (F + 3)) (I (A + 3)) 0 0 8 j = if j < 8 then I (F + 3) j else I (A + 3) j := by intro j; unfold va_cpy; simp
    have u4 : ∀ j, va_cpy (I (F + 4)) (I (A + 4)) 0 0 8 j = if j < 8 then I (F + 4) j else I (A + 4) j := by intro j; unfold va_cpy; simp
    constructor
    · rw [row_a g4, row_eq, u3, if_pos hi]
    · rw [row_eq, u4, if_pos hi]
theorem dec_get (hk : k < 8) {z4 z5 z6 k0 k1 : Nat} (l4 : z4 < 256) (l5 : z5 < 256) (l6 : z6 < 256) (lk0 : k0 < 256) (lk1 : k1 < 256) (e4 : J A 4 = Int32.ofNat z4) (e5 : J A 5 = Int32.ofNat z5) (e6 : J A 6 = Int32.ofNat z6) (f0 : J (A + 2) 0 = Int32.ofNat k0) (f1 : J (A + 2) 1 = Int32.ofNat k1) :
    (∀ a j, ¬ (a = A ∧ (j = 4 ∨ j = 5 ∨ j = 6)) → ¬ a = A + 2 → ¬ (a = A + 3 ∧ j = k) → ¬ (a = A + 4 ∧ j = k) → decideI J A (Int32.ofNat k) y x num a j = J a j) ∧
    decideI J A (Int32.ofNat k) y x num A 4 = Int32.ofNat (if y = 0 then z4 &&& (255 ^^^ 2 ^ k) ||| 2 ^ k else z4 &&& (255 ^^^ 2 ^ k)) ∧
    decideI J A (Int32.ofNat k) y x num A 5 = Int32.ofNat (if y = 0 then z5 &&& (255 ^^^ 2 ^ k) else z5 &&& (255 ^^^ 2 ^ k) ||| 2 ^ k) ∧
    decideI J A (Int32.ofNat k) y x num A 6 = Int32.ofNat ((z6 ||| 2 ^ k) &&& (255 ^^^ 2 ^ k)) ∧
    decideI J A (Int32.ofNat k) y x num (A + 2) 0 = Int32.ofNat (k0 &&& (255 ^^^ 2 ^ k)) ∧
    decideI J A (Int32.ofNat k) y x num (A + 2) 1 = Int32.ofNat (k1 &&& (255 ^^^ 2 ^ k)) ∧
    decideI J A (Int32.ofNat k) y x num (A + 3) k = x ∧ decideI J A (Int32.ofNat k) y x num (A + 4) k = num := by
  have p8 : 2 ^ k < 256 := Nat.pow_lt_pow_right (n := 8) (by omega) hk
  have tk : (Int32.ofNat k).toNatClampNeg = k := nu_tn (by omega)
  have s1 := sh1 k hk
  have a4 := of_andn z4 l4 _ p8
  have a5 := of_andn z5 l5 _ p8
  have a6 := of_andn (z6 ||| 2 ^ k) (Nat.or_lt_two_pow (n := 8) l6 p8) _ p8
  have b0 := of_andn k0 lk0 _ p8
  have b1 := of_andn k1 lk1 _ p8
  have n2 : ¬ A = A + 2 := by omega
  have n3 : ¬ A = A + 3 := by omega
  have n4 : ¬ A = A + 4 := by omega
  have n23 : ¬ A + 2 = A + 3 := by omega
  have n24 : ¬ A + 2 = A + 4 := by omega
  have n34 : ¬ A + 3 = A + 4 := by omega
  have m2 : ¬ A + 2 = A := by omega
  have m3 : ¬ A + 3 = A := by omega
  have m4 : ¬ A + 4 = A := by omega
  unfold decideI reopenI
  rw [tk, s1]
  by_cases hy : y = 0
  · refine ⟨?_, ?_, ?_, ?_, ?_, ?_, ?_, ?_⟩
    · intro a j h1 h2 h3 h4
      by_cases g3 : a = A + 3
      · subst g3
        have : ¬ j = k := fun e => h3 ⟨rfl, e⟩
        simp only [hy, if_true, up_a, up_k, this, n34, m3, n23, show ¬ A + 3 = A + 2 by omega, not_false_eq_true]
      · by_cases g4 : a = A + 4
        · subst g4
          have : ¬ j = k := fun e => h4 ⟨rfl, e⟩
          simp only [hy, if_true, up_a, up_k, this, m4, show ¬ A + 4 = A + 2 by omega, show ¬ A + 4 = A + 3 by omega, not_false_eq_true]
        · by_cases g0 : a = A
          · subst g0
            have j4 : ¬ j = 4 := fun e => h1 ⟨rfl, Or.inl e⟩
            have j5 : ¬ j = 5 := fun e => h1 ⟨rfl, Or.inr (Or.inl e)⟩
            have j6 : ¬ j = 6 := fun e => h1 ⟨rfl, Or.inr (Or.inr e)⟩
            simp only [hy, if_true, up_a, up_k, n2, n3, n4, j4, j5, j6, not_false_eq_true]
          · simp only [hy, if_true, up_a, g0, h2, g3, g4, not_false_eq_true]
    · simp only [hy, if_true, up_a, up_k, up_eq, n2, n3, n4, e4, a4, of_or, Nat.reduceEqDiff, not_false_eq_true]
    · simp only [hy, if_true, up_a, up_k, up_eq, n2, n3, n4, e5, a5, of_or, Nat.reduceEqDiff, not_false_eq_true]
    · simp only [hy, if_true, up_a, up_k, up_eq, n2, n3, n4, e6, of_or, a6, Nat.reduceEqDiff, not_false_eq_true]
    · simp only [hy, if_true, up_a, up_k, up_eq, n23, n24, m2, f0, b0, Nat.reduceEqDiff, not_false_eq_true]
    · simp only [hy, if_true, up_a, up_k, up_eq, n23, n24, m2, f1, b1, Nat.reduceEqDiff, not_false_eq_true]
    · simp only [hy, if_true, up_a, up_k, up_eq, n34, not_false_eq_true]
    · simp only [hy, if_true, up_eq]
  · refine ⟨?_, ?_, ?_, ?_, ?_, ?_, ?_, ?_⟩
    · intro a j h1 h2 h3 h4
      by_cases g3 : a = A + 3
      · subst g3
        have : ¬ j = k := fun e => h3 ⟨rfl, e⟩
        simp only [hy, if_false, up_a, up_k, this, n34, m3, n23, show ¬ A + 3 = A + 2 by omega, not_false_eq_true]
      · by_cases g4 : a = A + 4
        · subst g4
          have : ¬ j = k := fun e => h4 ⟨rfl, e⟩
          simp only [hy, if_false, up_a, up_k, this, m4, show ¬ A + 4 = A + 2 by omega, show ¬ A + 4 = A + 3 by omega, not_false_eq_true]
        · by_cases g0 : a = A
          · subst g0
            have j4 : ¬ j = 4 := fun e => h1 ⟨rfl, Or.inl e⟩
            have j5 : ¬ j = 5 := fun e => h1 ⟨rfl, Or.inr (Or.inl e)⟩
            have j6 : ¬ j = 6 := fun e => h1 ⟨rfl, Or.inr (Or.inr e)⟩
            simp only [hy, if_false, up_a, up_k, n2, n3, n4, j4, j5, j6, not_false_eq_true]
          · simp only [hy, if_false, up_a, g0, h2, g3, g4, not_false_eq_true]
    · simp only [hy, if_false, up_a, up_k, up_eq, n2, n3, n4, e4, a4, of_or, Nat.reduceEqDiff, not_false_eq_true]
    · simp only [hy, if_false, up_a, up_k, up_eq, n2, n3, n4, e5, a5, of_or, Nat.reduceEqDiff, not_false_eq_true]
    · simp only [hy, if_false, up_a, up_k, up_eq, n2, n3, n4, e6, of_or, a6, Nat.reduceEqDiff, not_false_eq_true]
    · simp only [hy, if_false, up_a, up_k, up_eq, n23, n24, m2, f0, b0, Nat.reduceEqDiff, not_false_eq_true]
    · simp only [hy, if_false, up_a, up_k, up_eq, n23, n24, m2, f1, b1, Nat.reduceEqDiff, not_false_eq_true]
    · simp only [hy, if_false, up_a, up_k, up_eq, n34, not_false_eq_true]
    · simp only [hy, if_false, up_eq]
/-- one more bit of the turned -/
theorem mod_s {t k : Nat} (h : t.testBit k = true) : t % 2 ^ (k + 1) = t % 2 ^ k ||| 2 ^ k := by
  apply Nat.eq_of_testBit_eq
  intro i
  rw [Nat.testBit_or, tb_mod1, tb_mod1, Nat.testBit_two_pow]
  by_cases e : i = k
  · subst e; simp [h]
  · by_cases l : i < k
    · rw [decide_eq_false (fun h : k = i => e h.symm), Bool.or_false]; simp [l, show i < k + 1 by omega]
    · simp [l, show ¬ i < k + 1 by omega, show ¬ k = i by omega]
theorem mod_n {t k : Nat} (h : t.testBit k = false) : t % 2 ^ (k + 1) = t % 2 ^ k := by
  apply Nat.eq_of_testBit_eq
  intro i
  rw [tb_mod1, tb_mod1]
  by_cases e : i = k
  · subst e; simp [h]
  · by_cases l : i < k
    · simp [l, show i < k + 1 by omega]
    · simp [l, show ¬ i < k + 1 by omega]
/-- turning one bit, as decideIssue does -/
theorem flip_b {z t k : Nat} (hz : z < 256) (hk : k < 8) (ht : t.testBit k = true) (q : Prop) [Decidable q] (hq : q ↔ z.testBit k = false) : (if q then (z ^^^ t % 2 ^ k) &&& (255 ^^^ 2 ^ k) ||| 2 ^ k else (z ^^^ t % 2 ^ k) &&& (255 ^^^ 2 ^ k)) = z ^^^ t % 2 ^ (k + 1) := by
  have m2 : t % 2 ^ k < 256 := Nat.lt_of_lt_of_le (Nat.mod_lt _ (Nat.two_pow_pos k)) (p2le (by omega))
  have x8 : z ^^^ t % 2 ^ k < 256 := Nat.xor_lt_two_pow (n := 8) hz m2
  apply Nat.eq_of_testBit_eq
  intro i
  rw [mod_s ht]
  by_cases e : i = k
  · subst e
    have hb : (z ^^^ t % 2 ^ i).testBit i = z.testBit i := by rw [Nat.testBit_xor, tb_mod1]; simp
    by_cases g : q
    · rw [if_pos g, Nat.testBit_or, Nat.testBit_two_pow, Nat.testBit_xor, Nat.testBit_or, Nat.testBit_two_pow, tb_mod1, hq.mp g]
      simp
    · have : z.testBit i = true := tb_false (fun e => g (hq.mpr e))
      rw [if_neg g]
      simp only [Nat.testBit_and, tbn, Nat.testBit_two_pow, Nat.testBit_xor, Nat.testBit_or, tb_mod1, this]
      simp [hk, tb255]
  · have r : (z ^^^ (t % 2 ^ k ||| 2 ^ k)).testBit i = (z ^^^ t % 2 ^ k).testBit i := by
      rw [Nat.testBit_xor, Nat.testBit_or, Nat.testBit_two_pow, Nat.testBit_xor, decide_eq_false (fun h : k = i => e h.symm), Bool.or_false]
    rw [r]
    have l : ((z ^^^ t % 2 ^ k) &&& (255 ^^^ 2 ^ k)).testBit i = (z ^^^ t % 2 ^ k).testBit i := by
      rw [Nat.testBit_and, tbn, Nat.testBit_two_pow, decide_eq_false (fun h : k = i => e h.symm), Bool.xor_false]
      by_cases h8 : i < 8
      · simp [h8]
      · rw [tb_hi x8 (by omega)]; rfl
    by_cases g : q
    · rw [if_pos g, Nat.testBit_or, l, Nat.testBit_two_pow, decide_eq_false (fun h : k = i => e h.symm), Bool.or_false]
    · rw [if_neg g, l]
theorem keep_b {z t k : Nat} (hz : z < 256) (ht : t.testBit k = true) : (z &&& (255 ^^^ t % 2 ^ k)) &&& (255 ^^^ 2 ^ k) = z &&& (255 ^^^ t % 2 ^ (k + 1)) := by
  apply Nat.eq_of_testBit_eq
  intro i
  rw [mod_s ht]
  simp only [Nat.testBit_and, tbn, Nat.testBit_or, Nat.testBit_two_pow]
  by_cases h8 : i < 8
  · simp only [h8, decide_true, Bool.true_xor]
    cases z.testBit i <;> cases (t % 2 ^ k).testBit i <;> cases decide (k = i) <;> rfl
  · rw [tb_hi hz (by omega)]; rfl
theorem open_b {z k : Nat} (hz : z < 256) (hk : k < 8) (h : z.testBit k = false) : (z ||| 2 ^ k) &&& (255 ^^^ 2 ^ k) = z := by
  apply Nat.eq_of_testBit_eq
  intro i
  simp only [Nat.testBit_and, tbn, Nat.testBit_or, Nat.testBit_two_pow]
  by_cases e : k = i
  · subst e; simp [hk, h]
  · by_cases h8 : i < 8
    · simp [h8, e]
    · rw [tb_hi hz (by omega)]; simp [e]
end MK
