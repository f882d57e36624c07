/-! PIVOTAL: both sides look for the same -/
section PV
variable {o zz i : Nat} {win : Nat → Bool}
theorem xo {a k : Nat} (h : a.testBit k = false) : a ^^^ 2 ^ k = a ||| 2 ^ k := by
  refine set_ext fun j => ?_
  rw [Nat.testBit_xor, Nat.testBit_or, tb2]
  by_cases e : k = j
  · subst e; rw [h, Bool.false_xor, Bool.false_or]
  · rw [decide_eq_false e]; cases a.testBit j <;> rfl
theorem pv (hi : i < 8) (zz8 : zz < 256) (o8 : o < 256) (dj : zz &&& o = 0) (oi : o.testBit i = true) :
    (∃ r, r < 256 ∧ r &&& o = r ∧ ¬ win ((zz ||| r) ^^^ 2 ^ i) = win (zz ||| r)) ↔ (¬ win zz = win (zz ||| 2 ^ i)) ∨ ∃ r, 0 < r ∧ r < 256 ∧ r &&& (o &&& (255 ^^^ 2 ^ i)) = r ∧ ¬ win (zz ||| r) = win (zz ||| r ||| 2 ^ i) := by
  have zi : zz.testBit i = false := by
    have D := congrArg (fun t => t.testBit i) dj
    simp only [Nat.testBit_and, Nat.zero_testBit, oi, Bool.and_true] at D
    exact D
  constructor
  · rintro ⟨r, h1, h2, h3⟩
    have key : ∃ r', r' < 256 ∧ r' &&& (o &&& (255 ^^^ 2 ^ i)) = r' ∧ ¬ win (zz ||| r') = win (zz ||| r' ||| 2 ^ i) := by
      cases ri : r.testBit i with
      | false =>
        refine ⟨r, h1, ?_, ?_⟩
        · refine set_ext fun j => ?_
          have D := congrArg (fun t => t.testBit j) h2
          simp only [Nat.testBit_and] at D
          rw [Nat.testBit_and, Nat.testBit_and, tbn, tb2]
          by_cases e : i = j
          · subst e; rw [ri]; rfl
          · by_cases h8 : j < 8
            · rw [decide_eq_false e, decide_eq_true h8]; revert D; cases r.testBit j <;> cases o.testBit j <;> decide
            · rw [tb_hi h1 (by omega)]; rfl
        · have : (zz ||| r).testBit i = false := by rw [Nat.testBit_or, zi, ri]; rfl
          rw [xo this] at h3
          exact fun e => h3 e.symm
      | true =>
        refine ⟨r &&& (255 ^^^ 2 ^ i), Nat.lt_of_le_of_lt Nat.and_le_left h1, ?_, ?_⟩
        · refine set_ext fun j => ?_
          have D := congrArg (fun t => t.testBit j) h2
          simp only [Nat.testBit_and] at D
          simp only [Nat.testBit_and, tbn, tb2]
          revert D
          cases decide (j < 8) <;> cases decide (i = j) <;> cases r.testBit j <;> cases o.testBit j <;> decide
        · have a1 : zz ||| (r &&& (255 ^^^ 2 ^ i)) ||| 2 ^ i = zz ||| r := by
            refine set_ext fun j => ?_
            simp only [Nat.testBit_or, Nat.testBit_and, tbn, tb2]
            by_cases e : i = j
            · subst e; rw [ri, decide_eq_true rfl]; simp
            · by_cases h8 : j < 8
              · rw [decide_eq_false e, decide_eq_true h8]; cases r.testBit j <;> cases zz.testBit j <;> rfl
              · rw [tb_hi h1 (by omega), decide_eq_false e]; cases zz.testBit j <;> rfl
          have a2 : (zz ||| r) ^^^ 2 ^ i = zz ||| (r &&& (255 ^^^ 2 ^ i)) := by
            refine set_ext fun j => ?_
            simp only [Nat.testBit_xor, Nat.testBit_or, Nat.testBit_and, tb255, tb2]
            by_cases e : i = j
            · subst e; rw [ri, zi, decide_eq_true rfl, decide_eq_true hi]; rfl
            · by_cases h8 : j < 8
              · rw [decide_eq_false e, decide_eq_true h8]; cases r.testBit j <;> cases zz.testBit j <;> rfl
              · rw [tb_hi h1 (by omega), decide_eq_false e]; cases zz.testBit j <;> rfl
          rw [a1, ← a2]; exact h3
    obtain ⟨r', k1, k2, k3⟩ := key
    by_cases e : r' = 0
    · subst e; rw [Nat.or_zero] at k3; exact Or.inl k3
    · exact Or.inr ⟨r', by omega, k1, k2, k3⟩
  · rintro (h | ⟨r, h0, h1, h2, h3⟩)
    · exact ⟨0, by omega, Nat.zero_and o, by rw [Nat.or_zero, xo zi]; exact fun e => h e.symm⟩
    · have ri : r.testBit i = false := by
        have D := congrArg (fun t => t.testBit i) h2
        simp only [Nat.testBit_and, tbn, tb2, decide_eq_true hi] at D
        simpa using D.symm
      refine ⟨r, h1, ?_, ?_⟩
      · refine set_ext fun j => ?_
        have D := congrArg (fun t => t.testBit j) h2
        simp only [Nat.testBit_and] at D
        rw [Nat.testBit_and]
        revert D
        cases r.testBit j <;> cases o.testBit j <;> simp
      · have : (zz ||| r).testBit i = false := by rw [Nat.testBit_or, zi, ri]; rfl
        rw [xo this]; exact fun e => h3 e.symm
end PV
