/-! BEST is the same; COUNTS of sets -/
def cntB (s : Nat) : Nat → Nat
  | 0 => 0
  | k + 1 => cntB s k + (if s.testBit k = true then 1 else 0)
theorem pop_cnt (s : Nat) : pop s = cntB s 8 := by
  have H : ∀ q, (List.range q).countP (fun k => s.testBit k) = cntB s q := by
    intro q
    induction q with
    | zero => rfl
    | succ q ih =>
      rw [List.range_succ, List.countP_append, ih, cntB, List.countP_cons, List.countP_nil, Nat.zero_add]
  exact H 8
theorem cntB_up {s c : Nat} (hs : s < 2 ^ c) : ∀ q, cntB s (c + q) = cntB s c := by
  intro q
  induction q with
  | zero => rfl
  | succ q ih =>
    rw [← Nat.add_assoc, cntB, ih, Nat.testBit_lt_two_pow (Nat.lt_of_lt_of_le hs (Nat.pow_le_pow_right (by omega) (by omega)))]
    rfl
theorem pop_c {s c : Nat} (hs : s < 2 ^ c) (hc : c ≤ 8) : pop s = cntB s c := by
  rw [pop_cnt, ← cntB_up hs (8 - c), show c + (8 - c) = 8 by omega]
theorem cntB_le (s : Nat) : ∀ k, cntB s k ≤ k := by
  intro k
  induction k with
  | zero => exact Nat.le_refl _
  | succ k ih => rw [cntB]; split <;> omega
theorem cntB_and (s e : Nat) : ∀ k, cntB (s &&& e) k ≤ cntB s k := by
  intro k
  induction k with
  | zero => exact Nat.le_refl _
  | succ k ih =>
    rw [cntB, cntB, Nat.testBit_and]
    cases s.testBit k <;> cases e.testBit k <;> simp <;> omega
theorem pop_and (s e : Nat) : pop (s &&& e) ≤ pop s := by rw [pop_cnt, pop_cnt]; exact cntB_and s e 8
theorem pg_eq {s c : Nat} {f : Nat → Nat} (hs : s < 2 ^ c) (hc : c ≤ 8) : pgC s f c = pgM s f c := by
  have H : ∀ k, pgC s f k + cntB s k = pop s + pgM s f k := by
    intro k
    induction k with
    | zero => rfl
    | succ k ih =>
      rw [pgC, pgM, cntB]
      by_cases g : s.testBit k = true
      · simp only [g, if_true]; omega
      · simp only [g, if_false, Bool.false_eq_true]; omega
  have := H c
  rw [pop_c hs hc] at this
  omega
theorem pgM_and {s e : Nat} {f : Nat → Nat} : ∀ k, pgM (s &&& e) f k ≤ pgM s f k := by
  intro k
  induction k with
  | zero => exact Nat.le_refl _
  | succ k ih =>
    rw [pgM, pgM, Nat.testBit_and]
    cases s.testBit k <;> cases e.testBit k <;> simp <;> omega
theorem pgM_0 {f : Nat → Nat} : ∀ k, pgM 0 f k = 0 := by
  intro k
  induction k with
  | zero => rfl
  | succ k ih => rw [pgM, ih]; simp
theorem pgC_0 {f : Nat → Nat} : ∀ k, pgC 0 f k = 0 := by
  intro k
  induction k with
  | zero => rfl
  | succ k ih => rw [pgC, ih]; simp
theorem pgM_le {s c : Nat} {f : Nat → Nat} (hf : ∀ k, k < c → f k < 256) : ∀ k, k ≤ c → pgM s f k ≤ 9 * k := by
  intro k
  induction k with
  | zero => intro _; exact Nat.le_refl _
  | succ k ih =>
    intro hk
    have := ih (by omega)
    have := pop_le (f k) (hf k (by omega))
    rw [pgM]
    split <;> omega
/-- the best of all sets is the best of those among the errors -/
theorem best_eq {c E pg : Nat} {f : Nat → Nat} {q : Nat → Nat} (hc : c ≤ 8) (hE : E < 2 ^ c) {f1 f2 : Nat} (h1 : isBest (fun s => q s) (fun s => s &&& E = s ∧ pgC s f c ≤ pg) f1) (h2 : isBest (fun s => q (s &&& E)) (fun s => s < 2 ^ c ∧ pgM s f c ≤ pg) f2) : f1 = f2 := by
  obtain ⟨⟨a1, a2⟩, a3, a4⟩ := h2
  have e : f2 &&& E = f2 := by
    have b1 : f2 &&& E < 256 := Nat.lt_of_le_of_lt Nat.and_le_left a3
    have b2 := a4 (f2 &&& E) b1 ⟨Nat.lt_of_le_of_lt Nat.and_le_left a1, Nat.le_trans (pgM_and c) a2⟩
    have b3 : f2 &&& E ≤ f2 := Nat.and_le_left
    have b4 := pop_and f2 E
    have b5 : (f2 &&& E) &&& E = f2 &&& E := by rw [Nat.and_assoc, Nat.and_self]
    unfold val at b2
    dsimp only at b2
    rw [b5] at b2
    omega
  apply best_uniq h1
  refine ⟨⟨e, by rw [pg_eq a1 hc]; exact a2⟩, a3, ?_⟩
  intro t ht hA
  have t2 := sub_lt2 hE hA.1
  have := a4 t ht ⟨t2, by rw [← pg_eq t2 hc]; exact hA.2⟩
  unfold val at this ⊢
  dsimp only at this ⊢
  rw [e, hA.1] at this
  exact this
/-! counts -/
def cn (P : Nat → Bool) : Nat → Nat
  | 0 => 0
  | q + 1 => cn P q + (if P q = true then 1 else 0)
theorem cn_le (P : Nat → Bool) : ∀ q, cn P q ≤ q := by
  intro q
  induction q with
  | zero => exact Nat.le_refl _
  | succ q ih => rw [cn]; split <;> omega
theorem cn_congr {P Q : Nat → Bool} : ∀ q, (∀ s, s < q → P s = Q s) → cn P q = cn Q q := by
  intro q
  induction q with
  | zero => intro _; rfl
  | succ q ih => intro h; rw [cn, cn, ih (fun s hs => h s (by omega)), h q (by omega)]
theorem cn_add (P : Nat → Bool) (a : Nat) : ∀ b, cn P (a + b) = cn P a + cn (fun s => P (a + s)) b := by
  intro b
  induction b with
  | zero => rfl
  | succ b ih => rw [← Nat.add_assoc, cn, ih, cn]; omega
theorem cn_none {P : Nat → Bool} : ∀ q, (∀ s, s < q → P s = false) → cn P q = 0 := by
  intro q
  induction q with
  | zero => intro _; rfl
  | succ q ih => intro h; rw [cn, ih (fun s hs => h s (by omega)), h q (by omega)]; rfl
theorem tb_add {c s : Nat} (hs : s < 2 ^ c) (i : Nat) : (2 ^ c + s).testBit i = if i < c then s.testBit i else decide (i = c) := by
  have := Nat.testBit_two_pow_mul_add 1 hs i
  rw [Nat.mul_one] at this
  rw [this]
  by_cases h : i < c
  · rw [if_pos h, if_pos h]
  · rw [if_neg h, if_neg h]
    by_cases e : i = c
    · subst e; simp
    · rw [decide_eq_false e]
      have : i - c = (i - c - 1) + 1 := by omega
      rw [this, Nat.testBit_succ]
      simp
theorem and_lo {c s E : Nat} (hs : s < 2 ^ c) : s &&& E = s &&& (E % 2 ^ c) := by
  apply Nat.eq_of_testBit_eq
  intro i
  rw [Nat.testBit_and, Nat.testBit_and, Nat.testBit_mod_two_pow]
  by_cases h : i < c
  · simp [h]
  · rw [Nat.testBit_lt_two_pow (Nat.lt_of_lt_of_le hs (Nat.pow_le_pow_right (by omega) (by omega)))]; simp
theorem and_hi {c s E : Nat} (hE : E < 2 ^ (c + 1)) (hs : s < 2 ^ c) : (2 ^ c + s) &&& E = if E.testBit c = true then 2 ^ c + (s &&& (E % 2 ^ c)) else s &&& (E % 2 ^ c) := by
  have l : s &&& (E % 2 ^ c) < 2 ^ c := Nat.lt_of_le_of_lt Nat.and_le_left hs
  apply Nat.eq_of_testBit_eq
  intro i
  by_cases g : E.testBit c = true
  · rw [if_pos g, Nat.testBit_and, tb_add hs, tb_add l, Nat.testBit_and, Nat.testBit_mod_two_pow]
    by_cases h : i < c
    · simp [h]
    · rw [if_neg h, if_neg h]
      by_cases e : i = c
      · subst e; simp [g]
      · simp [e]
  · rw [if_neg g, Nat.testBit_and, tb_add hs, Nat.testBit_and, Nat.testBit_mod_two_pow]
    by_cases h : i < c
    · simp [h]
    · rw [if_neg h]
      by_cases e : i = c
      · subst e; simp [g]
      · simp [e, h]
theorem mod_cnt {E c : Nat} : ∀ k, k ≤ c → cntB (E % 2 ^ c) k = cntB E k := by
  intro k
  induction k with
  | zero => intro _; rfl
  | succ k ih =>
    intro hk
    rw [cntB, cntB, ih (by omega), Nat.testBit_mod_two_pow]
    simp [show k < c by omega]
theorem cn_mul : ∀ (c E : Nat) (Q : Nat → Bool), E < 2 ^ c → cn (fun s => Q (s &&& E)) (2 ^ c) = cn (fun t => isS E t && Q t) (2 ^ c) * 2 ^ (c - cntB E c) := by
  intro c
  induction c with
  | zero =>
    intro E Q hE
    have e : E = 0 := by simpa using hE
    subst e
    show cn (fun s => Q (s &&& 0)) 1 = cn (fun t => isS 0 t && Q t) 1 * 1
    simp [cn, isS]
  | succ c ih =>
    intro E Q hE
    have P1 : 2 ^ (c + 1) = 2 ^ c + 2 ^ c := by rw [Nat.pow_succ]; omega
    have lE : E % 2 ^ c < 2 ^ c := Nat.mod_lt _ (Nat.two_pow_pos c)
    have i1 := ih (E % 2 ^ c) Q lE
    have i2 := ih (E % 2 ^ c) (fun s => Q (2 ^ c + s)) lE
    have k1 := mod_cnt (E := E) c (Nat.le_refl c)
    have kl := cntB_le E c
    rw [k1] at i1 i2
    rw [P1, cn_add, cn_add]
    have l1 : cn (fun s => Q (s &&& E)) (2 ^ c) = cn (fun s => Q (s &&& (E % 2 ^ c))) (2 ^ c) := cn_congr _ (fun s hs => by rw [and_lo hs])
    have r1 : cn (fun t => isS E t && Q t) (2 ^ c) = cn (fun t => isS (E % 2 ^ c) t && Q t) (2 ^ c) := cn_congr _ (fun s hs => by unfold isS; rw [and_lo hs])
    rw [l1, r1, i1]
    by_cases g : E.testBit c = true
    · have l2 : cn (fun s => Q (2 ^ c + s &&& E)) (2 ^ c) = cn (fun s => Q (2 ^ c + (s &&& (E % 2 ^ c)))) (2 ^ c) := cn_congr _ (fun s hs => by rw [and_hi hE hs, if_pos g])
      have r2 : cn (fun s => isS E (2 ^ c + s) && Q (2 ^ c + s)) (2 ^ c) = cn (fun t => isS (E % 2 ^ c) t && Q (2 ^ c + t)) (2 ^ c) := cn_congr _ (fun s hs => by
        have : isS E (2 ^ c + s) = isS (E % 2 ^ c) s := by
          unfold isS
          rw [and_hi hE hs, if_pos g, Bool.eq_iff_iff, beq_iff_eq, beq_iff_eq]
          omega
        rw [this])
      rw [l2, r2, i2, cntB, if_pos g, show c + 1 - (cntB E c + 1) = c - cntB E c by omega, ← Nat.add_mul]
    · have l2 : cn (fun s => Q (2 ^ c + s &&& E)) (2 ^ c) = cn (fun s => Q (s &&& (E % 2 ^ c))) (2 ^ c) := cn_congr _ (fun s hs => by rw [and_hi hE hs, if_neg g])
      have r2 : cn (fun s => isS E (2 ^ c + s) && Q (2 ^ c + s)) (2 ^ c) = 0 := cn_none _ (fun s hs => by
        have : isS E (2 ^ c + s) = false := by
          unfold isS
          rw [and_hi hE hs, if_neg g, beq_eq_false_iff_ne]
          have := Nat.and_le_left (n := s) (m := E % 2 ^ c)
          have := Nat.two_pow_pos c
          omega
        rw [this]; rfl)
      rw [l2, r2, i1, cntB, if_neg g, show c + 1 - (cntB E c + 0) = (c - cntB E c) + 1 by omega, Nat.pow_succ, Nat.add_zero]
      generalize 2 ^ (c - cntB E c) = u
      rw [← Nat.mul_assoc]
      omega
/-- all subsets below 256 lie below 2 ^ c -/
theorem cn_256 {c E : Nat} (hc : c ≤ 8) (hE : E < 2 ^ c) (Q : Nat → Bool) : cn (fun t => isS E t && Q t) 256 = cn (fun t => isS E t && Q t) (2 ^ c) := by
  have P8 := p2le hc
  have z : cn (fun s => isS E (2 ^ c + s) && Q (2 ^ c + s)) (256 - 2 ^ c) = 0 := cn_none _ (fun s hs => by
    have : isS E (2 ^ c + s) = false := by
      unfold isS
      rw [beq_eq_false_iff_ne]
      have := Nat.and_le_right (n := 2 ^ c + s) (m := E)
      omega
    rw [this]; rfl)
  have e : cn (fun t => isS E t && Q t) 256 = cn (fun t => isS E t && Q t) (2 ^ c + (256 - 2 ^ c)) := by rw [show 2 ^ c + (256 - 2 ^ c) = 256 by omega]
  rw [e, cn_add, z, Nat.add_zero]
theorem fate_eq {c E : Nat} (hc : c ≤ 8) (hE : E < 2 ^ c) (Q : Nat → Bool) : cn (fun s => Q (s &&& E)) (2 ^ c) = cn (fun t => isS E t && Q t) 256 * 2 ^ (c - pop E) := by
  rw [cn_256 hc hE, pop_c hE hc, cn_mul c E Q hE]
