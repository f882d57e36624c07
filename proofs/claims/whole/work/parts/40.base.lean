/-! WORK ON MEMORY: reads behind writes, indices -/
theorem up_eq {α : Type} {f : Nat → Nat → α} {a k : Nat} {v : α} : ip_up f a k v a k = v := by
  unfold ip_up; rw [if_pos rfl, if_pos rfl]
theorem up_k {α : Type} {f : Nat → Nat → α} {a k j : Nat} {v : α} (h : ¬ j = k) : ip_up f a k v a j = f a j := by
  unfold ip_up; rw [if_pos rfl, if_neg h]
theorem up_a {α : Type} {f : Nat → Nat → α} {a k b j : Nat} {v : α} (h : ¬ b = a) : ip_up f a k v b j = f b j := by
  unfold ip_up; rw [if_neg h]
theorem inbL : inb 0 2 ∧ inb 1 2 ∧ inb 0 3 ∧ inb 1 3 ∧ inb 2 3 ∧ inb 0 4 ∧ inb 1 4 ∧ inb 2 4 ∧ inb 3 4 ∧ inb 0 6 ∧ inb 1 6 ∧ inb 2 6 ∧ inb 3 6 ∧ inb 4 6 ∧ inb 5 6 ∧ inb 0 8 ∧ inb 0 10 ∧ inb 0 40 ∧ inb 0 80 ∧ inb 1 80 ∧ inb 0 1 ∧ inb 0 256 ∧ inb 0 420 := by
  unfold inb; decide
theorem tnL : Int32.toNatClampNeg 0 = 0 ∧ Int32.toNatClampNeg 1 = 1 ∧ Int32.toNatClampNeg 2 = 2 ∧ Int32.toNatClampNeg 3 = 3 ∧ Int32.toNatClampNeg 4 = 4 ∧ Int32.toNatClampNeg 5 = 5 ∧ Int32.toNatClampNeg 8 = 8 := by decide
theorem ne_a1 {a k : Nat} : ¬ a + (k + 1) = a := by omega
theorem ne_a2 {a k : Nat} : ¬ a = a + (k + 1) := by omega
theorem nl_n : ip_nl none = true := by unfold ip_nl; rfl
theorem nl_i {x : Int32} : ip_nl (some (.int x)) = true := by unfold ip_nl; rfl
theorem nl_r {a : Nat} : ip_nl (some (.ref a)) = true := by unfold ip_nl; rfl
theorem cat_n : ip_cat [] = 0 := by unfold ip_cat; rfl
