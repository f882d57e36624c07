/-! RUNS OF THE PICTURE MACHINE, without fuel: rn d m pc ls st h r: from there it ends with r -/
theorem ip_run_more : ∀ (n d m pc : Nat) (ls : List (Option Value)) (st : List Value) (h : ip_H) (r : ip_O × ip_H), ip_run n d m pc ls st h = some r → ip_run (n + 1) d m pc ls st h = some r := by
  intro n
  induction n with
  | zero => intro d m pc ls st h r e; cases e
  | succ n ih =>
    intro d m pc ls st h r e
    rw [ip_run] at e ⊢
    cases hd : decode (ip_code m) pc with
    | error z => simp only [hd] at e; cases e
    | ok q =>
      obtain ⟨i, len⟩ := q
      simp only [hd] at e ⊢
      cases hp : ip_pure pc i len ls st with
      | some q =>
        obtain ⟨pc1, ls1, st1⟩ := q
        simp only [hp] at e ⊢
        exact ih _ _ _ _ _ _ _ e
      | none =>
        simp only [hp] at e ⊢
        cases hq : ip_heap m i len st h with
        | some q =>
          obtain ⟨st1, h1⟩ := q
          simp only [hq] at e ⊢
          exact ih _ _ _ _ _ _ _ e
        | none =>
          simp only [hq] at e ⊢
          cases he : ip_end m i len st with
          | some v => simp only [he] at e ⊢; exact e
          | none =>
            simp only [he] at e ⊢
            cases ht : ip_thr m pc i len st with
            | some E => simp only [ht] at e ⊢; exact e
            | none =>
              simp only [ht] at e ⊢
              cases d with
              | zero => cases e
              | succ d =>
                dsimp only at e ⊢
                cases hi : ip_inv m i len st h with
                | none => simp only [hi] at e; cases e
                | some q =>
                  obtain ⟨m1, as, rest⟩ := q
                  simp only [hi] at e ⊢
                  cases h1 : ip_run n d m1 0 (ip_entry m1 as) [] h with
                  | none => simp only [h1] at e; cases e
                  | some q =>
                    obtain ⟨o, h2⟩ := q
                    have h3 := ih _ _ _ _ _ _ _ h1
                    match o, h1, h3, e with
                    | .inl none, h1, h3, e => simp only [h1] at e; simp only [h3]; exact ih _ _ _ _ _ _ _ e
                    | .inl (some v), h1, h3, e => simp only [h1] at e; simp only [h3]; exact ih _ _ _ _ _ _ _ e
                    | .inr E, h1, h3, e => simp only [h1] at e; simp only [h3]; exact e
theorem ip_run_up {n k d m pc : Nat} {ls : List (Option Value)} {st : List Value} {h : ip_H} {r : ip_O × ip_H} (e : ip_run n d m pc ls st h = some r) : ip_run (n + k) d m pc ls st h = some r := by
  induction k with
  | zero => exact e
  | succ k ih => exact ip_run_more _ _ _ _ _ _ _ _ ih
def rn (d m pc : Nat) (ls : List (Option Value)) (st : List Value) (h : ip_H) (r : ip_O × ip_H) : Prop := ∃ n, ip_run n d m pc ls st h = some r
/-- a call -/
def cl (d m : Nat) (as : List Value) (h : ip_H) (r : ip_O × ip_H) : Prop := rn d m 0 (ip_entry m as) [] h r
section RN
variable {d m pc len : Nat} {ls ls' : List (Option Value)} {st st' : List Value} {h h' : ip_H} {r : ip_O × ip_H} {i : Instr}
theorem rn_pure {pc' : Nat} (hd : decode (ip_code m) pc = .ok (i, len)) (hp : ip_pure pc i len ls st = some (pc', ls', st')) (k : rn d m pc' ls' st' h r) : rn d m pc ls st h r := by
  obtain ⟨n, e⟩ := k
  refine ⟨n + 1, ?_⟩
  rw [ip_run]
  simp only [hd, hp]
  exact e
theorem rn_heap (hd : decode (ip_code m) pc = .ok (i, len)) (hp : ip_pure pc i len ls st = none) (hq : ip_heap m i len st h = some (st', h')) (k : rn d m (pc + len) ls st' h' r) : rn d m pc ls st h r := by
  obtain ⟨n, e⟩ := k
  refine ⟨n + 1, ?_⟩
  rw [ip_run]
  simp only [hd, hp, hq]
  exact e
theorem rn_end {v : Option Value} (hd : decode (ip_code m) pc = .ok (i, len)) (hp : ip_pure pc i len ls st = none) (hq : ip_heap m i len st h = none) (he : ip_end m i len st = some v) : rn d m pc ls st h (.inl v, h) := by
  refine ⟨1, ?_⟩
  rw [ip_run]
  simp only [hd, hp, hq, he]
theorem rn_thr {E : String} (hd : decode (ip_code m) pc = .ok (i, len)) (hp : ip_pure pc i len ls st = none) (hq : ip_heap m i len st h = none) (he : ip_end m i len st = none) (ht : ip_thr m pc i len st = some E) : rn d m pc ls st h (.inr E, ip_hx h) := by
  refine ⟨1, ?_⟩
  rw [ip_run]
  simp only [hd, hp, hq, he, ht]
  rfl
theorem rn_call0 {m' : Nat} {as rest : List Value} (hd : decode (ip_code m) pc = .ok (i, len)) (hp : ip_pure pc i len ls st = none) (hq : ip_heap m i len st h = none) (he : ip_end m i len st = none) (ht : ip_thr m pc i len st = none) (hi : ip_inv m i len st h = some (m', as, rest)) (c : cl d m' as h (.inl none, h')) (k : rn (d + 1) m (pc + 3) ls rest h' r) : rn (d + 1) m pc ls st h r := by
  obtain ⟨n1, e1⟩ := c
  obtain ⟨n2, e2⟩ := k
  refine ⟨n1 + n2 + 1, ?_⟩
  rw [ip_run]
  simp only [hd, hp, hq, he, ht, hi, ip_run_up (k := n2) e1]
  rw [Nat.add_comm n1 n2]
  exact ip_run_up e2
theorem rn_call1 {m' : Nat} {as rest : List Value} {v : Value} (hd : decode (ip_code m) pc = .ok (i, len)) (hp : ip_pure pc i len ls st = none) (hq : ip_heap m i len st h = none) (he : ip_end m i len st = none) (ht : ip_thr m pc i len st = none) (hi : ip_inv m i len st h = some (m', as, rest)) (c : cl d m' as h (.inl (some v), h')) (k : rn (d + 1) m (pc + 3) ls (v :: rest) h' r) : rn (d + 1) m pc ls st h r := by
  obtain ⟨n1, e1⟩ := c
  obtain ⟨n2, e2⟩ := k
  refine ⟨n1 + n2 + 1, ?_⟩
  rw [ip_run]
  simp only [hd, hp, hq, he, ht, hi, ip_run_up (k := n2) e1]
  rw [Nat.add_comm n1 n2]
  exact ip_run_up e2
theorem rn_callX {m' : Nat} {as rest : List Value} {E : String} {o : ip_O} (hd : decode (ip_code m) pc = .ok (i, len)) (hp : ip_pure pc i len ls st = none) (hq : ip_heap m i len st h = none) (he : ip_end m i len st = none) (ht : ip_thr m pc i len st = none) (hi : ip_inv m i len st h = some (m', as, rest)) (c : cl d m' as h (.inr E, h')) (hg : ip_got m pc E = some o) : rn (d + 1) m pc ls st h (o, h') := by
  obtain ⟨n1, e1⟩ := c
  refine ⟨n1 + 1, ?_⟩
  rw [ip_run]
  simp only [hd, hp, hq, he, ht, hi, e1, hg]
/-- more room does no harm -/
theorem ip_run_d : ∀ (n d m pc : Nat) (ls : List (Option Value)) (st : List Value) (h : ip_H) (r : ip_O × ip_H), ip_run n d m pc ls st h = some r → ip_run n (d + 1) m pc ls st h = some r := by
  intro n
  induction n with
  | zero => intro d m pc ls st h r e; cases e
  | succ n ih =>
    intro d m pc ls st h r e
    rw [ip_run] at e ⊢
    cases hd : decode (ip_code m) pc with
    | error z => simp only [hd] at e; cases e
    | ok q =>
      obtain ⟨i, len⟩ := q
      simp only [hd] at e ⊢
      cases hp : ip_pure pc i len ls st with
      | some q =>
        obtain ⟨pc1, ls1, st1⟩ := q
        simp only [hp] at e ⊢
        exact ih _ _ _ _ _ _ _ e
      | none =>
        simp only [hp] at e ⊢
        cases hq : ip_heap m i len st h with
        | some q =>
          obtain ⟨st1, h1⟩ := q
          simp only [hq] at e ⊢
          exact ih _ _ _ _ _ _ _ e
        | none =>
          simp only [hq] at e ⊢
          cases he : ip_end m i len st with
          | some v => simp only [he] at e ⊢; exact e
          | none =>
            simp only [he] at e ⊢
            cases ht : ip_thr m pc i len st with
            | some E => simp only [ht] at e ⊢; exact e
            | none =>
              simp only [ht] at e ⊢
              cases d with
              | zero => cases e
              | succ d =>
                dsimp only at e ⊢
                cases hi : ip_inv m i len st h with
                | none => simp only [hi] at e; cases e
                | some q =>
                  obtain ⟨m1, as, rest⟩ := q
                  simp only [hi] at e ⊢
                  cases h1 : ip_run n d m1 0 (ip_entry m1 as) [] h with
                  | none => simp only [h1] at e; cases e
                  | some q =>
                    obtain ⟨o, h2⟩ := q
                    have h3 := ih _ _ _ _ _ _ _ h1
                    match o, h1, h3, e with
                    | .inl none, h1, h3, e => simp only [h1] at e; simp only [h3]; exact ih _ _ _ _ _ _ _ e
                    | .inl (some v), h1, h3, e => simp only [h1] at e; simp only [h3]; exact ih _ _ _ _ _ _ _ e
                    | .inr E, h1, h3, e => simp only [h1] at e; simp only [h3]; exact e
theorem cl_up {as : List Value} {k : Nat} (h1 : cl d m as h r) : cl (d + k) m as h r := by
  obtain ⟨n, e⟩ := h1
  refine ⟨n, ?_⟩
  induction k with
  | zero => exact e
  | succ k ih => exact ip_run_d _ _ _ _ _ _ _ _ ih
theorem cl_le {as : List Value} {d' : Nat} (h1 : cl d m as h r) (hd : d ≤ d') : cl d' m as h r := by
  obtain ⟨k, rfl⟩ := Nat.le.dest hd
  exact cl_up h1
end RN
