/-! THE RESULT AS A FUNCTION: rf d m pc ls st h: how it ends from there (none: it doesn't); one equation an instruction -/
theorem rn_det {d m pc : Nat} {ls : List (Option Value)} {st : List Value} {h : ip_H} {r1 r2 : ip_O × ip_H} (a : rn d m pc ls st h r1) (b : rn d m pc ls st h r2) : r1 = r2 := by
  obtain ⟨n1, e1⟩ := a
  obtain ⟨n2, e2⟩ := b
  have e3 := ip_run_up (k := n2) e1
  have e4 := ip_run_up (k := n1) e2
  rw [Nat.add_comm] at e4
  exact Option.some.inj (e3.symm.trans e4)
noncomputable def rf (d m pc : Nat) (ls : List (Option Value)) (st : List Value) (h : ip_H) : Option (ip_O × ip_H) := @dite _ (∃ r, rn d m pc ls st h r) (Classical.propDecidable _) (fun H => some (Classical.choose H)) (fun _ => none)
noncomputable def cf (d m : Nat) (as : List Value) (h : ip_H) : Option (ip_O × ip_H) := rf d m 0 (ip_entry m as) [] h
section RF
variable {d m pc len : Nat} {ls ls' : List (Option Value)} {st st' : List Value} {h h' : ip_H} {r : ip_O × ip_H} {i : Instr}
theorem rf_of (k : rn d m pc ls st h r) : rf d m pc ls st h = some r := by
  unfold rf
  rw [dif_pos ⟨r, k⟩]
  exact congrArg some (rn_det (Classical.choose_spec (⟨r, k⟩ : ∃ r, rn d m pc ls st h r)) k)
theorem rf_to (k : rf d m pc ls st h = some r) : rn d m pc ls st h r := by
  unfold rf at k
  by_cases H : ∃ r, rn d m pc ls st h r
  · rw [dif_pos H] at k
    rw [← Option.some.inj k]
    exact Classical.choose_spec H
  · rw [dif_neg H] at k
    cases k
theorem rf_ext {d2 m2 pc2 : Nat} {ls2 : List (Option Value)} {st2 : List Value} {h2 : ip_H} (k : ∀ r, rn d m pc ls st h r ↔ rn d2 m2 pc2 ls2 st2 h2 r) : rf d m pc ls st h = rf d2 m2 pc2 ls2 st2 h2 := by
  by_cases H : ∃ r, rn d m pc ls st h r
  · obtain ⟨r, hr⟩ := H
    rw [rf_of hr, rf_of ((k r).mp hr)]
  · have H2 : ¬ ∃ r, rn d2 m2 pc2 ls2 st2 h2 r := fun ⟨r, hr⟩ => H ⟨r, (k r).mpr hr⟩
    unfold rf
    rw [dif_neg H, dif_neg H2]
theorem rf_pure {pc' : Nat} (hd : decode (ip_code m) pc = .ok (i, len)) (hp : ip_pure pc i len ls st = some (pc', ls', st')) : rf d m pc ls st h = rf d m pc' ls' st' h := by
  refine rf_ext (fun r => ⟨fun ⟨n, e⟩ => ?_, rn_pure hd hp⟩)
  cases n with
  | zero => cases e
  | succ n =>
    rw [ip_run] at e
    simp only [hd, hp] at e
    exact ⟨n, e⟩
theorem rf_heap (hd : decode (ip_code m) pc = .ok (i, len)) (hp : ip_pure pc i len ls st = none) (hq : ip_heap m i len st h = some (st', h')) : rf d m pc ls st h = rf d m (pc + len) ls st' h' := by
  refine rf_ext (fun r => ⟨fun ⟨n, e⟩ => ?_, rn_heap hd hp hq⟩)
  cases n with
  | zero => cases e
  | succ n =>
    rw [ip_run] at e
    simp only [hd, hp, hq] at e
    exact ⟨n, e⟩
theorem rf_end {v : Option Value} (hd : decode (ip_code m) pc = .ok (i, len)) (hp : ip_pure pc i len ls st = none) (hq : ip_heap m i len st h = none) (he : ip_end m i len st = some v) : rf d m pc ls st h = some (.inl v, h) := rf_of (rn_end hd hp hq he)
theorem rf_thr {E : String} (hd : decode (ip_code m) pc = .ok (i, len)) (hp : ip_pure pc i len ls st = none) (hq : ip_heap m i len st h = none) (he : ip_end m i len st = none) (ht : ip_thr m pc i len st = some E) : rf d m pc ls st h = some (.inr E, ip_hx h) := rf_of (rn_thr hd hp hq he ht)
/-- what comes behind a call -/
noncomputable def rf_k (d m pc : Nat) (ls : List (Option Value)) (rest : List Value) (c : Option (ip_O × ip_H)) : Option (ip_O × ip_H) := match c with
  | none => none
  | some (.inl none, h') => rf d m (pc + 3) ls rest h'
  | some (.inl (some v), h') => rf d m (pc + 3) ls (v :: rest) h'
  | some (.inr E, h') => (ip_got m pc E).map (fun o => (o, h'))
theorem rf_call {m' : Nat} {as rest : List Value} (hd : decode (ip_code m) pc = .ok (i, len)) (hp : ip_pure pc i len ls st = none) (hq : ip_heap m i len st h = none) (he : ip_end m i len st = none) (ht : ip_thr m pc i len st = none) (hi : ip_inv m i len st h = some (m', as, rest)) : rf (d + 1) m pc ls st h = rf_k (d + 1) m pc ls rest (cf d m' as h) := by
  have back : ∀ r, rn (d + 1) m pc ls st h r → ∃ q, cl d m' as h q := by
    rintro r ⟨n, e⟩
    cases n with
    | zero => cases e
    | succ n =>
      rw [ip_run] at e
      simp only [hd, hp, hq, he, ht, hi] at e
      cases h1 : ip_run n d m' 0 (ip_entry m' as) [] h with
      | none => simp only [h1] at e; cases e
      | some q => exact ⟨q, n, h1⟩
  by_cases H : ∃ q, cl d m' as h q
  · obtain ⟨⟨o, h1⟩, hc⟩ := H
    have hcf : cf d m' as h = some (o, h1) := rf_of hc
    rw [hcf]
    have fwd : ∀ (n : Nat) (r : ip_O × ip_H), ip_run (n + 1) (d + 1) m pc ls st h = some r → ∃ n1, ip_run n1 d m' 0 (ip_entry m' as) [] h = some (o, h1) ∧ n1 = n := by
      intro n r e
      rw [ip_run] at e
      simp only [hd, hp, hq, he, ht, hi] at e
      cases h2 : ip_run n d m' 0 (ip_entry m' as) [] h with
      | none => simp only [h2] at e; cases e
      | some q =>
        have : q = (o, h1) := rn_det (d := d) (m := m') ⟨n, h2⟩ hc
        exact ⟨n, by rw [← this]; exact h2, rfl⟩
    match o, hc, fwd with
    | .inl none, hc, fwd =>
      refine rf_ext (fun r => ⟨fun ⟨n, e⟩ => ?_, rn_call0 hd hp hq he ht hi hc⟩)
      cases n with
      | zero => cases e
      | succ n =>
        obtain ⟨n1, h2, rfl⟩ := fwd n r e
        rw [ip_run] at e
        simp only [hd, hp, hq, he, ht, hi, h2] at e
        exact ⟨n1, e⟩
    | .inl (some v), hc, fwd =>
      refine rf_ext (fun r => ⟨fun ⟨n, e⟩ => ?_, rn_call1 hd hp hq he ht hi hc⟩)
      cases n with
      | zero => cases e
      | succ n =>
        obtain ⟨n1, h2, rfl⟩ := fwd n r e
        rw [ip_run] at e
        simp only [hd, hp, hq, he, ht, hi, h2] at e
        exact ⟨n1, e⟩
    | .inr E, hc, fwd =>
      show rf (d + 1) m pc ls st h = (ip_got m pc E).map (fun o => (o, h1))
      cases hg : ip_got m pc E with
      | some o => exact rf_of (rn_callX hd hp hq he ht hi hc hg)
      | none =>
        have H2 : ¬ ∃ r, rn (d + 1) m pc ls st h r := by
          rintro ⟨r, n, e⟩
          cases n with
          | zero => cases e
          | succ n =>
            obtain ⟨n1, h2, rfl⟩ := fwd n r e
            rw [ip_run] at e
            simp only [hd, hp, hq, he, ht, hi, h2, hg] at e
            cases e
        unfold rf
        rw [dif_neg H2]
        rfl
  · have H2 : ¬ ∃ r, rn (d + 1) m pc ls st h r := fun ⟨r, hr⟩ => H (back r hr)
    have hcf : cf d m' as h = none := by
      unfold cf rf
      exact dif_neg H
    rw [hcf]
    unfold rf
    rw [dif_neg H2]
    rfl
theorem cf_le {as : List Value} {d' : Nat} (h1 : cf d m as h = some r) (hd : d ≤ d') : cf d' m as h = some r := rf_of (cl_le (rf_to h1) hd)
end RF
