/-! THE SCRIPT STAYS: no run writes the place 0 -/
def kp (n : Nat × Nat) (h h' : ip_H) : Prop := h'.1[0]? = some n ∧ ∀ j, h'.2.1 0 j = h.2.1 0 j
theorem kp_r {n : Nat × Nat} {h : ip_H} (hh : h.1[0]? = some n) : kp n h h := ⟨hh, fun _ => rfl⟩
theorem kp_up {n : Nat × Nat} {a k : Nat} {h : ip_H} {v : Int32} (hh : h.1[0]? = some n) (ha : 2 ≤ a) {X : (Nat → Nat → Int64) × (Nat → Nat → Option Nat) × Nat × Nat × Bool} : kp n h (h.1, ip_up h.2.1 a k v, X) := ⟨hh, fun _ => up_a (by omega)⟩
theorem kp_row {n : Nat × Nat} {a : Nat} {h : ip_H} {g : Nat → Int32} (hh : h.1[0]? = some n) (ha : 2 ≤ a) {X : (Nat → Nat → Int64) × (Nat → Nat → Option Nat) × Nat × Nat × Bool} : kp n h (h.1, ip_row h.2.1 a g, X) := ⟨hh, fun _ => by show ip_row h.2.1 a g 0 _ = _; unfold ip_row; rw [if_neg (by omega)]⟩
theorem kp_i {n : Nat × Nat} {h : ip_H} (hh : h.1[0]? = some n) {X : (Nat → Nat → Int64) × (Nat → Nat → Option Nat) × Nat × Nat × Bool} : kp n h (h.1, h.2.1, X) := ⟨hh, fun _ => rfl⟩
theorem kp_mk {n : Nat × Nat} {t l : Nat} {h : ip_H} (hh : h.1[0]? = some n) : kp n h (ip_mk t l h) := by
  have h0 : 0 < h.1.length := by
    refine Nat.pos_of_ne_zero (fun z => ?_)
    rw [List.length_eq_zero_iff.mp z] at hh
    cases hh
  refine ⟨?_, fun _ => ?_⟩
  · show (h.1 ++ [(t, l)])[0]? = _
    rw [List.getElem?_append_left h0]; exact hh
  · show ip_row h.2.1 h.1.length (fun _ => (0 : Int32)) 0 _ = _
    unfold ip_row; rw [if_neg (by omega)]
section KP
variable {n : Nat × Nat} {m len : Nat} {i : Instr} {st st' : List Value} {h h' : ip_H} {o x : Nat}
theorem kp_getf (hh : h.1[0]? = some n) (e : ip_getf o x st h = some (st', h')) : kp n h h' := by
  unfold ip_getf at e
  repeat' split at e
  all_goals first | (cases e; done) | (cases e; exact kp_r hh)
theorem kp_wr {ci a k : Nat} {v : Value} (hh : h.1[0]? = some n) (ha : 2 ≤ a) (e : ip_wr h ci a k v = some h') : kp n h h' := by
  unfold ip_wr at e
  repeat' split at e
  all_goals first | (cases e; done) | (cases e; exact kp_up hh ha) | (cases e; exact kp_i hh)
theorem kp_putf (hh : h.1[0]? = some n) (e : ip_putf m o x st h = some (st', h')) : kp n h h' := by
  unfold ip_putf at e
  split at e
  · split at e
    · split at e
      · rename_i q
        rw [Option.map_eq_some_iff] at e
        obtain ⟨h2, e1, e2⟩ := e
        cases e2
        exact kp_wr hh q.2.1 e1
      · cases e
    · cases e
  · cases e
theorem kp_rd (hh : h.1[0]? = some n) (e : ip_iald st h = some (st', h') ∨ ip_zald st h = some (st', h') ∨ ip_lald st h = some (st', h') ∨ ip_aald st h = some (st', h') ∨ ip_alen st h = some (st', h')) : kp n h h' := by
  rcases e with e | e | e | e | e
  · unfold ip_iald at e
    repeat' split at e
    all_goals first | (cases e; done) | (cases e; exact kp_r hh)
  · unfold ip_zald at e
    repeat' split at e
    all_goals first | (cases e; done) | (cases e; exact kp_r hh)
  · unfold ip_lald at e
    repeat' split at e
    all_goals first | (cases e; done) | (cases e; exact kp_r hh)
  · unfold ip_aald at e
    repeat' split at e
    all_goals first | (cases e; done) | (cases e; exact kp_r hh)
  · unfold ip_alen at e
    repeat' split at e
    all_goals first | (cases e; done) | (cases e; exact kp_r hh)
theorem kp_st (hh : h.1[0]? = some n) (e : ip_iast st h = some (st', h') ∨ ip_zast st h = some (st', h') ∨ ip_last st h = some (st', h') ∨ ip_aast st h = some (st', h')) : kp n h h' := by
  rcases e with e | e | e | e
  · unfold ip_iast at e
    repeat' split at e
    all_goals first | (cases e; done) | (rename_i q; cases e; exact kp_up hh q.1.2)
  · unfold ip_zast at e
    repeat' split at e
    all_goals first | (cases e; done) | (rename_i q; cases e; exact kp_up hh q.1.2)
  · unfold ip_last at e
    repeat' split at e
    all_goals first | (cases e; done) | (cases e; exact kp_i hh)
  · unfold ip_aast at e
    repeat' split at e
    all_goals first | (cases e; done) | (cases e; exact kp_i hh)
theorem kp_nw {t : ArrayType} (hh : h.1[0]? = some n) (e : ip_new o x st h = some (st', h') ∨ ip_newa t st h = some (st', h') ∨ ip_anew o x st h = some (st', h')) : kp n h h' := by
  rcases e with e | e | e
  · unfold ip_new at e
    repeat' split at e
    all_goals first | (cases e; done) | (cases e; exact kp_mk hh)
  · unfold ip_newa at e
    repeat' split at e
    all_goals first | (cases e; done) | (cases e; exact kp_mk hh)
  · unfold ip_anew at e
    repeat' split at e
    all_goals first | (cases e; done) | (cases e; exact kp_mk hh)
theorem kp_ldc (hh : h.1[0]? = some n) (e : ip_ldc o x st h = some (st', h')) : kp n h h' := by
  unfold ip_ldc at e
  repeat' split at e
  all_goals first | (cases e; done) | (cases e; exact kp_r hh)
theorem kp_s3 (hh : h.1[0]? = some n) (e : ip_s3 st h = some (st', h')) : kp n h h' := by
  unfold ip_s3 at e
  split at e
  · split at e
    · split at e
      · rename_i q
        unfold ip_cpk at e
        repeat' split at e
        all_goals first | (cases e; done) | (cases e; exact kp_row hh q.2.1) | (cases e; exact kp_i hh)
      · cases e
    · cases e
  · cases e
theorem kp_spi {ks : List Nat} (hh : h.1[0]? = some n) (e : ip_spi m x ks st h = some (st', h')) : kp n h h' := by
  unfold ip_spi at e
  split at e
  · split at e
    · unfold ip_spec at e
      split at e
      · unfold ip_s0 at e
        repeat' split at e
        all_goals first | (cases e; done) | (cases e; exact kp_r hh)
      · split at e
        · unfold ip_s1 at e
          repeat' split at e
          all_goals first | (cases e; done) | (cases e; exact kp_r hh)
        · split at e
          · unfold ip_s2 at e
            repeat' split at e
            all_goals first | (cases e; done) | (cases e; exact kp_r hh)
          · split at e
            · exact kp_s3 hh e
            · split at e
              · unfold ip_s4 at e
                repeat' split at e
                all_goals first | (cases e; done) | (cases e; exact kp_r hh)
              · cases e
    · cases e
  · cases e
theorem kp_heap (hh : h.1[0]? = some n) (e : ip_heap m i len st h = some (st', h')) : kp n h h' := by
  unfold ip_heap at e
  split at e
  all_goals first
    | (cases e; done)
    | (split at e
       · first
         | exact kp_getf hh e
         | exact kp_putf hh e
         | exact kp_rd hh (Or.inl e)
         | exact kp_rd hh (Or.inr (Or.inl e))
         | exact kp_rd hh (Or.inr (Or.inr (Or.inl e)))
         | exact kp_rd hh (Or.inr (Or.inr (Or.inr (Or.inl e))))
         | exact kp_rd hh (Or.inr (Or.inr (Or.inr (Or.inr e))))
         | exact kp_st hh (Or.inl e)
         | exact kp_st hh (Or.inr (Or.inl e))
         | exact kp_st hh (Or.inr (Or.inr (Or.inl e)))
         | exact kp_st hh (Or.inr (Or.inr (Or.inr e)))
         | exact kp_nw (t := .int) hh (Or.inl e)
         | exact kp_nw (o := 0) (x := 0) hh (Or.inr (Or.inl e))
         | exact kp_nw (t := .int) hh (Or.inr (Or.inr e))
         | exact kp_ldc hh e
         | exact kp_spi hh e
         | (cases e; exact kp_r hh)
         | (split at e
            · cases e; exact kp_r hh
            · cases e)
       · cases e)
theorem kp_t {h1 h2 h3 : ip_H} (a : kp n h1 h2) (b : kp n h2 h3) : kp n h1 h3 := ⟨b.1, fun j => (b.2 j).trans (a.2 j)⟩
theorem kp_run : ∀ (f d m pc : Nat) (ls : List (Option Value)) (st : List Value) (h : ip_H) (r : ip_O × ip_H), h.1[0]? = some n → ip_run f d m pc ls st h = some r → kp n h r.2 := by
  intro f
  induction f with
  | zero => intro d m pc ls st h r hh e; cases e
  | succ f ih =>
    intro d m pc ls st h r hh e
    rw [ip_run] at e
    split at e
    · cases e
    · split at e
      · exact ih _ _ _ _ _ _ _ hh e
      · split at e
        · rename_i q
          have k1 := kp_heap hh q
          exact kp_t k1 (ih _ _ _ _ _ _ _ k1.1 e)
        · split at e
          · cases e; exact kp_r hh
          · split at e
            · cases e; exact kp_i hh
            · split at e
              · cases e
              · split at e
                · cases e
                · split at e
                  · cases e
                  · rename_i q
                    have k1 := ih _ _ _ _ _ _ _ hh q
                    exact kp_t k1 (ih _ _ _ _ _ _ _ k1.1 e)
                  · rename_i q
                    have k1 := ih _ _ _ _ _ _ _ hh q
                    exact kp_t k1 (ih _ _ _ _ _ _ _ k1.1 e)
                  · rename_i q
                    have k1 := ih _ _ _ _ _ _ _ hh q
                    split at e
                    · cases e; exact k1
                    · cases e
theorem kp_cf {n d : Nat} {as : List Value} {I I' : Nat → Nat → Int32} {L L' : Nat → Nat → Int64} {R R' : Nat → Nat → Option Nat} {nc ns nc' ns' : Nat} {nx nx' : Bool} {v : ip_O} {S : List (Nat × Nat)} (e : cf d m as (SH n, I, L, R, nc, ns, nx) = some (v, (S, I', L', R', nc', ns', nx'))) : ∀ j, I' 0 j = I 0 j := by
  obtain ⟨f, q⟩ := rf_to e
  exact (kp_run (n := (105, n)) _ _ _ _ _ _ _ _ rfl q).2
end KP
