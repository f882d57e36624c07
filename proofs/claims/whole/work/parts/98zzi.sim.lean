/-! THE SCRIPT IS NOT LOOKED AT: a run over a heap whose place 0 is of no kind (107) runs alike with the script there -/
def ph (n : Nat) (xs : Nat → Int32) (h : ip_H) : ip_H := (h.1.set 0 (105, n), (fun a j => if a = 0 then xs j else h.2.1 a j), h.2.2)
def phm (n : Nat) (xs : Nat → Int32) (q : List Value × ip_H) : List Value × ip_H := (q.1, ph n xs q.2)
theorem mp_if {α β : Type} {c : Prop} {f : α → β} {a : α} (D : Decidable c) : (@ite _ c D (some a) none).map f = @ite _ c D (some (f a)) none := by
  cases D with
  | isTrue z => rfl
  | isFalse z => rfl
section PH
variable {n m len o x a k ci t l : Nat} {i : Instr} {xs : Nat → Int32} {st : List Value} {h : ip_H} {v : Value}
theorem ph_0 (hh : h.1[0]? = some (107, 0)) : (ph n xs h).1[0]? = some (105, n) := by
  have h0 : 0 < h.1.length := by
    refine Nat.pos_of_ne_zero (fun z => ?_)
    rw [List.length_eq_zero_iff.mp z] at hh
    cases hh
  show (h.1.set 0 (105, n))[0]? = _
  rw [List.getElem?_set_self h0]
theorem ph_s (ha : ¬ a = 0) : (ph n xs h).1[a]? = h.1[a]? := by
  show (h.1.set 0 (105, n))[a]? = _
  rw [List.getElem?_set_ne (fun e => ha e.symm)]
theorem ph_len : (ph n xs h).1.length = h.1.length := List.length_set ..
theorem ph_I (ha : ¬ a = 0) : (ph n xs h).2.1 a = h.2.1 a := funext (fun j => if_neg ha)
theorem ph_up {w : Int32} (ha : ¬ a = 0) : ip_up (ph n xs h).2.1 a k w = fun b j => if b = 0 then xs j else ip_up h.2.1 a k w b j := by
  funext b j
  unfold ip_up
  by_cases e : b = a
  · subst e
    rw [if_pos rfl, if_neg ha, if_pos rfl, ph_I ha]
  · rw [if_neg e, if_neg e]; rfl
theorem ph_row {g : Nat → Int32} (ha : ¬ a = 0) : ip_row (ph n xs h).2.1 a g = fun b j => if b = 0 then xs j else ip_row h.2.1 a g b j := by
  funext b j
  unfold ip_row
  by_cases e : b = a
  · subst e
    rw [if_pos rfl, if_neg ha, if_pos rfl]
  · rw [if_neg e, if_neg e]; rfl
theorem ph_rd (ha : ¬ a = 0) : ip_rd (ph n xs h) ci a k = ip_rd h ci a k := by
  unfold ip_rd
  rw [ph_I ha]
  rfl
theorem ph_wr (ha : ¬ a = 0) : ip_wr (ph n xs h) ci a k v = (ip_wr h ci a k v).map (ph n xs) := by
  unfold ip_wr
  split
  · show some ((ph n xs h).1, ip_up (ph n xs h).2.1 a k _, _) = _
    rw [ph_up ha]; rfl
  · rw [mp_if, ph_up ha]; rfl
  · rfl
  · rfl
  · rfl
theorem ph_mk (hh : h.1[0]? = some (107, 0)) : ip_mk t l (ph n xs h) = ph n xs (ip_mk t l h) := by
  have h0 : 0 < h.1.length := by
    refine Nat.pos_of_ne_zero (fun z => ?_)
    rw [List.length_eq_zero_iff.mp z] at hh
    cases hh
  have e1 : (h.1.set 0 (105, n)) ++ [(t, l)] = (h.1 ++ [(t, l)]).set 0 (105, n) := (List.set_append_left _ _ h0).symm
  show ((h.1.set 0 (105, n)) ++ [(t, l)], ip_row (ph n xs h).2.1 (ph n xs h).1.length _, ip_row h.2.2.1 (ph n xs h).1.length _, ip_row h.2.2.2.1 (ph n xs h).1.length _, _) = _
  rw [e1, ph_len, ph_row (by omega)]
  rfl
theorem ph_getf (hh : h.1[0]? = some (107, 0)) : ip_getf o x st (ph n xs h) = (ip_getf o x st h).map (phm n xs) := by
  unfold ip_getf
  cases ip_fld o x with
  | none => rcases st with _ | ⟨v, r⟩ <;> (try cases v) <;> rfl
  | some q =>
    obtain ⟨ci, k⟩ := q
    rcases st with _ | ⟨v, r⟩
    · rfl
    · cases v with
      | ref a =>
        dsimp only
        by_cases ha : a = 0
        · subst ha; rw [ph_0 hh, hh]; simp
        · rw [ph_s ha]
          cases h.1[a]? with
          | none => rfl
          | some q =>
            dsimp only
            rw [mp_if, ph_rd ha]; rfl
      | _ => rfl
theorem ph_putf (hh : h.1[0]? = some (107, 0)) : ip_putf m o x st (ph n xs h) = (ip_putf m o x st h).map (phm n xs) := by
  unfold ip_putf
  cases ip_fld o x with
  | none => rcases st with _ | ⟨v, _ | ⟨w, r⟩⟩ <;> (try cases v) <;> (try cases w) <;> rfl
  | some q =>
    obtain ⟨ci, k⟩ := q
    rcases st with _ | ⟨v, _ | ⟨w, r⟩⟩
    · rfl
    · rfl
    · cases w with
      | ref a =>
        dsimp only
        by_cases ha : a = 0
        · subst ha; rw [ph_0 hh, hh]; simp
        · rw [ph_s ha]
          cases h.1[a]? with
          | none => rfl
          | some q =>
            obtain ⟨t, z⟩ := q
            dsimp only
            by_cases c : t = ci ∧ 2 ≤ a ∧ ((ip_T ci k).2.2.2 = true → (ip_y m).name = "<init>" ∧ ci = o)
            · rw [if_pos c, if_pos c, ph_wr ha]
              cases ip_wr h ci a k v <;> rfl
            · rw [if_neg c, if_neg c]; rfl
      | _ => rfl
theorem ph_zald (hh : h.1[0]? = some (107, 0)) : ip_zald st (ph n xs h) = (ip_zald st h).map (phm n xs) := by
  unfold ip_zald
  rcases st with _ | ⟨v, _ | ⟨w, r⟩⟩
  · rfl
  · cases v <;> rfl
  · cases v with
    | int j =>
      cases w with
      | ref a =>
        dsimp only
        by_cases ha : a = 0
        · subst ha; rw [ph_0 hh, hh]; simp
        · rw [ph_s ha]
          cases h.1[a]? with
          | none => rfl
          | some q =>
            dsimp only
            rw [mp_if, ph_I ha]; rfl
      | _ => rfl
    | _ => rfl
theorem ph_lald (hh : h.1[0]? = some (107, 0)) : ip_lald st (ph n xs h) = (ip_lald st h).map (phm n xs) := by
  unfold ip_lald
  rcases st with _ | ⟨v, _ | ⟨w, r⟩⟩
  · rfl
  · cases v <;> rfl
  · cases v with
    | int j =>
      cases w with
      | ref a =>
        dsimp only
        by_cases ha : a = 0
        · subst ha; rw [ph_0 hh, hh]; simp
        · rw [ph_s ha]
          cases h.1[a]? with
          | none => rfl
          | some q =>
            dsimp only
            rw [mp_if]; rfl
      | _ => rfl
    | _ => rfl
theorem ph_aald (hh : h.1[0]? = some (107, 0)) : ip_aald st (ph n xs h) = (ip_aald st h).map (phm n xs) := by
  unfold ip_aald
  rcases st with _ | ⟨v, _ | ⟨w, r⟩⟩
  · rfl
  · cases v <;> rfl
  · cases v with
    | int j =>
      cases w with
      | ref a =>
        dsimp only
        by_cases ha : a = 0
        · subst ha; rw [ph_0 hh, hh]; simp
        · rw [ph_s ha]
          cases h.1[a]? with
          | none => rfl
          | some q =>
            dsimp only
            rw [mp_if]; rfl
      | _ => rfl
    | _ => rfl
theorem ph_iast (hh : h.1[0]? = some (107, 0)) : ip_iast st (ph n xs h) = (ip_iast st h).map (phm n xs) := by
  unfold ip_iast
  rcases st with _ | ⟨u, _ | ⟨v, _ | ⟨w, r⟩⟩⟩
  · rfl
  · cases u <;> rfl
  · cases u <;> cases v <;> rfl
  · cases u with
    | int y =>
      cases v with
      | int j =>
        cases w with
        | ref a =>
          dsimp only
          by_cases ha : a = 0
          · subst ha; rw [ph_0 hh, hh]; simp
          · rw [ph_s ha]
            cases h.1[a]? with
            | none => rfl
            | some q =>
              dsimp only
              rw [mp_if, ph_up ha]; rfl
        | _ => rfl
      | _ => rfl
    | _ => rfl
theorem ph_zast (hh : h.1[0]? = some (107, 0)) : ip_zast st (ph n xs h) = (ip_zast st h).map (phm n xs) := by
  unfold ip_zast
  rcases st with _ | ⟨u, _ | ⟨v, _ | ⟨w, r⟩⟩⟩
  · rfl
  · cases u <;> rfl
  · cases u <;> cases v <;> rfl
  · cases u with
    | int y =>
      cases v with
      | int j =>
        cases w with
        | ref a =>
          dsimp only
          by_cases ha : a = 0
          · subst ha; rw [ph_0 hh, hh]; simp
          · rw [ph_s ha]
            cases h.1[a]? with
            | none => rfl
            | some q =>
              dsimp only
              rw [mp_if, ph_up ha]; rfl
        | _ => rfl
      | _ => rfl
    | _ => rfl
theorem ph_last (hh : h.1[0]? = some (107, 0)) : ip_last st (ph n xs h) = (ip_last st h).map (phm n xs) := by
  unfold ip_last
  rcases st with _ | ⟨u, _ | ⟨v, _ | ⟨w, r⟩⟩⟩
  · rfl
  · cases u <;> rfl
  · cases u <;> cases v <;> rfl
  · cases u with
    | long y =>
      cases v with
      | int j =>
        cases w with
        | ref a =>
          dsimp only
          by_cases ha : a = 0
          · subst ha; rw [ph_0 hh, hh]; simp
          · rw [ph_s ha]
            cases h.1[a]? with
            | none => rfl
            | some q =>
              dsimp only
              rw [mp_if]; rfl
        | _ => rfl
      | _ => rfl
    | _ => rfl
theorem ph_aast (hh : h.1[0]? = some (107, 0)) : ip_aast st (ph n xs h) = (ip_aast st h).map (phm n xs) := by
  unfold ip_aast
  rcases st with _ | ⟨u, _ | ⟨v, _ | ⟨w, r⟩⟩⟩
  · rfl
  · cases u <;> rfl
  · cases u <;> cases v <;> rfl
  · cases u with
    | ref b =>
      cases v with
      | int j =>
        cases w with
        | ref a =>
          dsimp only
          by_cases ha : a = 0
          · subst ha; rw [ph_0 hh, hh]
            cases (ph n xs h).1[b]? <;> cases h.1[b]? <;> simp
          · rw [ph_s ha]
            by_cases hb : b = 0
            · subst hb; rw [ph_0 hh, hh]
              cases h.1[a]? <;> simp
            · rw [ph_s hb]
              cases h.1[a]? with
              | none => cases h.1[b]? <;> rfl
              | some q =>
                cases h.1[b]? with
                | none => rfl
                | some q2 =>
                  dsimp only
                  rw [mp_if]; rfl
        | _ => rfl
      | _ => rfl
    | _ => rfl
theorem ph_new (hh : h.1[0]? = some (107, 0)) : ip_new o x st (ph n xs h) = (ip_new o x st h).map (phm n xs) := by
  unfold ip_new
  cases ip_kls o x with
  | none => rfl
  | some ci =>
    dsimp only
    rw [mp_if, ph_len, ph_mk hh]; rfl
theorem ph_newa {ty : ArrayType} (hh : h.1[0]? = some (107, 0)) : ip_newa ty st (ph n xs h) = (ip_newa ty st h).map (phm n xs) := by
  unfold ip_newa
  rcases st with _ | ⟨v, r⟩
  · cases ty <;> rfl
  · cases v with
    | int j => cases ty <;> first | rfl | (dsimp only; rw [mp_if, ph_len, ph_mk hh]; rfl)
    | _ => cases ty <;> rfl
theorem ph_anew (hh : h.1[0]? = some (107, 0)) : ip_anew o x st (ph n xs h) = (ip_anew o x st h).map (phm n xs) := by
  unfold ip_anew
  split
  · rw [mp_if, ph_len, ph_mk hh]; rfl
  · rfl
theorem ph_ldc : ip_ldc o x st (ph n xs h) = (ip_ldc o x st h).map (phm n xs) := by
  unfold ip_ldc
  cases ip_kin o x with
  | some v => rfl
  | none =>
    dsimp only
    cases ip_str o x <;> rfl
theorem ph_s3 (hh : h.1[0]? = some (107, 0)) : ip_s3 st (ph n xs h) = (ip_s3 st h).map (phm n xs) := by
  unfold ip_s3
  split
  · rename_i q dp a sp b r
    by_cases ha : a = 0
    · subst ha; rw [ph_0 hh, hh]
      cases (ph n xs h).1[b]? <;> cases h.1[b]? <;> simp
    · rw [ph_s ha]
      by_cases hb : b = 0
      · subst hb; rw [ph_0 hh, hh]
        cases h.1[a]? <;> simp
      · rw [ph_s hb]
        cases h.1[a]? with
        | none => cases h.1[b]? <;> rfl
        | some q =>
          cases h.1[b]? with
          | none => rfl
          | some q2 =>
            dsimp only
            split
            · unfold ip_cpk
              split
              · show some (_, (ph n xs h).1, ip_row (ph n xs h).2.1 a (va_cpy ((ph n xs h).2.1 b) ((ph n xs h).2.1 a) _ _ _), _) = _
                rw [ph_row ha, ph_I ha, ph_I hb]; rfl
              · rfl
              · rfl
            · rfl
  · rfl
theorem ph_spi {ks : List Nat} (hh : h.1[0]? = some (107, 0)) : ip_spi m x ks st (ph n xs h) = (ip_spi m x ks st h).map (phm n xs) := by
  unfold ip_spi
  cases ip_spc (ip_own m) x with
  | none => rfl
  | some k =>
    dsimp only
    split
    · unfold ip_spec
      split
      · unfold ip_s0
        split
        · rw [mp_if]; rfl
        · rfl
      · split
        · unfold ip_s1
          split
          · rw [mp_if]; rfl
          · rfl
        · split
          · unfold ip_s2
            split
            · rw [mp_if]; rfl
            · rfl
          · split
            · exact ph_s3 hh
            · split
              · unfold ip_s4
                split
                · rw [mp_if]; rfl
                · rfl
              · rfl
    · rfl
theorem ph_iald {st' : List Value} {h' : ip_H} (hh : h.1[0]? = some (107, 0)) (e : ip_iald st h = some (st', h')) : ip_iald st (ph n xs h) = some (st', ph n xs h') := by
  unfold ip_iald at e ⊢
  rcases st with _ | ⟨v, _ | ⟨w, r⟩⟩
  · cases e
  · cases v <;> cases e
  · cases v with
    | int j =>
      cases w with
      | ref a =>
        dsimp only at e ⊢
        by_cases ha : a = 0
        · subst ha; rw [hh] at e; simp at e
        · rw [ph_s ha]
          cases q : h.1[a]? with
          | none => rw [q] at e; cases e
          | some q2 =>
            rw [q] at e
            dsimp only at e ⊢
            split at e
            · rename_i c
              rw [if_pos c, ph_I ha]
              cases e; rfl
            · cases e
      | _ => cases e
    | _ => cases e
theorem ph_alen {st' : List Value} {h' : ip_H} (hh : h.1[0]? = some (107, 0)) (e : ip_alen st h = some (st', h')) : ip_alen st (ph n xs h) = some (st', ph n xs h') := by
  unfold ip_alen at e ⊢
  rcases st with _ | ⟨w, r⟩
  · cases e
  · cases w with
    | ref a =>
      dsimp only at e ⊢
      by_cases ha : a = 0
      · subst ha; rw [hh] at e; simp at e
      · rw [ph_s ha]
        cases q : h.1[a]? with
        | none => rw [q] at e; cases e
        | some q2 =>
          rw [q] at e
          dsimp only at e ⊢
          split at e
          · rename_i c
            rw [if_pos c]
            cases e; rfl
          · cases e
    | _ => cases e
/-- an instruction of the heap -/
theorem ph_heap (hh : h.1[0]? = some (107, 0)) (h1 : ¬ i = .iaload) (h2 : ¬ i = .arraylength) : ip_heap m i len st (ph n xs h) = (ip_heap m i len st h).map (phm n xs) := by
  unfold ip_heap
  split
  all_goals first
    | exact absurd rfl h1
    | exact absurd rfl h2
    | rfl
    | (split
       · first
         | exact ph_getf hh
         | exact ph_putf hh
         | exact ph_zald hh
         | exact ph_lald hh
         | exact ph_aald hh
         | exact ph_iast hh
         | exact ph_zast hh
         | exact ph_last hh
         | exact ph_aast hh
         | exact ph_new hh
         | exact ph_newa hh
         | exact ph_anew hh
         | exact ph_ldc
         | exact ph_spi hh
         | rfl
         | (split <;> rfl)
       · rfl)
theorem ph_inv (hh : h.1[0]? = some (107, 0)) : ip_inv m i len st (ph n xs h) = ip_inv m i len st h := by
  unfold ip_inv
  split
  · split
    · split
      · split
        · split
          · rename_i b e
            by_cases hb : b = 0
            · subst hb; rw [ph_0 hh, hh]; simp
            · rw [ph_s hb]
          · rfl
        · rfl
      · rfl
    · rfl
  · rfl
  · rfl
  · rfl
theorem ph_run : ∀ (f d m pc : Nat) (ls : List (Option Value)) (st : List Value) (h : ip_H) (q : ip_O) (h' : ip_H), h.1[0]? = some (107, 0) → ip_run f d m pc ls st h = some (q, h') → ip_run f d m pc ls st (ph n xs h) = some (q, ph n xs h') := by
  intro f
  induction f with
  | zero => intro d m pc ls st h q h' hh e; cases e
  | succ f ih =>
    intro d m pc ls st h q h' hh e
    rw [ip_run] at e ⊢
    cases hd : decode (ip_code m) pc with
    | error z => simp only [hd] at e; cases e
    | ok y =>
      obtain ⟨i, len⟩ := y
      simp only [hd] at e ⊢
      cases hp : ip_pure pc i len ls st with
      | some y =>
        obtain ⟨pc1, ls1, st1⟩ := y
        simp only [hp] at e ⊢
        exact ih _ _ _ _ _ _ _ _ hh e
      | none =>
        simp only [hp] at e ⊢
        cases hq : ip_heap m i len st h with
        | some y =>
          obtain ⟨st1, h1⟩ := y
          have k1 := (kp_heap hh hq).1
          have hq2 : ip_heap m i len st (ph n xs h) = some (st1, ph n xs h1) := by
            by_cases g1 : i = .iaload
            · subst g1
              unfold ip_heap at hq ⊢
              dsimp only at hq ⊢
              split at hq
              · rename_i c; rw [if_pos c]; exact ph_iald hh hq
              · cases hq
            · by_cases g2 : i = .arraylength
              · subst g2
                unfold ip_heap at hq ⊢
                dsimp only at hq ⊢
                split at hq
                · rename_i c; rw [if_pos c]; exact ph_alen hh hq
                · cases hq
              · rw [ph_heap hh g1 g2, hq]; rfl
          simp only [hq] at e
          simp only [hq2]
          exact ih _ _ _ _ _ _ _ _ k1 e
        | none =>
          simp only [hq] at e
          by_cases g1 : i = .iaload
          · subst g1
            exfalso
            have z1 : ip_end m .iaload len st = none := by unfold ip_end; rcases st with _ | ⟨v, _ | ⟨w, r⟩⟩ <;> rfl
            have z2 : ip_thr m pc .iaload len st = none := rfl
            have z3 : ip_inv m .iaload len st h = none := rfl
            simp only [z1, z2, z3] at e
            cases d <;> cases e
          · by_cases g2 : i = .arraylength
            · subst g2
              exfalso
              have z1 : ip_end m .arraylength len st = none := by unfold ip_end; rcases st with _ | ⟨v, _ | ⟨w, r⟩⟩ <;> rfl
              have z2 : ip_thr m pc .arraylength len st = none := rfl
              have z3 : ip_inv m .arraylength len st h = none := rfl
              simp only [z1, z2, z3] at e
              cases d <;> cases e
            · have hq2 : ip_heap m i len st (ph n xs h) = none := by rw [ph_heap hh g1 g2, hq]; rfl
              simp only [hq2]
              cases he : ip_end m i len st with
              | some v => simp only [he] at e ⊢; cases e; rfl
              | none =>
                simp only [he] at e ⊢
                cases ht : ip_thr m pc i len st with
                | some E => simp only [ht] at e ⊢; cases e; rfl
                | none =>
                  simp only [ht] at e ⊢
                  cases d with
                  | zero => cases e
                  | succ d =>
                    dsimp only at e ⊢
                    rw [ph_inv hh]
                    cases hi : ip_inv m i len st h with
                    | none => simp only [hi] at e; cases e
                    | some y =>
                      obtain ⟨m1, as, rest⟩ := y
                      simp only [hi] at e ⊢
                      cases h1 : ip_run f d m1 0 (ip_entry m1 as) [] h with
                      | none => simp only [h1] at e; cases e
                      | some y =>
                        obtain ⟨o, h2⟩ := y
                        have k1 := (kp_run (n := (107, 0)) _ _ _ _ _ _ _ _ hh h1).1
                        have h3 := ih _ _ _ _ _ _ _ _ hh h1
                        match o, h1, h3, e with
                        | .inl none, h1, h3, e => simp only [h1] at e; simp only [h3]; exact ih _ _ _ _ _ _ _ _ k1 e
                        | .inl (some v), h1, h3, e => simp only [h1] at e; simp only [h3]; exact ih _ _ _ _ _ _ _ _ k1 e
                        | .inr E, h1, h3, e =>
                          simp only [h1] at e; simp only [h3]
                          split at e
                          · cases e; rfl
                          · cases e
end PH
