/-! THE PICTURE MACHINE, 14: entries of methods; what is made only grows -/
theorem ip_args_cons (a : Value) (as : List Value) : ip_args (a :: as) = (if a.category = 2 then [some a, none] else [some a]) ++ ip_args as := rfl
theorem ip_args_in {ad : Nat → Nat} : ∀ (as : List Value) (i j : Nat) (v : Value), (ip_args as).getD j none = some v → (i + j, ip_v ad v) ∈ lv_args i (as.map (ip_v ad))
  | [], i, j, v, h => by cases j <;> cases h
  | a :: as, i, j, v, h => by
    rw [ip_args_cons] at h
    show (i + j, ip_v ad v) ∈ (i, ip_v ad a) :: lv_args (if (ip_v ad a).category = 2 then i + 2 else i + 1) (as.map (ip_v ad))
    rw [ip_v_cat]
    by_cases hc : a.category = 2
    · rw [if_pos hc] at h ⊢
      match j, h with
      | 0, h => cases h; exact List.mem_cons_self
      | 1, h => cases h
      | j + 2, h =>
        have q := ip_args_in (ad := ad) as (i + 2) j v h
        rw [show i + 2 + j = i + (j + 2) by omega] at q
        exact List.mem_cons_of_mem _ q
    · rw [if_neg hc] at h ⊢
      match j, h with
      | 0, h => cases h; exact List.mem_cons_self
      | j + 1, h =>
        have q := ip_args_in (ad := ad) as (i + 1) j v h
        rw [show i + 1 + j = i + (j + 1) by omega] at q
        exact List.mem_cons_of_mem _ q
theorem ip_args_len {ad : Nat → Nat} : ∀ (as : List Value), (lg_sl (as.map (ip_v ad))).length = (ip_args as).length
  | [] => rfl
  | a :: as => by
    rw [ip_args_cons]
    show ((if (ip_v ad a).category = 2 then [Slot.val (ip_v ad a), .second] else [.val (ip_v ad a)]) ++ lg_sl (as.map (ip_v ad))).length = _
    rw [ip_v_cat, List.length_append, List.length_append, ip_args_len as]
    by_cases hc : a.category = 2
    · rw [if_pos hc, if_pos hc]; rfl
    · rw [if_neg hc, if_neg hc]; rfl
theorem ip_entry_len {m : Nat} {as : List Value} (h : (ip_args as).length ≤ ip_mL m) : (ip_entry m as).length = ip_mL m := by
  unfold ip_entry
  rw [List.length_append, List.length_replicate]
  omega
theorem ip_entry_lv {ad : Nat → Nat} {m : Nat} {as : List Value} (h : (ip_args as).length ≤ ip_mL m) : ip_lv ad ((lg_sl (as.map (ip_v ad)) ++ List.replicate (ip_mL m - (lg_sl (as.map (ip_v ad))).length) Slot.unset).toArray) (ip_entry m as) := by
  have h1 := lv_entry (as.map (ip_v ad)) (n := ip_mL m) (by rw [ip_args_len]; exact h)
  refine ⟨by rw [ip_entry_len h]; exact h1.1, h1.2.1, ?_⟩
  rintro ⟨j, w⟩ hq
  obtain ⟨hj, v, hv, rfl⟩ := ip_as_mem.mp hq
  refine h1.2.2 (j, _) ?_
  have hv2 : (ip_args as).getD j none = some v := by
    unfold ip_entry at hv
    rw [List.getD_eq_getElem?_getD] at hv ⊢
    by_cases hl : j < (ip_args as).length
    · rw [List.getElem?_append_left hl] at hv
      exact hv
    · rw [List.getElem?_append_right (by omega), List.getElem?_replicate] at hv
      split at hv <;> cases hv
  have q := ip_args_in (ad := ad) as 0 j v hv2
  rw [Nat.zero_add] at q
  exact q
/-- no fewer cells and slots than before -/
def ip_le (h h' : ip_H) : Prop := h.2.2.2.2.1 ≤ h'.2.2.2.2.1 ∧ h.2.2.2.2.2.1 ≤ h'.2.2.2.2.2.1
theorem ip_le_rf {h : ip_H} : ip_le h h := ⟨Nat.le_refl _, Nat.le_refl _⟩
theorem ip_le_tr {h h1 h2 : ip_H} (a : ip_le h h1) (b : ip_le h1 h2) : ip_le h h2 := ⟨Nat.le_trans a.1 b.1, Nat.le_trans a.2 b.2⟩
theorem ip_le_mk {t n : Nat} {h : ip_H} : ip_le h (ip_mk t n h) := ⟨Nat.le_succ _, Nat.le_add_right _ _⟩
theorem ip_wr_le {h h' : ip_H} {ci a k : Nat} {v : Value} (h9 : ip_wr h ci a k v = some h') : ip_le h h' := by
  unfold ip_wr at h9
  split at h9
  · cases h9; exact ip_le_rf
  · obtain ⟨-, h8⟩ := ip_if h9; cases h8; exact ip_le_rf
  · cases h9; exact ip_le_rf
  · cases h9; exact ip_le_rf
  · cases h9
section IPL
variable {m len : Nat} {st st' : List Value} {h h' : ip_H}
set_option maxHeartbeats 4000000 in
theorem ip_heap_le {i : Instr} (h9 : ip_heap m i len st h = some (st', h')) : ip_le h h' := by
  have key : ∀ {q : Prop} [Decidable q] {x : List Value × ip_H}, (if q then some x else none) = some (st', h') → ip_le h x.2 → ip_le h h' := fun e1 e2 => by
    obtain ⟨-, e3⟩ := ip_if e1
    cases e3
    exact e2
  cases i with
  | getfield idx =>
    obtain ⟨-, h8⟩ := ip_if h9
    unfold ip_getf at h8
    split at h8
    · split at h8
      · exact key h8 ip_le_rf
      · cases h8
    · cases h8
  | putfield idx =>
    obtain ⟨-, h8⟩ := ip_if h9
    unfold ip_putf at h8
    split at h8
    · split at h8
      · obtain ⟨-, h7⟩ := ip_if h8
        obtain ⟨h2, e1, e2⟩ := ip_map_ok h7
        cases e2
        exact ip_wr_le e1
      · cases h8
    · cases h8
  | iaload =>
    obtain ⟨-, h8⟩ := ip_if h9
    unfold ip_iald at h8
    split at h8
    · split at h8
      · exact key h8 ip_le_rf
      · cases h8
    · cases h8
  | baload =>
    obtain ⟨-, h8⟩ := ip_if h9
    unfold ip_zald at h8
    split at h8
    · split at h8
      · exact key h8 ip_le_rf
      · cases h8
    · cases h8
  | laload =>
    obtain ⟨-, h8⟩ := ip_if h9
    unfold ip_lald at h8
    split at h8
    · split at h8
      · exact key h8 ip_le_rf
      · cases h8
    · cases h8
  | aaload =>
    obtain ⟨-, h8⟩ := ip_if h9
    unfold ip_aald at h8
    split at h8
    · split at h8
      · exact key h8 ip_le_rf
      · cases h8
    · cases h8
  | iastore =>
    obtain ⟨-, h8⟩ := ip_if h9
    unfold ip_iast at h8
    split at h8
    · split at h8
      · exact key h8 ip_le_rf
      · cases h8
    · cases h8
  | bastore =>
    obtain ⟨-, h8⟩ := ip_if h9
    unfold ip_zast at h8
    split at h8
    · split at h8
      · exact key h8 ip_le_rf
      · cases h8
    · cases h8
  | lastore =>
    obtain ⟨-, h8⟩ := ip_if h9
    unfold ip_last at h8
    split at h8
    · split at h8
      · exact key h8 ip_le_rf
      · cases h8
    · cases h8
  | aastore =>
    obtain ⟨-, h8⟩ := ip_if h9
    unfold ip_aast at h8
    split at h8
    · split at h8
      · exact key h8 ip_le_rf
      · cases h8
    · cases h8
  | arraylength =>
    obtain ⟨-, h8⟩ := ip_if h9
    unfold ip_alen at h8
    split at h8
    · split at h8
      · exact key h8 ip_le_rf
      · cases h8
    · cases h8
  | new idx =>
    obtain ⟨-, h8⟩ := ip_if h9
    unfold ip_new at h8
    split at h8
    · exact key h8 ip_le_mk
    · cases h8
  | newarray t =>
    obtain ⟨-, h8⟩ := ip_if h9
    unfold ip_newa at h8
    split at h8
    · exact key h8 ip_le_mk
    · exact key h8 ip_le_mk
    · exact key h8 ip_le_mk
    · cases h8
  | anewarray idx =>
    obtain ⟨-, h8⟩ := ip_if h9
    unfold ip_anew at h8
    split at h8
    · exact key h8 ip_le_mk
    · cases h8
  | getstatic idx => exact key h9 ip_le_rf
  | ldc idx =>
    obtain ⟨-, h8⟩ := ip_if h9
    unfold ip_ldc at h8
    split at h8
    · cases h8; exact ip_le_rf
    · split at h8
      · cases h8; exact ip_le_rf
      · cases h8
  | ldc_w idx =>
    obtain ⟨-, h8⟩ := ip_if h9
    unfold ip_ldc at h8
    split at h8
    · cases h8; exact ip_le_rf
    · split at h8
      · cases h8; exact ip_le_rf
      · cases h8
  | ldc2_w idx =>
    obtain ⟨-, h8⟩ := ip_if h9
    split at h8
    · cases h8; exact ip_le_rf
    · cases h8
  | invokespecial idx =>
    obtain ⟨-, h8⟩ := ip_if h9
    obtain ⟨k, hm, hk, h7⟩ := ip_spi_ok h8
    have e0 : k = 0 := by simpa using hm
    subst e0
    have h6 : ip_s0 st h = some (st', h') := h7
    unfold ip_s0 at h6
    split at h6
    · exact key h6 ip_le_rf
    · cases h6
  | invokevirtual idx =>
    obtain ⟨-, h8⟩ := ip_if h9
    obtain ⟨k, hm, hk, h7⟩ := ip_spi_ok h8
    have e0 : k = 1 ∨ k = 2 := by simpa using hm
    rcases e0 with rfl | rfl
    · have h6 : ip_s1 st h = some (st', h') := h7
      unfold ip_s1 at h6
      split at h6
      · exact key h6 ip_le_rf
      · cases h6
    · have h6 : ip_s2 st h = some (st', h') := h7
      unfold ip_s2 at h6
      split at h6
      · exact key h6 ip_le_rf
      · cases h6
  | invokestatic idx =>
    obtain ⟨-, h8⟩ := ip_if h9
    obtain ⟨k, hm, hk, h7⟩ := ip_spi_ok h8
    have e0 : k = 3 ∨ k = 4 := by simpa using hm
    rcases e0 with rfl | rfl
    · have h6 : ip_s3 st h = some (st', h') := h7
      unfold ip_s3 at h6
      split at h6
      · split at h6
        · obtain ⟨-, h5⟩ := ip_if h6
          unfold ip_cpk at h5
          split at h5
          · cases h5; exact ip_le_rf
          · cases h5; exact ip_le_rf
          · cases h5
        · cases h6
      · cases h6
    · have h6 : ip_s4 st h = some (st', h') := h7
      unfold ip_s4 at h6
      split at h6
      · exact key h6 ip_le_rf
      · cases h6
  | _ => exact nomatch (show (none : ip_K) = some (st', h') from h9)
end IPL
theorem ip_run_le : ∀ (n d m pc : Nat) (ls : List (Option Value)) (st : List Value) (h : ip_H) (o : ip_O) (h' : ip_H), ip_run n d m pc ls st h = some (o, h') → ip_le h h' := by
  intro n
  induction n with
  | zero => intro d m pc ls st h o h' e; cases e
  | succ n ih =>
    intro d m pc ls st h o h' e
    rw [ip_run] at e
    split at e
    · cases e
    · rename_i i len hd
      split at e
      · exact ih _ _ _ _ _ _ _ _ e
      · split at e
        · rename_i st1 h1 h9
          exact ip_le_tr (ip_heap_le h9) (ih _ _ _ _ _ _ _ _ e)
        · split at e
          · cases e; exact ip_le_rf
          · split at e
            · cases e; exact ⟨Nat.le_succ _, Nat.le_add_right _ _⟩
            · split at e
              · cases e
              · split at e
                · cases e
                · split at e
                  · cases e
                  · rename_i h1 e1
                    exact ip_le_tr (ih _ _ _ _ _ _ _ _ e1) (ih _ _ _ _ _ _ _ _ e)
                  · rename_i v h1 e1
                    exact ip_le_tr (ih _ _ _ _ _ _ _ _ e1) (ih _ _ _ _ _ _ _ _ e)
                  · rename_i E h1 e1
                    split at e
                    · cases e
                      exact ih _ _ _ _ _ _ _ _ e1
                    · cases e
