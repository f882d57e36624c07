/-! THE PICTURE MACHINE, 2: its pure instructions are the machine's -/
theorem ip_if {α : Type} {q : Prop} [Decidable q] {x : Option α} {y : α} (h : (if q then x else none) = some y) : q ∧ x = some y := by
  by_cases hq : q
  · rw [if_pos hq] at h; exact ⟨hq, h⟩
  · rw [if_neg hq] at h; cases h
section IPA
variable {pc pc' n i : Nat} {ls ls' : List (Option Value)} {st st' : List Value}
theorem ip_br_ok {b : Bool} {off : Int} (h : ip_br b pc off ls st = some (pc', ls', st')) : ∃ t : Nat, (pc : Int) + off = (t : Int) ∧ ls' = ls ∧ st' = st ∧ ((b = true ∧ pc' = t) ∨ (b = false ∧ pc' = pc + 3)) := by
  unfold ip_br at h
  split at h
  · cases h
  · rename_i t ht
    refine ⟨t, ip_tgt_eq ht, ?_⟩
    cases b
    · cases h; exact ⟨rfl, rfl, Or.inr ⟨rfl, rfl⟩⟩
    · cases h; exact ⟨rfl, rfl, Or.inl ⟨rfl, rfl⟩⟩
theorem ip_ii_ok {f : Int32 → Int32 → Int32} (h : ip_ii pc ls st f = some (pc', ls', st')) : ∃ x y r, st = .int y :: .int x :: r ∧ pc' = pc + 1 ∧ ls' = ls ∧ st' = .int (f x y) :: r := by
  unfold ip_ii at h
  split at h
  · cases h; exact ⟨_, _, _, rfl, rfl, rfl, rfl⟩
  · cases h
theorem ip_iz_ok {f : Int32 → Int32 → Int32} (h : ip_iz pc ls st f = some (pc', ls', st')) : ∃ x y r, ¬ y = 0 ∧ st = .int y :: .int x :: r ∧ pc' = pc + 1 ∧ ls' = ls ∧ st' = .int (f x y) :: r := by
  unfold ip_iz at h
  split at h
  · split at h
    · cases h
    · rename_i hz; cases h; exact ⟨_, _, _, hz, rfl, rfl, rfl, rfl⟩
  · cases h
theorem ip_ll_ok {f : Int64 → Int64 → Int64} (h : ip_ll pc ls st f = some (pc', ls', st')) : ∃ x y r, st = .long y :: .long x :: r ∧ pc' = pc + 1 ∧ ls' = ls ∧ st' = .long (f x y) :: r := by
  unfold ip_ll at h
  split at h
  · cases h; exact ⟨_, _, _, rfl, rfl, rfl, rfl⟩
  · cases h
theorem ip_lz_ok {f : Int64 → Int64 → Int64} (h : ip_lz pc ls st f = some (pc', ls', st')) : ∃ x y r, ¬ y = 0 ∧ st = .long y :: .long x :: r ∧ pc' = pc + 1 ∧ ls' = ls ∧ st' = .long (f x y) :: r := by
  unfold ip_lz at h
  split at h
  · split at h
    · cases h
    · rename_i hz; cases h; exact ⟨_, _, _, hz, rfl, rfl, rfl, rfl⟩
  · cases h
theorem ip_il_ok {f : Int64 → Int32 → Int64} (h : ip_il pc ls st f = some (pc', ls', st')) : ∃ x y r, st = .int y :: .long x :: r ∧ pc' = pc + 1 ∧ ls' = ls ∧ st' = .long (f x y) :: r := by
  unfold ip_il at h
  split at h
  · cases h; exact ⟨_, _, _, rfl, rfl, rfl, rfl⟩
  · cases h
theorem ip_ldi_ok (h : ip_ldi pc ls st i n = some (pc', ls', st')) : ∃ x, ls.getD i none = some (.int x) ∧ pc' = pc + n ∧ ls' = ls ∧ st' = .int x :: st := by
  unfold ip_ldi at h
  split at h
  · rename_i q; cases h; exact ⟨_, q, rfl, rfl, rfl⟩
  · cases h
theorem ip_ldl_ok (h : ip_ldl pc ls st i n = some (pc', ls', st')) : ∃ x, ls.getD i none = some (.long x) ∧ pc' = pc + n ∧ ls' = ls ∧ st' = .long x :: st := by
  unfold ip_ldl at h
  split at h
  · rename_i q; cases h; exact ⟨_, q, rfl, rfl, rfl⟩
  · cases h
theorem ip_lda_ok (h : ip_lda pc ls st i n = some (pc', ls', st')) : ∃ x, ls.getD i none = some (.ref x) ∧ pc' = pc + n ∧ ls' = ls ∧ st' = .ref x :: st := by
  unfold ip_lda at h
  split at h
  · rename_i q; cases h; exact ⟨_, q, rfl, rfl, rfl⟩
  · cases h
theorem ip_sti_ok (h : ip_sti pc ls st i n = some (pc', ls', st')) : ∃ x, st = .int x :: st' ∧ pc' = pc + n ∧ ip_st1 ls i (.int x) = some ls' := by
  unfold ip_sti at h
  split at h
  · rename_i x r
    cases q : ip_st1 ls i (.int x) with
    | none => rw [q] at h; cases h
    | some l => rw [q] at h; cases h; exact ⟨_, rfl, rfl, q⟩
  · cases h
theorem ip_sta_ok (h : ip_sta pc ls st i n = some (pc', ls', st')) : ∃ x, st = .ref x :: st' ∧ pc' = pc + n ∧ ip_st1 ls i (.ref x) = some ls' := by
  unfold ip_sta at h
  split at h
  · rename_i x r
    cases q : ip_st1 ls i (.ref x) with
    | none => rw [q] at h; cases h
    | some l => rw [q] at h; cases h; exact ⟨_, rfl, rfl, q⟩
  · cases h
theorem ip_stl_ok (h : ip_stl pc ls st i n = some (pc', ls', st')) : ∃ x, st = .long x :: st' ∧ pc' = pc + n ∧ ip_st2 ls i (.long x) = some ls' := by
  unfold ip_stl at h
  split at h
  · rename_i x r
    cases q : ip_st2 ls i (.long x) with
    | none => rw [q] at h; cases h
    | some l => rw [q] at h; cases h; exact ⟨_, rfl, rfl, q⟩
  · cases h
theorem ip_st1_len {v : Value} (h : ip_st1 ls i v = some ls') : ls'.length = ls.length := by
  unfold ip_st1 at h
  obtain ⟨-, h⟩ := ip_if h
  cases h
  simp [ip_clr_len]
theorem ip_st2_len {v : Value} (h : ip_st2 ls i v = some ls') : ls'.length = ls.length := by
  unfold ip_st2 at h
  obtain ⟨-, h⟩ := ip_if h
  cases h
  simp [ip_clr_len]
theorem ip_map_ok {α β : Type} {o : Option α} {f : α → β} {b : β} (h : o.map f = some b) : ∃ a, o = some a ∧ f a = b := by
  cases o with
  | none => cases h
  | some a => exact ⟨a, rfl, Option.some.inj h⟩
end IPA
section IPB
variable {p : Program} {l : Launch} {e : Env} {R : Room} {s : State} {m : MethodId} {args : Array Value} {below : List Frame} {meth : Method} {c : Code} {H : Heap} {locs : List Loc} {cells slots : Nat} {Q : State → Prop}
set_option maxHeartbeats 4000000 in
theorem ip_pure_ok {cc : ByteArray} (hx : p.tables.exec = Jvm.exec) (hb : c.code = cc) {ad : Nat → Nat} {pc len pc' : Nat} {i : Instr} {ls ls' : List (Option Value)} {st st' : List Value} {lsA : Array Slot} (hd : decode cc pc = .ok (i, len)) (h : ip_pure pc i len ls st = some (pc', ls', st')) (hl : ip_lv ad lsA ls)
    (k : ∀ lsB : Array Slot, ip_lv ad lsB ls' → ls'.length = ls.length → W p l e R s m args below meth c H locs cells slots Q (F0 m pc' lsB (st'.map (ip_v ad)))) : W p l e R s m args below meth c H locs cells slots Q (F0 m pc lsA (st.map (ip_v ad))) := by
  cases i with
  | iconst a => 
    obtain ⟨rfl, h9⟩ := ip_if h
    cases h9
    exact lv_iconst hx hb hd rfl (k lsA hl rfl)
  | bipush a => 
    obtain ⟨rfl, h9⟩ := ip_if h
    cases h9
    exact lv_bipush hx hb hd rfl (k lsA hl rfl)
  | sipush a => 
    obtain ⟨rfl, h9⟩ := ip_if h
    cases h9
    exact lv_sipush hx hb hd rfl (k lsA hl rfl)
  | lconst a => 
    obtain ⟨rfl, h9⟩ := ip_if h
    cases h9
    exact lv_lconst hx hb hd rfl (k lsA hl rfl)
  | iload_n a => 
    obtain ⟨rfl, h9⟩ := ip_if h
    obtain ⟨x, hv, rfl, rfl, rfl⟩ := ip_ldi_ok h9
    exact lv_iload_n hx hb hd rfl (ip_lv_at hl hv) (k lsA hl rfl)
  | iload a => 
    obtain ⟨rfl, h9⟩ := ip_if h
    obtain ⟨x, hv, rfl, rfl, rfl⟩ := ip_ldi_ok h9
    exact lv_iload hx hb hd (ip_lv_at hl hv) (k lsA hl rfl)
  | lload_n a => 
    obtain ⟨rfl, h9⟩ := ip_if h
    obtain ⟨x, hv, rfl, rfl, rfl⟩ := ip_ldl_ok h9
    exact lv_lload_n hx hb hd rfl (ip_lv_at hl hv) (k lsA hl rfl)
  | lload a => 
    obtain ⟨rfl, h9⟩ := ip_if h
    obtain ⟨x, hv, rfl, rfl, rfl⟩ := ip_ldl_ok h9
    exact lv_lload hx hb hd (ip_lv_at hl hv) (k lsA hl rfl)
  | aload_n a => 
    obtain ⟨rfl, h9⟩ := ip_if h
    obtain ⟨x, hv, rfl, rfl, rfl⟩ := ip_lda_ok h9
    exact lv_aload_n hx hb hd rfl (ip_lv_at hl hv) (k lsA hl rfl)
  | aload a => 
    obtain ⟨rfl, h9⟩ := ip_if h
    obtain ⟨x, hv, rfl, rfl, rfl⟩ := ip_lda_ok h9
    exact lv_aload hx hb hd (ip_lv_at hl hv) (k lsA hl rfl)
  | istore_n a => 
    obtain ⟨rfl, h9⟩ := ip_if h
    obtain ⟨x, rfl, rfl, hs⟩ := ip_sti_ok h9
    exact lv_istore_n hx hb hd rfl hl (ip_st1_lt hs) rfl (fun lsB hB => k lsB (ip_st1_lv hs hB) (ip_st1_len hs))
  | istore a => 
    obtain ⟨rfl, h9⟩ := ip_if h
    obtain ⟨x, rfl, rfl, hs⟩ := ip_sti_ok h9
    exact lv_istore hx hb hd hl (ip_st1_lt hs) rfl (fun lsB hB => k lsB (ip_st1_lv hs hB) (ip_st1_len hs))
  | astore_n a => 
    obtain ⟨rfl, h9⟩ := ip_if h
    obtain ⟨x, rfl, rfl, hs⟩ := ip_sta_ok h9
    exact lv_astore_n hx hb hd rfl hl (ip_st1_lt hs) rfl (fun lsB hB => k lsB (ip_st1_lv hs hB) (ip_st1_len hs))
  | astore a => 
    obtain ⟨rfl, h9⟩ := ip_if h
    obtain ⟨x, rfl, rfl, hs⟩ := ip_sta_ok h9
    exact lv_astore hx hb hd hl (ip_st1_lt hs) rfl (fun lsB hB => k lsB (ip_st1_lv hs hB) (ip_st1_len hs))
  | lstore_n a => 
    obtain ⟨rfl, h9⟩ := ip_if h
    obtain ⟨x, rfl, rfl, hs⟩ := ip_stl_ok h9
    exact lv_lstore_n hx hb hd rfl hl (ip_st2_lt hs) rfl (fun lsB hB => k lsB (ip_st2_lv hs hB) (ip_st2_len hs))
  | lstore a => 
    obtain ⟨rfl, h9⟩ := ip_if h
    obtain ⟨x, rfl, rfl, hs⟩ := ip_stl_ok h9
    exact lv_lstore hx hb hd hl (ip_st2_lt hs) rfl (fun lsB hB => k lsB (ip_st2_lv hs hB) (ip_st2_len hs))
  | iinc a b => 
    obtain ⟨rfl, h9⟩ := ip_if h
    unfold ip_iinc at h9
    split at h9
    · rename_i x q
      obtain ⟨l2, hs, e2⟩ := ip_map_ok h9
      cases e2
      have hm : (a, ip_v ad (.int x)) ∈ ip_as ad ls := ip_as_mem.mpr ⟨ip_st1_lt hs, _, q, rfl⟩
      obtain ⟨kk, hk⟩ := List.getElem?_of_mem hm
      exact lv_iinc hx hb hd hl hk rfl (ip_st1_lt hs) rfl (fun lsB hB => k lsB (ip_st1_lv hs hB) (ip_st1_len hs))
    · cases h9
  | iadd => 
    obtain ⟨rfl, h9⟩ := ip_if h
    obtain ⟨x, y, r, rfl, rfl, rfl, rfl⟩ := ip_ii_ok h9
    exact lv_iadd hx hb hd (k lsA hl rfl)
  | isub => 
    obtain ⟨rfl, h9⟩ := ip_if h
    obtain ⟨x, y, r, rfl, rfl, rfl, rfl⟩ := ip_ii_ok h9
    exact lv_isub hx hb hd (k lsA hl rfl)
  | imul => 
    obtain ⟨rfl, h9⟩ := ip_if h
    obtain ⟨x, y, r, rfl, rfl, rfl, rfl⟩ := ip_ii_ok h9
    exact lv_imul hx hb hd (k lsA hl rfl)
  | iand => 
    obtain ⟨rfl, h9⟩ := ip_if h
    obtain ⟨x, y, r, rfl, rfl, rfl, rfl⟩ := ip_ii_ok h9
    exact lv_iand hx hb hd (k lsA hl rfl)
  | ior => 
    obtain ⟨rfl, h9⟩ := ip_if h
    obtain ⟨x, y, r, rfl, rfl, rfl, rfl⟩ := ip_ii_ok h9
    exact lv_ior hx hb hd (k lsA hl rfl)
  | ixor => 
    obtain ⟨rfl, h9⟩ := ip_if h
    obtain ⟨x, y, r, rfl, rfl, rfl, rfl⟩ := ip_ii_ok h9
    exact lv_ixor hx hb hd (k lsA hl rfl)
  | ishl => 
    obtain ⟨rfl, h9⟩ := ip_if h
    obtain ⟨x, y, r, rfl, rfl, rfl, rfl⟩ := ip_ii_ok h9
    exact lv_ishl hx hb hd (k lsA hl rfl)
  | ishr => 
    obtain ⟨rfl, h9⟩ := ip_if h
    obtain ⟨x, y, r, rfl, rfl, rfl, rfl⟩ := ip_ii_ok h9
    exact lv_ishr hx hb hd (k lsA hl rfl)
  | iushr => 
    obtain ⟨rfl, h9⟩ := ip_if h
    obtain ⟨x, y, r, rfl, rfl, rfl, rfl⟩ := ip_ii_ok h9
    exact lv_iushr hx hb hd rfl (k lsA hl rfl)
  | idiv => 
    obtain ⟨rfl, h9⟩ := ip_if h
    obtain ⟨x, y, r, hz, rfl, rfl, rfl, rfl⟩ := ip_iz_ok h9
    exact lv_idiv hx hb hd hz (k lsA hl rfl)
  | irem => 
    obtain ⟨rfl, h9⟩ := ip_if h
    obtain ⟨x, y, r, hz, rfl, rfl, rfl, rfl⟩ := ip_iz_ok h9
    exact lv_irem hx hb hd hz (k lsA hl rfl)
  | ladd => 
    obtain ⟨rfl, h9⟩ := ip_if h
    obtain ⟨x, y, r, rfl, rfl, rfl, rfl⟩ := ip_ll_ok h9
    exact lv_ladd hx hb hd (k lsA hl rfl)
  | lsub => 
    obtain ⟨rfl, h9⟩ := ip_if h
    obtain ⟨x, y, r, rfl, rfl, rfl, rfl⟩ := ip_ll_ok h9
    exact lv_lsub hx hb hd (k lsA hl rfl)
  | lmul => 
    obtain ⟨rfl, h9⟩ := ip_if h
    obtain ⟨x, y, r, rfl, rfl, rfl, rfl⟩ := ip_ll_ok h9
    exact lv_lmul hx hb hd (k lsA hl rfl)
  | land => 
    obtain ⟨rfl, h9⟩ := ip_if h
    obtain ⟨x, y, r, rfl, rfl, rfl, rfl⟩ := ip_ll_ok h9
    exact lv_land hx hb hd (k lsA hl rfl)
  | lor => 
    obtain ⟨rfl, h9⟩ := ip_if h
    obtain ⟨x, y, r, rfl, rfl, rfl, rfl⟩ := ip_ll_ok h9
    exact lv_lor hx hb hd (k lsA hl rfl)
  | lxor => 
    obtain ⟨rfl, h9⟩ := ip_if h
    obtain ⟨x, y, r, rfl, rfl, rfl, rfl⟩ := ip_ll_ok h9
    exact lv_lxor hx hb hd (k lsA hl rfl)
  | ldiv => 
    obtain ⟨rfl, h9⟩ := ip_if h
    obtain ⟨x, y, r, hz, rfl, rfl, rfl, rfl⟩ := ip_lz_ok h9
    exact lv_ldiv hx hb hd hz (k lsA hl rfl)
  | lrem => 
    obtain ⟨rfl, h9⟩ := ip_if h
    obtain ⟨x, y, r, hz, rfl, rfl, rfl, rfl⟩ := ip_lz_ok h9
    exact lv_lrem hx hb hd hz (k lsA hl rfl)
  | lushr => 
    obtain ⟨rfl, h9⟩ := ip_if h
    obtain ⟨x, y, r, rfl, rfl, rfl, rfl⟩ := ip_il_ok h9
    exact lv_lushr hx hb hd rfl (k lsA hl rfl)
  | lshl => 
    obtain ⟨rfl, h9⟩ := ip_if h
    obtain ⟨x, y, r, rfl, rfl, rfl, rfl⟩ := ip_il_ok h9
    exact lv_lshl hx hb hd rfl (k lsA hl rfl)
  | lshr => 
    obtain ⟨rfl, h9⟩ := ip_if h
    obtain ⟨x, y, r, rfl, rfl, rfl, rfl⟩ := ip_il_ok h9
    exact lv_lshr hx hb hd rfl (k lsA hl rfl)
  | i2l => 
    obtain ⟨rfl, h9⟩ := ip_if h
    split at h9
    · cases h9
      exact lv_i2l hx hb hd rfl (k lsA hl rfl)
    · cases h9
  | l2i => 
    obtain ⟨rfl, h9⟩ := ip_if h
    split at h9
    · cases h9
      exact lv_l2i hx hb hd rfl (k lsA hl rfl)
    · cases h9
  | lcmp => 
    obtain ⟨rfl, h9⟩ := ip_if h
    split at h9
    · cases h9
      exact W.lcmp hx hb hd (k lsA hl rfl)
    · cases h9
  | dup => 
    obtain ⟨rfl, h9⟩ := ip_if h
    split at h9
    · rename_i v r
      obtain ⟨hc, h9⟩ := ip_if h9
      cases h9
      exact lv_dup hx hb hd (by rw [ip_v_cat]; exact hc) (k lsA hl rfl)
    · cases h9
  | pop => 
    obtain ⟨rfl, h9⟩ := ip_if h
    split at h9
    · rename_i v r
      obtain ⟨hc, h9⟩ := ip_if h9
      cases h9
      exact lv_pop hx hb hd (by rw [ip_v_cat]; exact hc) (k lsA hl rfl)
    · cases h9
  | dup2 => 
    obtain ⟨rfl, h9⟩ := ip_if h
    split at h9
    · rename_i v w r
      obtain ⟨hc, h9⟩ := ip_if h9
      cases h9
      exact lv_dup2_11 hx hb hd (by rw [ip_v_cat]; exact hc.1) (by rw [ip_v_cat]; exact hc.2) (k lsA hl rfl)
    · cases h9
  | ifCond a b => 
    obtain ⟨rfl, h9⟩ := ip_if h
    split at h9
    · obtain ⟨t, ht, rfl, rfl, hor⟩ := ip_br_ok h9
      cases a with
      | eq =>
        rcases hor with ⟨hq, rfl⟩ | ⟨hq, rfl⟩
        · exact lv_if_eq hx hb hd ht (fun _ => k lsA hl rfl) (fun c0 => absurd (of_decide_eq_true hq) c0)
        · exact lv_if_eq hx hb hd ht (fun c0 => absurd c0 (of_decide_eq_false hq)) (fun _ => k lsA hl rfl)
      | ne =>
        rcases hor with ⟨hq, rfl⟩ | ⟨hq, rfl⟩
        · exact lv_if_ne hx hb hd ht (fun _ => k lsA hl rfl) (fun c0 => absurd c0 (of_decide_eq_true hq))
        · exact lv_if_ne hx hb hd ht (fun c0 => absurd c0 (of_decide_eq_false hq)) (fun _ => k lsA hl rfl)
      | lt =>
        rcases hor with ⟨hq, rfl⟩ | ⟨hq, rfl⟩
        · exact lv_if_lt hx hb hd ht (fun _ => k lsA hl rfl) (fun c0 => absurd (of_decide_eq_true hq) c0)
        · exact lv_if_lt hx hb hd ht (fun c0 => absurd c0 (of_decide_eq_false hq)) (fun _ => k lsA hl rfl)
      | ge =>
        rcases hor with ⟨hq, rfl⟩ | ⟨hq, rfl⟩
        · exact lv_if_ge hx hb hd ht (fun _ => k lsA hl rfl) (fun c0 => absurd (of_decide_eq_true hq) c0)
        · exact lv_if_ge hx hb hd ht (fun c0 => absurd c0 (of_decide_eq_false hq)) (fun _ => k lsA hl rfl)
      | gt =>
        rcases hor with ⟨hq, rfl⟩ | ⟨hq, rfl⟩
        · exact lv_if_gt hx hb hd ht (fun _ => k lsA hl rfl) (fun c0 => absurd (of_decide_eq_true hq) c0)
        · exact lv_if_gt hx hb hd ht (fun c0 => absurd c0 (of_decide_eq_false hq)) (fun _ => k lsA hl rfl)
      | le =>
        rcases hor with ⟨hq, rfl⟩ | ⟨hq, rfl⟩
        · exact lv_if_le hx hb hd ht (fun _ => k lsA hl rfl) (fun c0 => absurd (of_decide_eq_true hq) c0)
        · exact lv_if_le hx hb hd ht (fun c0 => absurd c0 (of_decide_eq_false hq)) (fun _ => k lsA hl rfl)
    · cases h9
  | if_icmp a b => 
    obtain ⟨rfl, h9⟩ := ip_if h
    split at h9
    · obtain ⟨t, ht, rfl, rfl, hor⟩ := ip_br_ok h9
      cases a with
      | eq =>
        rcases hor with ⟨hq, rfl⟩ | ⟨hq, rfl⟩
        · exact lv_icmp_eq hx hb hd ht (fun _ => k lsA hl rfl) (fun c0 => absurd (of_decide_eq_true hq) c0)
        · exact lv_icmp_eq hx hb hd ht (fun c0 => absurd c0 (of_decide_eq_false hq)) (fun _ => k lsA hl rfl)
      | ne =>
        rcases hor with ⟨hq, rfl⟩ | ⟨hq, rfl⟩
        · exact lv_icmp_ne hx hb hd ht (fun _ => k lsA hl rfl) (fun c0 => absurd c0 (of_decide_eq_true hq))
        · exact lv_icmp_ne hx hb hd ht (fun c0 => absurd c0 (of_decide_eq_false hq)) (fun _ => k lsA hl rfl)
      | lt =>
        rcases hor with ⟨hq, rfl⟩ | ⟨hq, rfl⟩
        · exact lv_icmp_lt hx hb hd ht (fun _ => k lsA hl rfl) (fun c0 => absurd (of_decide_eq_true hq) c0)
        · exact lv_icmp_lt hx hb hd ht (fun c0 => absurd c0 (of_decide_eq_false hq)) (fun _ => k lsA hl rfl)
      | ge =>
        rcases hor with ⟨hq, rfl⟩ | ⟨hq, rfl⟩
        · exact lv_icmp_ge hx hb hd ht (fun _ => k lsA hl rfl) (fun c0 => absurd (of_decide_eq_true hq) c0)
        · exact lv_icmp_ge hx hb hd ht (fun c0 => absurd c0 (of_decide_eq_false hq)) (fun _ => k lsA hl rfl)
      | gt =>
        rcases hor with ⟨hq, rfl⟩ | ⟨hq, rfl⟩
        · exact lv_icmp_gt hx hb hd ht (fun _ => k lsA hl rfl) (fun c0 => absurd (of_decide_eq_true hq) c0)
        · exact lv_icmp_gt hx hb hd ht (fun c0 => absurd c0 (of_decide_eq_false hq)) (fun _ => k lsA hl rfl)
      | le =>
        rcases hor with ⟨hq, rfl⟩ | ⟨hq, rfl⟩
        · exact lv_icmp_le hx hb hd ht (fun _ => k lsA hl rfl) (fun c0 => absurd (of_decide_eq_true hq) c0)
        · exact lv_icmp_le hx hb hd ht (fun c0 => absurd c0 (of_decide_eq_false hq)) (fun _ => k lsA hl rfl)
    · cases h9
  | goto a => 
    obtain ⟨rfl, h9⟩ := ip_if h
    obtain ⟨t, ht, e2⟩ := ip_map_ok h9
    cases e2
    exact lv_goto hx hb hd (ip_tgt_eq ht) (k lsA hl rfl)
  | tableswitch a b1 b2 b3 => 
    unfold ip_pure ip_tab at h
    dsimp only at h
    split at h
    · split at h
      · rename_i hr
        obtain ⟨t, ht, e2⟩ := ip_map_ok h
        cases e2
        exact lv_tableOut hx hb hd hr (ip_tgt_eq ht) (k lsA hl rfl)
      · rename_i hr
        split at h
        · rename_i off ho
          obtain ⟨t, ht, e2⟩ := ip_map_ok h
          cases e2
          exact lv_tableIn hx hb hd (fun q => hr (Or.inl q)) (fun q => hr (Or.inr q)) ho (ip_tgt_eq ht) (k lsA hl rfl)
        · cases h
    · cases h
  | lookupswitch a b1 => 
    unfold ip_pure ip_lsw at h
    dsimp only at h
    split at h
    · obtain ⟨hp, h⟩ := ip_if h
      obtain ⟨t, ht, e2⟩ := ip_map_ok h
      cases e2
      exact lv_lookup hx hb hd hp rfl (ip_tgt_eq ht) (k lsA hl rfl)
    · cases h
  | _ => exact nomatch (show (none : ip_N) = some (pc', ls', st') from h)
end IPB
