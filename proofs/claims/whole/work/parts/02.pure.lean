/-! THE PICTURE MACHINE, 1: instructions that touch neither heap nor calls. Values are the model's own; a reference is a PLACE, which 'ad' turns into an address. Locals: a list, one entry a slot (none: unset, or a long's second half). -/
def ip_v (ad : Nat → Nat) (v : Value) : Value := match v with
  | .ref k => .ref (ad k)
  | w => w
theorem ip_v_cat (ad : Nat → Nat) (v : Value) : (ip_v ad v).category = v.category := by cases v <;> rfl
def ip_as (ad : Nat → Nat) (ls : List (Option Value)) : List (Nat × Value) := (List.range ls.length).filterMap (fun j => (ls.getD j none).map (fun v => (j, ip_v ad v)))
theorem ip_as_mem {ad : Nat → Nat} {ls : List (Option Value)} {j : Nat} {w : Value} : (j, w) ∈ ip_as ad ls ↔ j < ls.length ∧ ∃ v, ls.getD j none = some v ∧ w = ip_v ad v := by
  unfold ip_as
  rw [List.mem_filterMap]
  constructor
  · rintro ⟨a, ha, h⟩
    rw [List.mem_range] at ha
    cases hv : ls.getD a none with
    | none => rw [hv] at h; cases h
    | some v =>
      rw [hv] at h
      simp only [Option.map_some, Option.some.injEq, Prod.mk.injEq] at h
      obtain ⟨rfl, rfl⟩ := h
      exact ⟨ha, v, hv, rfl⟩
  · rintro ⟨hj, v, hv, rfl⟩
    exact ⟨j, List.mem_range.mpr hj, by rw [hv]; rfl⟩
/-- the machine's locals hold the picture's -/
def ip_lv (ad : Nat → Nat) (lsA : Array Slot) (ls : List (Option Value)) : Prop := lv_has lsA ls.length (ip_as ad ls)
theorem ip_lv_at {ad : Nat → Nat} {lsA : Array Slot} {ls : List (Option Value)} (h : ip_lv ad lsA ls) {i : Nat} {v : Value} (hv : ls.getD i none = some v) : lsA[i]? = some (.val (ip_v ad v)) := by
  have hi : i < ls.length := by
    rcases Nat.lt_or_ge i ls.length with q | q
    · exact q
    · rw [List.getD_eq_getElem?_getD, List.getElem?_eq_none q] at hv; cases hv
  exact h.2.2 (i, ip_v ad v) (ip_as_mem.mpr ⟨hi, v, hv, rfl⟩)
/-- a long ahead of i loses its second half -/
def ip_clr (ls : List (Option Value)) (i : Nat) : List (Option Value) := match i with
  | 0 => ls
  | j + 1 => match ls.getD j none with
    | some (.long _) => ls.set j none
    | some (.double _) => ls.set j none
    | _ => ls
theorem ip_clr_len (ls : List (Option Value)) (i : Nat) : (ip_clr ls i).length = ls.length := by
  unfold ip_clr
  cases i with
  | zero => rfl
  | succ j =>
    dsimp only
    split <;> simp
theorem ip_clr_at {ls : List (Option Value)} {i j : Nat} {v : Value} (h : (ip_clr ls i).getD j none = some v) : ls.getD j none = some v ∧ ¬ (j + 1 = i ∧ v.category = 2) := by
  unfold ip_clr at h
  cases i with
  | zero => exact ⟨h, by omega⟩
  | succ k =>
    dsimp only at h
    have key : ∀ (hh : (ls.set k none).getD j none = some v), ls.getD j none = some v ∧ ¬ (j + 1 = k + 1 ∧ v.category = 2) := by
      intro hh
      by_cases hjk : j = k
      · subst hjk
        exfalso
        rw [List.getD_eq_getElem?_getD, List.getElem?_set_self'] at hh
        cases hq : ls[j]? <;> rw [hq] at hh <;> simp at hh
      · rw [List.getD_eq_getElem?_getD, List.getElem?_set_ne (Ne.symm hjk), ← List.getD_eq_getElem?_getD] at hh
        exact ⟨hh, by omega⟩
    split at h
    · exact key h
    · exact key h
    · rename_i h1 h2
      refine ⟨h, ?_⟩
      rintro ⟨e, hc⟩
      have e : j = k := by omega
      subst e
      cases v with
      | long x => exact h1 x h
      | double x => exact h2 x h
      | _ => simp [Value.category] at hc
def ip_st1 (ls : List (Option Value)) (i : Nat) (v : Value) : Option (List (Option Value)) := if i < ls.length then some ((ip_clr ls i).set i (some v)) else none
def ip_st2 (ls : List (Option Value)) (i : Nat) (v : Value) : Option (List (Option Value)) := if i + 1 < ls.length then some (((ip_clr ls i).set i (some v)).set (i + 1) none) else none
theorem ip_st1_lv {ad : Nat → Nat} {ls ls' : List (Option Value)} {i : Nat} {v : Value} {lsB : Array Slot} (h : ip_st1 ls i v = some ls') (hB : lv_has lsB ls.length ((i, ip_v ad v) :: (ip_as ad ls).filter (fun q => !(q.1 == i) && !(q.1 + 1 == i && q.2.category == 2)))) : ip_lv ad lsB ls' := by
  unfold ip_st1 at h
  split at h
  · rename_i hi
    cases h
    have hlen : ((ip_clr ls i).set i (some v)).length = ls.length := by simp [ip_clr_len]
    refine ⟨by rw [hlen]; exact hB.1, hB.2.1, ?_⟩
    rintro ⟨j, w⟩ hq
    obtain ⟨hj, x, hx, rfl⟩ := ip_as_mem.mp hq
    by_cases hji : j = i
    · subst hji
      rw [List.getD_eq_getElem?_getD, List.getElem?_set_self (by rw [ip_clr_len]; exact hi)] at hx
      cases hx
      exact hB.2.2 (j, _) List.mem_cons_self
    · rw [List.getD_eq_getElem?_getD, List.getElem?_set_ne (Ne.symm hji), ← List.getD_eq_getElem?_getD] at hx
      obtain ⟨h1, h2⟩ := ip_clr_at hx
      refine hB.2.2 (j, _) (List.mem_cons_of_mem _ (List.mem_filter.mpr ⟨ip_as_mem.mpr ⟨by rw [hlen] at hj; exact hj, x, h1, rfl⟩, ?_⟩))
      simp only [ip_v_cat, Bool.and_eq_true, Bool.not_eq_true', beq_eq_false_iff_ne, Bool.and_eq_false_iff]
      refine ⟨hji, ?_⟩
      by_cases q : j + 1 = i
      · exact Or.inr (fun z => h2 ⟨q, z⟩)
      · exact Or.inl q
  · cases h
theorem ip_st2_lv {ad : Nat → Nat} {ls ls' : List (Option Value)} {i : Nat} {v : Value} {lsB : Array Slot} (h : ip_st2 ls i v = some ls') (hB : lv_has lsB ls.length ((i, ip_v ad v) :: (ip_as ad ls).filter (fun q => !(q.1 == i) && (!(q.1 == i + 1) && !(q.1 + 1 == i && q.2.category == 2))))) : ip_lv ad lsB ls' := by
  unfold ip_st2 at h
  split at h
  · rename_i hi
    cases h
    have hlen : (((ip_clr ls i).set i (some v)).set (i + 1) none).length = ls.length := by simp [ip_clr_len]
    refine ⟨by rw [hlen]; exact hB.1, hB.2.1, ?_⟩
    rintro ⟨j, w⟩ hq
    obtain ⟨hj, x, hx, rfl⟩ := ip_as_mem.mp hq
    by_cases hj2 : j = i + 1
    · subst hj2
      rw [List.getD_eq_getElem?_getD, List.getElem?_set_self (by simp [ip_clr_len]; exact hi)] at hx
      cases hx
    · rw [List.getD_eq_getElem?_getD, List.getElem?_set_ne (Ne.symm hj2), ← List.getD_eq_getElem?_getD] at hx
      by_cases hji : j = i
      · subst hji
        rw [List.getD_eq_getElem?_getD, List.getElem?_set_self (by rw [ip_clr_len]; omega)] at hx
        cases hx
        exact hB.2.2 (j, _) List.mem_cons_self
      · rw [List.getD_eq_getElem?_getD, List.getElem?_set_ne (Ne.symm hji), ← List.getD_eq_getElem?_getD] at hx
        obtain ⟨h1, h2⟩ := ip_clr_at hx
        refine hB.2.2 (j, _) (List.mem_cons_of_mem _ (List.mem_filter.mpr ⟨ip_as_mem.mpr ⟨by rw [hlen] at hj; exact hj, x, h1, rfl⟩, ?_⟩))
        simp only [ip_v_cat, Bool.and_eq_true, Bool.not_eq_true', beq_eq_false_iff_ne, Bool.and_eq_false_iff]
        refine ⟨hji, hj2, ?_⟩
        by_cases q : j + 1 = i
        · exact Or.inr (fun z => h2 ⟨q, z⟩)
        · exact Or.inl q
  · cases h
theorem ip_st1_lt {ls ls' : List (Option Value)} {i : Nat} {v : Value} (h : ip_st1 ls i v = some ls') : i < ls.length := by
  unfold ip_st1 at h
  split at h
  · assumption
  · cases h
theorem ip_st2_lt {ls ls' : List (Option Value)} {i : Nat} {v : Value} (h : ip_st2 ls i v = some ls') : i + 1 < ls.length := by
  unfold ip_st2 at h
  split at h
  · assumption
  · cases h
/-- where a pure instruction leads: program counter, locals, stack -/
abbrev ip_N : Type := Option (Nat × List (Option Value) × List Value)
def ip_tgt (pc : Nat) (off : Int) : Option Nat := match (pc : Int) + off with
  | .ofNat t => some t
  | .negSucc _ => none
theorem ip_tgt_eq {pc t : Nat} {off : Int} (h : ip_tgt pc off = some t) : (pc : Int) + off = (t : Int) := by
  unfold ip_tgt at h
  split at h
  · rename_i q; cases h; exact q
  · cases h
def ip_br (b : Bool) (pc : Nat) (off : Int) (ls : List (Option Value)) (st : List Value) : ip_N := match ip_tgt pc off with
  | none => none
  | some t => match b with
    | true => some (t, ls, st)
    | false => some (pc + 3, ls, st)
def ip_ii (pc : Nat) (ls : List (Option Value)) (st : List Value) (f : Int32 → Int32 → Int32) : ip_N := match st with
  | .int y :: .int x :: r => some (pc + 1, ls, .int (f x y) :: r)
  | _ => none
def ip_iz (pc : Nat) (ls : List (Option Value)) (st : List Value) (f : Int32 → Int32 → Int32) : ip_N := match st with
  | .int y :: .int x :: r => if y = 0 then none else some (pc + 1, ls, .int (f x y) :: r)
  | _ => none
def ip_ll (pc : Nat) (ls : List (Option Value)) (st : List Value) (f : Int64 → Int64 → Int64) : ip_N := match st with
  | .long y :: .long x :: r => some (pc + 1, ls, .long (f x y) :: r)
  | _ => none
def ip_lz (pc : Nat) (ls : List (Option Value)) (st : List Value) (f : Int64 → Int64 → Int64) : ip_N := match st with
  | .long y :: .long x :: r => if y = 0 then none else some (pc + 1, ls, .long (f x y) :: r)
  | _ => none
def ip_il (pc : Nat) (ls : List (Option Value)) (st : List Value) (f : Int64 → Int32 → Int64) : ip_N := match st with
  | .int y :: .long x :: r => some (pc + 1, ls, .long (f x y) :: r)
  | _ => none
def ip_ldi (pc : Nat) (ls : List (Option Value)) (st : List Value) (i n : Nat) : ip_N := match ls.getD i none with
  | some (.int x) => some (pc + n, ls, .int x :: st)
  | _ => none
def ip_ldl (pc : Nat) (ls : List (Option Value)) (st : List Value) (i n : Nat) : ip_N := match ls.getD i none with
  | some (.long x) => some (pc + n, ls, .long x :: st)
  | _ => none
def ip_lda (pc : Nat) (ls : List (Option Value)) (st : List Value) (i n : Nat) : ip_N := match ls.getD i none with
  | some (.ref x) => some (pc + n, ls, .ref x :: st)
  | _ => none
def ip_sti (pc : Nat) (ls : List (Option Value)) (st : List Value) (i n : Nat) : ip_N := match st with
  | .int x :: r => (ip_st1 ls i (.int x)).map (fun l => (pc + n, l, r))
  | _ => none
def ip_sta (pc : Nat) (ls : List (Option Value)) (st : List Value) (i n : Nat) : ip_N := match st with
  | .ref x :: r => (ip_st1 ls i (.ref x)).map (fun l => (pc + n, l, r))
  | _ => none
def ip_stl (pc : Nat) (ls : List (Option Value)) (st : List Value) (i n : Nat) : ip_N := match st with
  | .long x :: r => (ip_st2 ls i (.long x)).map (fun l => (pc + n, l, r))
  | _ => none
def ip_cmp (c : ClassFile.Cond) (x y : Int32) : Bool := match c with
  | .eq => decide (x = y)
  | .ne => decide (¬ x = y)
  | .lt => decide (x < y)
  | .ge => decide (y ≤ x)
  | .gt => decide (y < x)
  | .le => decide (x ≤ y)
def ip_iinc (pc : Nat) (ls : List (Option Value)) (st : List Value) (i : Nat) (n : Int) : ip_N := match ls.getD i none with
  | some (.int x) => (ip_st1 ls i (.int (x + Int32.ofInt n))).map (fun l => (pc + 3, l, st))
  | _ => none
def ip_tab (pc : Nat) (ls : List (Option Value)) (st : List Value) (dflt lo hi : Int) (offs : Array Int) : ip_N := match st with
  | .int x :: r => if x.toInt < lo ∨ hi < x.toInt then (ip_tgt pc dflt).map (fun t => (t, ls, r)) else match offs[(x.toInt - lo).toNat]? with
    | some off => (ip_tgt pc off).map (fun t => (t, ls, r))
    | none => none
  | _ => none
def ip_lsw (pc : Nat) (ls : List (Option Value)) (st : List Value) (dflt : Int) (ps : Array (Int × Int)) : ip_N := match st with
  | .int x :: r => if (ps.toList.zip (ps.toList.drop 1)).all (fun (a, next) => a.1 < next.1) = true then (ip_tgt pc (Op.lookupswitch.offset ps.toList dflt x.toInt)).map (fun t => (t, ls, r)) else none
  | _ => none
def ip_pure (pc : Nat) (i : Instr) (len : Nat) (ls : List (Option Value)) (st : List Value) : ip_N := match i with
  | .iconst n => if len = 1 then some (pc + 1, ls, .int (Int32.ofInt n) :: st) else none
  | .bipush n => if len = 2 then some (pc + 2, ls, .int (Int8.ofInt n).toInt32 :: st) else none
  | .sipush n => if len = 3 then some (pc + 3, ls, .int (Int16.ofInt n).toInt32 :: st) else none
  | .lconst n => if len = 1 then some (pc + 1, ls, .long (Int64.ofNat n.val) :: st) else none
  | .iload_n k => if len = 1 then ip_ldi pc ls st k.val 1 else none
  | .iload k => if len = 2 then ip_ldi pc ls st k 2 else none
  | .lload_n k => if len = 1 then ip_ldl pc ls st k.val 1 else none
  | .lload k => if len = 2 then ip_ldl pc ls st k 2 else none
  | .aload_n k => if len = 1 then ip_lda pc ls st k.val 1 else none
  | .aload k => if len = 2 then ip_lda pc ls st k 2 else none
  | .istore_n k => if len = 1 then ip_sti pc ls st k.val 1 else none
  | .istore k => if len = 2 then ip_sti pc ls st k 2 else none
  | .lstore_n k => if len = 1 then ip_stl pc ls st k.val 1 else none
  | .lstore k => if len = 2 then ip_stl pc ls st k 2 else none
  | .astore_n k => if len = 1 then ip_sta pc ls st k.val 1 else none
  | .astore k => if len = 2 then ip_sta pc ls st k 2 else none
  | .iinc k n => if len = 3 then ip_iinc pc ls st k n else none
  | .iadd => if len = 1 then ip_ii pc ls st (fun x y => x + y) else none
  | .isub => if len = 1 then ip_ii pc ls st (fun x y => x - y) else none
  | .imul => if len = 1 then ip_ii pc ls st (fun x y => x * y) else none
  | .iand => if len = 1 then ip_ii pc ls st (fun x y => x &&& y) else none
  | .ior => if len = 1 then ip_ii pc ls st (fun x y => x ||| y) else none
  | .ixor => if len = 1 then ip_ii pc ls st (fun x y => x ^^^ y) else none
  | .ishl => if len = 1 then ip_ii pc ls st (fun x y => x <<< (y &&& 31)) else none
  | .ishr => if len = 1 then ip_ii pc ls st (fun x y => x >>> (y &&& 31)) else none
  | .iushr => if len = 1 then ip_ii pc ls st (fun x y => (x.toUInt32 >>> (y.toUInt32 &&& Int32.toUInt32 31)).toInt32) else none
  | .idiv => if len = 1 then ip_iz pc ls st (fun x y => x / y) else none
  | .irem => if len = 1 then ip_iz pc ls st (fun x y => x - x / y * y) else none
  | .ladd => if len = 1 then ip_ll pc ls st (fun x y => x + y) else none
  | .lsub => if len = 1 then ip_ll pc ls st (fun x y => x - y) else none
  | .lmul => if len = 1 then ip_ll pc ls st (fun x y => x * y) else none
  | .land => if len = 1 then ip_ll pc ls st (fun x y => x &&& y) else none
  | .lor => if len = 1 then ip_ll pc ls st (fun x y => x ||| y) else none
  | .lxor => if len = 1 then ip_ll pc ls st (fun x y => x ^^^ y) else none
  | .ldiv => if len = 1 then ip_lz pc ls st (fun x y => x / y) else none
  | .lrem => if len = 1 then ip_lz pc ls st (fun x y => x - x / y * y) else none
  | .lushr => if len = 1 then ip_il pc ls st (fun x y => (x.toUInt64 >>> (y.toInt64.toUInt64 &&& Int64.toUInt64 63)).toInt64) else none
  | .lshl => if len = 1 then ip_il pc ls st (fun x y => x <<< (y.toInt64 &&& 63)) else none
  | .lshr => if len = 1 then ip_il pc ls st (fun x y => x >>> (y.toInt64 &&& 63)) else none
  | .i2l => if len = 1 then (match st with | .int x :: r => some (pc + 1, ls, .long x.toInt64 :: r) | _ => none) else none
  | .l2i => if len = 1 then (match st with | .long x :: r => some (pc + 1, ls, .int x.toInt32 :: r) | _ => none) else none
  | .lcmp => if len = 1 then (match st with | .long y :: .long x :: r => some (pc + 1, ls, .int (lg_cmp x y) :: r) | _ => none) else none
  | .dup => if len = 1 then (match st with | v :: r => if v.category = 1 then some (pc + 1, ls, v :: v :: r) else none | _ => none) else none
  | .pop => if len = 1 then (match st with | v :: r => if v.category = 1 then some (pc + 1, ls, r) else none | _ => none) else none
  | .dup2 => if len = 1 then (match st with | v :: w :: r => if v.category = 1 ∧ w.category = 1 then some (pc + 1, ls, v :: w :: v :: w :: r) else none | _ => none) else none
  | .ifCond c off => if len = 3 then (match st with | .int x :: r => ip_br (ip_cmp c x 0) pc off ls r | _ => none) else none
  | .if_icmp c off => if len = 3 then (match st with | .int y :: .int x :: r => ip_br (ip_cmp c x y) pc off ls r | _ => none) else none
  | .goto off => if len = 3 then (ip_tgt pc off).map (fun t => (t, ls, st)) else none
  | .tableswitch dflt lo hi offs => ip_tab pc ls st dflt lo hi offs
  | .lookupswitch dflt ps => ip_lsw pc ls st dflt ps
  | _ => none
