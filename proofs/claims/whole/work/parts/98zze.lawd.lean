/-! THE LAW: reading its bytes fast -/
def ld_F : { F : Nat → Nat → ClassFile.Decoder Instr // ∀ pc, ClassFile.Decoder.instr pc = (ClassFile.Reader.u1 >>= F pc) } := ⟨_, fun pc => rfl⟩
theorem ld_u1 {c : ByteArray} {pc op : Nat} (h : pc < c.size) (e : c[pc].toNat = op) : (ClassFile.Reader.u1 : ClassFile.Decoder Nat) c pc = .ok (op, pc + 1) := by
  have z : (ClassFile.Reader.u1 : ClassFile.Decoder Nat) c pc = if h : pc < c.size then .ok (c[pc].toNat, pc + 1) else .error (ClassFile.HasTruncated.truncated pc) := by
    show (ClassFile.Reader.u1 : ClassFile.Decoder Nat) c pc = _
    unfold ClassFile.Reader.u1
    by_cases q : pc < c.size
    · rw [dif_pos q]
      show (if h : pc < c.size then _ else _ : ClassFile.Decoder Nat) c pc = _
      rw [dif_pos q]
      rfl
    · rw [dif_neg q]
      show (if h : pc < c.size then _ else _ : ClassFile.Decoder Nat) c pc = _
      rw [dif_neg q]
      rfl
  rw [z, dif_pos h, e]
theorem ld_b {c : ByteArray} {pc op : Nat} {F : Nat → ClassFile.Decoder Instr} (h : pc < c.size) (e : c[pc].toNat = op) : (ClassFile.Reader.u1 >>= F).runAt c pc = (F op).runAt c (pc + 1) := by
  show ((ClassFile.Reader.u1 : ClassFile.Decoder Nat) c pc >>= fun q => F q.1 c q.2) = F op c (pc + 1)
  rw [ld_u1 h e]
  rfl
theorem ld_d {c : ByteArray} {pc op : Nat} (h : pc < c.size) (e : c[pc].toNat = op) : decode c pc = ((ld_F.1 pc op).runAt c (pc + 1) >>= fun q => pure (q.1, q.2 - pc)) := by
  unfold decode
  rw [ld_F.2 pc, ld_b h e]
def okC (c : ByteArray) (pc op : Nat) (i : Instr) (len : Nat) : Bool := match c[pc]? with
  | some o => Nat.beq o.toNat op && (match (ld_F.1 pc op).runAt c (pc + 1) with
    | .ok (j, nx) => decide (j = i) && (nx - pc == len)
    | .error _ => false)
  | none => false
theorem okC_d {c : ByteArray} {pc op len : Nat} {i : Instr} (h : okC c pc op i len = true) : decode c pc = .ok (i, len) := by
  unfold okC at h
  split at h
  · rename_i o ho
    rw [Bool.and_eq_true] at h
    obtain ⟨h1, h2⟩ := h
    have h1 : o.toNat = op := Nat.eq_of_beq_eq_true h1
    have hp : pc < c.size := by
      refine Classical.byContradiction (fun z => ?_)
      rw [getElem?_neg c pc z] at ho
      cases ho
    have ho' : c[pc].toNat = op := by
      rw [getElem?_pos c pc hp] at ho
      rw [Option.some.inj ho]
      exact h1
    rw [ld_d hp ho']
    cases hq : (ld_F.1 pc op).runAt c (pc + 1) with
    | error z => rw [hq] at h2; cases h2
    | ok q =>
      rw [hq] at h2
      obtain ⟨j, nx⟩ := q
      have h2 : (decide (j = i) && (nx - pc == len)) = true := h2
      rw [Bool.and_eq_true] at h2
      show Except.ok (j, nx - pc) = _
      rw [of_decide_eq_true h2.1, eq_of_beq h2.2]
  · cases h
def okL (pc op : Nat) (i : Instr) (len : Nat) : Bool := okC code pc op i len
theorem okL_D {pc op len : Nat} {i : Instr} (h : okL pc op i len = true) : okD 284 pc i len = true := by
  have e := okC_d h
  unfold okD
  rw [ip_law_code, e]
  show (decide (i = i) && (len == len)) = true
  rw [decide_eq_true rfl, beq_self_eq_true]; rfl
theorem tt1 : okL 2500 0x60 .iadd 1 = true := by decide +kernel
theorem tt2 : okL 2475 0x15 (.iload 5) 2 = true := by decide +kernel
