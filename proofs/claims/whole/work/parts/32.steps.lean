/-! ONE EQUATION AN INSTRUCTION: heap, branches, calls (generic; a program prints the instances) -/
def kd (sh : List (Nat × Nat)) (a : Nat) : Nat := match sh[a]? with
  | some e => e.1
  | none => 999
def ln (sh : List (Nat × Nat)) (a : Nat) : Nat := match sh[a]? with
  | some e => e.2
  | none => 0
theorem kd_at {sh : List (Nat × Nat)} {a t : Nat} (h : kd sh a = t) (ht : t < 999) : sh[a]? = some (t, ln sh a) := by
  unfold kd at h
  unfold ln
  split at h
  · rename_i e he
    rw [he]
    subst h
    rfl
  · omega
section ST
variable {d m pc idx ci k a : Nat} {ls : List (Option Value)} {st : List Value} {sh : List (Nat × Nat)} {I : Nat → Nat → Int32} {L : Nat → Nat → Int64} {R : Nat → Nat → Option Nat} {nc ns : Nat} {nx : Bool} {x y j : Int32} {u : Int64}
theorem rf_getI (hc : decode (ip_code m) pc = .ok (.getfield idx, 3) ∧ ip_fld (ip_own m) idx = some (ci, k) ∧ ip_ft ci k < 2) (hk : kd sh a = ci) (ha : 2 ≤ a) : rf d m pc ls (.ref a :: st) (sh, I, L, R, nc, ns, nx) = rf d m (pc + 3) ls (.int (I a k) :: st) (sh, I, L, R, nc, ns, nx) := by
  obtain ⟨h1, h2, h3⟩ := hc
  have h9 := (ip_fld_ok h2).1
  refine rf_heap h1 rfl ?_
  show (if 3 = 3 then ip_getf (ip_own m) idx (.ref a :: st) (sh, I, L, R, nc, ns, nx) else none) = _
  rw [if_pos rfl]
  unfold ip_getf
  simp only [h2, kd_at hk (by omega)]
  rw [if_pos ⟨trivial, ha⟩]
  unfold ip_rd
  split
  · omega
  · omega
  · rfl
theorem rf_getL (hc : decode (ip_code m) pc = .ok (.getfield idx, 3) ∧ ip_fld (ip_own m) idx = some (ci, k) ∧ ip_ft ci k = 2) (hk : kd sh a = ci) (ha : 2 ≤ a) : rf d m pc ls (.ref a :: st) (sh, I, L, R, nc, ns, nx) = rf d m (pc + 3) ls (.long (L a k) :: st) (sh, I, L, R, nc, ns, nx) := by
  obtain ⟨h1, h2, h3⟩ := hc
  have h9 := (ip_fld_ok h2).1
  refine rf_heap h1 rfl ?_
  show (if 3 = 3 then ip_getf (ip_own m) idx (.ref a :: st) (sh, I, L, R, nc, ns, nx) else none) = _
  rw [if_pos rfl]
  unfold ip_getf
  simp only [h2, kd_at hk (by omega)]
  rw [if_pos ⟨trivial, ha⟩]
  unfold ip_rd
  rw [h3]
  rfl
theorem rf_getR (hc : decode (ip_code m) pc = .ok (.getfield idx, 3) ∧ ip_fld (ip_own m) idx = some (ci, k) ∧ ip_ft ci k = 3) (hk : kd sh a = ci) (ha : 2 ≤ a) : rf d m pc ls (.ref a :: st) (sh, I, L, R, nc, ns, nx) = rf d m (pc + 3) ls (ip_rf (R a k) :: st) (sh, I, L, R, nc, ns, nx) := by
  obtain ⟨h1, h2, h3⟩ := hc
  have h9 := (ip_fld_ok h2).1
  refine rf_heap h1 rfl ?_
  show (if 3 = 3 then ip_getf (ip_own m) idx (.ref a :: st) (sh, I, L, R, nc, ns, nx) else none) = _
  rw [if_pos rfl]
  unfold ip_getf
  simp only [h2, kd_at hk (by omega)]
  rw [if_pos ⟨trivial, ha⟩]
  unfold ip_rd
  rw [h3]
  rfl
/-- whether the method may write the field -/
def ip_may (m ci k : Nat) : Bool := !(ip_T ci k).2.2.2 || (decide ((ip_y m).name = "<init>") && decide (ci = ip_own m))
theorem ip_may_ok {m ci k : Nat} (h : ip_may m ci k = true) : (ip_T ci k).2.2.2 = true → (ip_y m).name = "<init>" ∧ ci = ip_own m := by
  intro q
  unfold ip_may at h
  rw [q] at h
  simpa using h
theorem rf_putI (hc : decode (ip_code m) pc = .ok (.putfield idx, 3) ∧ ip_fld (ip_own m) idx = some (ci, k) ∧ ip_ft ci k = 0 ∧ ip_may m ci k = true) (hk : kd sh a = ci) (ha : 2 ≤ a) : rf d m pc ls (.int x :: .ref a :: st) (sh, I, L, R, nc, ns, nx) = rf d m (pc + 3) ls st (sh, ip_up I a k x, L, R, nc, ns, nx) := by
  obtain ⟨h1, h2, h3, h4⟩ := hc
  have h9 := (ip_fld_ok h2).1
  refine rf_heap h1 rfl ?_
  show (if 3 = 3 then ip_putf m (ip_own m) idx (.int x :: .ref a :: st) (sh, I, L, R, nc, ns, nx) else none) = _
  rw [if_pos rfl]
  unfold ip_putf
  simp only [h2, kd_at hk (by omega)]
  rw [if_pos ⟨trivial, ha, ip_may_ok h4⟩]
  unfold ip_wr
  rw [h3]
  rfl
theorem rf_putZ (hc : decode (ip_code m) pc = .ok (.putfield idx, 3) ∧ ip_fld (ip_own m) idx = some (ci, k) ∧ ip_ft ci k = 1 ∧ ip_may m ci k = true) (hk : kd sh a = ci) (ha : 2 ≤ a) (hx : x = 0 ∨ x = 1) : rf d m pc ls (.int x :: .ref a :: st) (sh, I, L, R, nc, ns, nx) = rf d m (pc + 3) ls st (sh, ip_up I a k x, L, R, nc, ns, nx) := by
  obtain ⟨h1, h2, h3, h4⟩ := hc
  have h9 := (ip_fld_ok h2).1
  refine rf_heap h1 rfl ?_
  show (if 3 = 3 then ip_putf m (ip_own m) idx (.int x :: .ref a :: st) (sh, I, L, R, nc, ns, nx) else none) = _
  rw [if_pos rfl]
  unfold ip_putf
  simp only [h2, kd_at hk (by omega)]
  rw [if_pos ⟨trivial, ha, ip_may_ok h4⟩]
  unfold ip_wr
  rw [h3]
  show Option.map (fun h' => (st, h')) (if x = 0 ∨ x = 1 then some (sh, ip_up I a k x, L, R, nc, ns, nx) else none) = _
  rw [if_pos hx]
  rfl
theorem rf_putR {b : Nat} (hc : decode (ip_code m) pc = .ok (.putfield idx, 3) ∧ ip_fld (ip_own m) idx = some (ci, k) ∧ ip_ft ci k = 3 ∧ ip_may m ci k = true) (hk : kd sh a = ci) (ha : 2 ≤ a) : rf d m pc ls (.ref b :: .ref a :: st) (sh, I, L, R, nc, ns, nx) = rf d m (pc + 3) ls st (sh, I, L, ip_up R a k (some b), nc, ns, nx) := by
  obtain ⟨h1, h2, h3, h4⟩ := hc
  have h9 := (ip_fld_ok h2).1
  refine rf_heap h1 rfl ?_
  show (if 3 = 3 then ip_putf m (ip_own m) idx (.ref b :: .ref a :: st) (sh, I, L, R, nc, ns, nx) else none) = _
  rw [if_pos rfl]
  unfold ip_putf
  simp only [h2, kd_at hk (by omega)]
  rw [if_pos ⟨trivial, ha, ip_may_ok h4⟩]
  unfold ip_wr
  rw [h3]
  rfl
theorem rf_iald (hc : decode (ip_code m) pc = .ok (.iaload, 1)) (hk : kd sh a = 100) (ha : 2 ≤ a) (hj : ¬ (j < 0 ∨ ln sh a ≤ j.toNatClampNeg)) : rf d m pc ls (.int j :: .ref a :: st) (sh, I, L, R, nc, ns, nx) = rf d m (pc + 1) ls (.int (I a j.toNatClampNeg) :: st) (sh, I, L, R, nc, ns, nx) := by
  refine rf_heap hc rfl ?_
  show (if 1 = 1 then ip_iald (.int j :: .ref a :: st) (sh, I, L, R, nc, ns, nx) else none) = _
  rw [if_pos rfl]
  unfold ip_iald
  simp only [kd_at hk (by omega)]
  rw [if_pos ⟨Or.inl ⟨trivial, ha⟩, hj⟩]
theorem rf_sald (hc : decode (ip_code m) pc = .ok (.iaload, 1)) (hk : kd sh 0 = 105) (hj : ¬ (j < 0 ∨ ln sh 0 ≤ j.toNatClampNeg)) : rf d m pc ls (.int j :: .ref 0 :: st) (sh, I, L, R, nc, ns, nx) = rf d m (pc + 1) ls (.int (I 0 j.toNatClampNeg) :: st) (sh, I, L, R, nc, ns, nx) := by
  refine rf_heap hc rfl ?_
  show (if 1 = 1 then ip_iald (.int j :: .ref 0 :: st) (sh, I, L, R, nc, ns, nx) else none) = _
  rw [if_pos rfl]
  unfold ip_iald
  simp only [kd_at hk (by omega)]
  rw [if_pos ⟨Or.inr ⟨trivial, trivial⟩, hj⟩]
theorem rf_zald (hc : decode (ip_code m) pc = .ok (.baload, 1)) (hk : kd sh a = 102) (ha : 2 ≤ a) (hj : ¬ (j < 0 ∨ ln sh a ≤ j.toNatClampNeg)) : rf d m pc ls (.int j :: .ref a :: st) (sh, I, L, R, nc, ns, nx) = rf d m (pc + 1) ls (.int (I a j.toNatClampNeg) :: st) (sh, I, L, R, nc, ns, nx) := by
  refine rf_heap hc rfl ?_
  show (if 1 = 1 then ip_zald (.int j :: .ref a :: st) (sh, I, L, R, nc, ns, nx) else none) = _
  rw [if_pos rfl]
  unfold ip_zald
  simp only [kd_at hk (by omega)]
  rw [if_pos ⟨⟨trivial, ha⟩, hj⟩]
theorem rf_lald (hc : decode (ip_code m) pc = .ok (.laload, 1)) (hk : kd sh a = 101) (ha : 2 ≤ a) (hj : ¬ (j < 0 ∨ ln sh a ≤ j.toNatClampNeg)) : rf d m pc ls (.int j :: .ref a :: st) (sh, I, L, R, nc, ns, nx) = rf d m (pc + 1) ls (.long (L a j.toNatClampNeg) :: st) (sh, I, L, R, nc, ns, nx) := by
  refine rf_heap hc rfl ?_
  show (if 1 = 1 then ip_lald (.int j :: .ref a :: st) (sh, I, L, R, nc, ns, nx) else none) = _
  rw [if_pos rfl]
  unfold ip_lald
  simp only [kd_at hk (by omega)]
  rw [if_pos ⟨Or.inl ⟨trivial, ha⟩, hj⟩]
theorem rf_nald (hc : decode (ip_code m) pc = .ok (.laload, 1)) (hk : kd sh 1 = 106) (hj : ¬ (j < 0 ∨ ln sh 1 ≤ j.toNatClampNeg)) : rf d m pc ls (.int j :: .ref 1 :: st) (sh, I, L, R, nc, ns, nx) = rf d m (pc + 1) ls (.long (L 1 j.toNatClampNeg) :: st) (sh, I, L, R, nc, ns, nx) := by
  refine rf_heap hc rfl ?_
  show (if 1 = 1 then ip_lald (.int j :: .ref 1 :: st) (sh, I, L, R, nc, ns, nx) else none) = _
  rw [if_pos rfl]
  unfold ip_lald
  simp only [kd_at hk (by omega)]
  rw [if_pos ⟨Or.inr ⟨trivial, trivial⟩, hj⟩]
theorem rf_aald (hc : decode (ip_code m) pc = .ok (.aaload, 1)) (hk : kd sh a = 103) (ha : 2 ≤ a) (hj : ¬ (j < 0 ∨ ln sh a ≤ j.toNatClampNeg)) : rf d m pc ls (.int j :: .ref a :: st) (sh, I, L, R, nc, ns, nx) = rf d m (pc + 1) ls (ip_rf (R a j.toNatClampNeg) :: st) (sh, I, L, R, nc, ns, nx) := by
  refine rf_heap hc rfl ?_
  show (if 1 = 1 then ip_aald (.int j :: .ref a :: st) (sh, I, L, R, nc, ns, nx) else none) = _
  rw [if_pos rfl]
  unfold ip_aald
  simp only [kd_at hk (by omega)]
  rw [if_pos ⟨⟨trivial, ha⟩, hj⟩]
theorem rf_iast (hc : decode (ip_code m) pc = .ok (.iastore, 1)) (hk : kd sh a = 100) (ha : 2 ≤ a) (hj : ¬ (j < 0 ∨ ln sh a ≤ j.toNatClampNeg)) : rf d m pc ls (.int x :: .int j :: .ref a :: st) (sh, I, L, R, nc, ns, nx) = rf d m (pc + 1) ls st (sh, ip_up I a j.toNatClampNeg x, L, R, nc, ns, nx) := by
  refine rf_heap hc rfl ?_
  show (if 1 = 1 then ip_iast (.int x :: .int j :: .ref a :: st) (sh, I, L, R, nc, ns, nx) else none) = _
  rw [if_pos rfl]
  unfold ip_iast
  simp only [kd_at hk (by omega)]
  rw [if_pos ⟨⟨trivial, ha⟩, hj⟩]
theorem rf_zast (hc : decode (ip_code m) pc = .ok (.bastore, 1)) (hk : kd sh a = 102) (ha : 2 ≤ a) (hj : ¬ (j < 0 ∨ ln sh a ≤ j.toNatClampNeg)) (hx : x = 0 ∨ x = 1) : rf d m pc ls (.int x :: .int j :: .ref a :: st) (sh, I, L, R, nc, ns, nx) = rf d m (pc + 1) ls st (sh, ip_up I a j.toNatClampNeg x, L, R, nc, ns, nx) := by
  refine rf_heap hc rfl ?_
  show (if 1 = 1 then ip_zast (.int x :: .int j :: .ref a :: st) (sh, I, L, R, nc, ns, nx) else none) = _
  rw [if_pos rfl]
  unfold ip_zast
  simp only [kd_at hk (by omega)]
  rw [if_pos ⟨⟨trivial, ha⟩, hj, hx⟩]
theorem rf_last (hc : decode (ip_code m) pc = .ok (.lastore, 1)) (hk : kd sh a = 101) (ha : 2 ≤ a) (hj : ¬ (j < 0 ∨ ln sh a ≤ j.toNatClampNeg)) : rf d m pc ls (.long u :: .int j :: .ref a :: st) (sh, I, L, R, nc, ns, nx) = rf d m (pc + 1) ls st (sh, I, ip_up L a j.toNatClampNeg u, R, nc, ns, nx) := by
  refine rf_heap hc rfl ?_
  show (if 1 = 1 then ip_last (.long u :: .int j :: .ref a :: st) (sh, I, L, R, nc, ns, nx) else none) = _
  rw [if_pos rfl]
  unfold ip_last
  simp only [kd_at hk (by omega)]
  rw [if_pos ⟨⟨trivial, ha⟩, hj⟩]
theorem rf_alen (hc : decode (ip_code m) pc = .ok (.arraylength, 1)) (hk : kd sh a = 100 ∨ kd sh a = 101) (ha : 2 ≤ a) : rf d m pc ls (.ref a :: st) (sh, I, L, R, nc, ns, nx) = rf d m (pc + 1) ls (.int (Int32.ofNat (ln sh a)) :: st) (sh, I, L, R, nc, ns, nx) := by
  refine rf_heap hc rfl ?_
  show (if 1 = 1 then ip_alen (.ref a :: st) (sh, I, L, R, nc, ns, nx) else none) = _
  rw [if_pos rfl]
  unfold ip_alen
  rcases hk with hk | hk
  · simp only [kd_at hk (by omega)]
    rw [if_pos (Or.inl ⟨Or.inl trivial, ha⟩)]
  · simp only [kd_at hk (by omega)]
    rw [if_pos (Or.inl ⟨Or.inr (Or.inl trivial), ha⟩)]
theorem rf_slen (hc : decode (ip_code m) pc = .ok (.arraylength, 1)) (hk : kd sh 0 = 105) : rf d m pc ls (.ref 0 :: st) (sh, I, L, R, nc, ns, nx) = rf d m (pc + 1) ls (.int (Int32.ofNat (ln sh 0)) :: st) (sh, I, L, R, nc, ns, nx) := by
  refine rf_heap hc rfl ?_
  show (if 1 = 1 then ip_alen (.ref 0 :: st) (sh, I, L, R, nc, ns, nx) else none) = _
  rw [if_pos rfl]
  unfold ip_alen
  simp only [kd_at hk (by omega)]
  rw [if_pos (Or.inr ⟨trivial, trivial⟩)]
/-! branches -/
theorem rf_if {c : ClassFile.Cond} {off : Int} {t : Nat} {h : ip_H} (hc : decode (ip_code m) pc = .ok (.ifCond c off, 3) ∧ ip_tgt pc off = some t) : rf d m pc ls (.int x :: st) h = if ip_cmp c x 0 = true then rf d m t ls st h else rf d m (pc + 3) ls st h := by
  obtain ⟨h1, h2⟩ := hc
  by_cases hq : ip_cmp c x 0 = true
  · rw [if_pos hq]
    refine rf_pure h1 ?_
    show (if 3 = 3 then ip_br (ip_cmp c x 0) pc off ls st else none) = _
    rw [if_pos rfl, hq]
    unfold ip_br
    rw [h2]
  · rw [if_neg hq]
    refine rf_pure h1 ?_
    show (if 3 = 3 then ip_br (ip_cmp c x 0) pc off ls st else none) = _
    rw [if_pos rfl, Bool.eq_false_iff.mpr hq]
    unfold ip_br
    rw [h2]
theorem rf_ifc {c : ClassFile.Cond} {off : Int} {t : Nat} {h : ip_H} (hc : decode (ip_code m) pc = .ok (.if_icmp c off, 3) ∧ ip_tgt pc off = some t) : rf d m pc ls (.int y :: .int x :: st) h = if ip_cmp c x y = true then rf d m t ls st h else rf d m (pc + 3) ls st h := by
  obtain ⟨h1, h2⟩ := hc
  by_cases hq : ip_cmp c x y = true
  · rw [if_pos hq]
    refine rf_pure h1 ?_
    show (if 3 = 3 then ip_br (ip_cmp c x y) pc off ls st else none) = _
    rw [if_pos rfl, hq]
    unfold ip_br
    rw [h2]
  · rw [if_neg hq]
    refine rf_pure h1 ?_
    show (if 3 = 3 then ip_br (ip_cmp c x y) pc off ls st else none) = _
    rw [if_pos rfl, Bool.eq_false_iff.mpr hq]
    unfold ip_br
    rw [h2]
theorem rf_goto {off : Int} {t : Nat} {h : ip_H} (hc : decode (ip_code m) pc = .ok (.goto off, 3) ∧ ip_tgt pc off = some t) : rf d m pc ls st h = rf d m t ls st h := by
  obtain ⟨h1, h2⟩ := hc
  refine rf_pure h1 ?_
  show (if 3 = 3 then (ip_tgt pc off).map (fun t => (t, ls, st)) else none) = _
  rw [if_pos rfl, h2]
  rfl
/-! calls -/
theorem rf_cv {m' n t b : Nat} {vs : List Value} (hc : decode (ip_code m) pc = .ok (.invokevirtual idx, 3) ∧ ip_spc (ip_own m) idx = none ∧ ip_mth (ip_own m) idx = some (0, m', n) ∧ ip_cn.getD t "" = (ip_y m').cls ∧ t < 9) (hn : vs.length = n) (hk : kd sh b = t) (hb : 2 ≤ b) (hcat : ip_cat st ≤ 8) (hal : (ip_args (.ref b :: vs.reverse)).length ≤ ip_mL m') :
    rf (d + 1) m pc ls (vs ++ .ref b :: st) (sh, I, L, R, nc, ns, nx) = rf_k (d + 1) m pc ls st (cf d m' (.ref b :: vs.reverse) (sh, I, L, R, nc, ns, nx)) := by
  obtain ⟨h1, h2, h3, h4, h5⟩ := hc
  subst hn
  have e1 : (vs ++ Value.ref b :: st).take (vs.length + 1) = vs ++ [.ref b] := by
    rw [List.take_append, List.take_of_length_le (Nat.le_succ _), Nat.add_sub_cancel_left]
    rfl
  have e2 : (vs ++ Value.ref b :: st).drop (vs.length + 1) = st := by
    rw [List.drop_append, List.drop_of_length_le (Nat.le_succ _), Nat.add_sub_cancel_left]
    rfl
  have e3 : (vs ++ Value.ref b :: st).getD vs.length .null = .ref b := by
    rw [List.getD_eq_getElem?_getD, List.getElem?_append_right (Nat.le_refl _), Nat.sub_self]
    rfl
  have e4 : (vs ++ [Value.ref b]).reverse = .ref b :: vs.reverse := by rw [List.reverse_append]; rfl
  refine rf_call h1 rfl ?_ rfl rfl ?_
  · show (if 3 = 3 then ip_spi m idx [1, 2] (vs ++ .ref b :: st) (sh, I, L, R, nc, ns, nx) else none) = none
    rw [if_pos rfl]
    unfold ip_spi
    rw [h2]
  · unfold ip_inv
    dsimp only
    rw [if_pos rfl, h3]
    dsimp only
    rw [e1, e2, e3, e4, if_pos ⟨rfl, by rw [List.length_append, List.length_cons]; omega, hcat, hal⟩]
    dsimp only
    rw [kd_at hk (by omega)]
    dsimp only
    rw [if_pos ⟨h4, h5, hb⟩]
theorem rf_cs {m' n kk : Nat} {vs : List Value} {h : ip_H} (hc : decode (ip_code m) pc = .ok (.invokestatic idx, 3) ∧ ip_spc (ip_own m) idx = none ∧ ip_mth (ip_own m) idx = some (kk, m', n) ∧ (kk = 1 ∨ kk = 4 ∨ kk = 10)) (hn : vs.length = n) (hcat : ip_cat st ≤ 8) (hal : (ip_args vs.reverse).length ≤ ip_mL m') :
    rf (d + 1) m pc ls (vs ++ st) h = rf_k (d + 1) m pc ls st (cf d m' vs.reverse h) := by
  obtain ⟨h1, h2, h3, h4⟩ := hc
  subst hn
  have e1 : (vs ++ st).take vs.length = vs := by
    rw [List.take_append, List.take_of_length_le (Nat.le_refl _), Nat.sub_self]
    simp
  have e2 : (vs ++ st).drop vs.length = st := by
    rw [List.drop_append, List.drop_of_length_le (Nat.le_refl _), Nat.sub_self]
    rfl
  refine rf_call h1 rfl ?_ rfl rfl ?_
  · show (if 3 = 3 then ip_spi m idx [3, 4] (vs ++ st) h else none) = none
    rw [if_pos rfl]
    unfold ip_spi
    rw [h2]
  · unfold ip_inv
    dsimp only
    rw [if_pos rfl, h3]
    dsimp only
    rw [e1, e2, if_pos ⟨h4, by rw [List.length_append]; omega, hcat, hal⟩]
end ST
