/-! FORMS OF STEPS over the layout: what the printed equations are made of -/
def ip_nl (o : Option Value) : Bool := match o with
  | some (.long _) => false
  | some (.double _) => false
  | _ => true
theorem ip_nl_none : ip_nl none = true := rfl
theorem ip_nl_int {x : Int32} : ip_nl (some (.int x)) = true := rfl
theorem ip_nl_ref {a : Nat} : ip_nl (some (.ref a)) = true := rfl
theorem ip_clr_nl {ls : List (Option Value)} {j : Nat} (h : ip_nl (ls.getD j none) = true) : ip_clr ls (j + 1) = ls := by
  unfold ip_clr
  dsimp only
  split
  · rename_i e; rw [e] at h; cases h
  · rename_i e; rw [e] at h; cases h
  · rfl
def tx (i : Nat) : Nat := 1000000000 + i
theorem tx_ge (t : Nat) : 1000000000 ≤ 1000000000 + t := Nat.le_add_right _ _
theorem tx_lt {t : Nat} (h : t < 39) : 1000000000 + t < 1000000039 := Nat.add_lt_add_left h 1000000000
theorem ip_cat_nil : ip_cat [] = 0 := rfl
theorem ip_cat_int {x : Int32} {s : List Value} : ip_cat (.int x :: s) = 1 + ip_cat s := by
  unfold ip_cat; rw [List.map_cons, List.sum_cons]; rfl
theorem ip_cat_ref {x : Nat} {s : List Value} : ip_cat (.ref x :: s) = 1 + ip_cat s := by
  unfold ip_cat; rw [List.map_cons, List.sum_cons]; rfl
theorem ip_cat_long {x : Int64} {s : List Value} : ip_cat (.long x :: s) = 2 + ip_cat s := by
  unfold ip_cat; rw [List.map_cons, List.sum_cons]; rfl
theorem ip_rf_some {b : Nat} : ip_rf (some b) = .ref b := rfl
section FO
variable {n d m pc o idx ci k a b len : Nat} {i : Instr} {ls : List (Option Value)} {s : List Value} {I : Nat → Nat → Int32} {L : Nat → Nat → Int64} {R : Nat → Nat → Option Nat} {nc ns : Nat} {nx : Bool} {x y j : Int32} {u : Int64} {h : ip_H}
theorem g_sti {q p : Nat} (hd : okD m pc i len = true) (hp : ip_pure pc i len ls (.int x :: s) = ip_sti pc ls (.int x :: s) (q + 1) p) (hk : Nat.blt (q + 1) ls.length = true) (hn : ip_nl (ls.getD q none) = true) : rf d m pc ls (.int x :: s) h = rf d m (pc + p) (ls.set (q + 1) (some (.int x))) s h := by
  refine rf_pure (okD_ok hd) ?_
  rw [hp]
  unfold ip_sti ip_st1
  dsimp only
  rw [if_pos (Nat.blt_eq.mp hk), ip_clr_nl hn]
  rfl
theorem g_sta {q p : Nat} (hd : okD m pc i len = true) (hp : ip_pure pc i len ls (.ref a :: s) = ip_sta pc ls (.ref a :: s) (q + 1) p) (hk : Nat.blt (q + 1) ls.length = true) (hn : ip_nl (ls.getD q none) = true) : rf d m pc ls (.ref a :: s) h = rf d m (pc + p) (ls.set (q + 1) (some (.ref a))) s h := by
  refine rf_pure (okD_ok hd) ?_
  rw [hp]
  unfold ip_sta ip_st1
  dsimp only
  rw [if_pos (Nat.blt_eq.mp hk), ip_clr_nl hn]
  rfl
theorem g_stl {q p : Nat} (hd : okD m pc i len = true) (hp : ip_pure pc i len ls (.long u :: s) = ip_stl pc ls (.long u :: s) (q + 1) p) (hk : Nat.blt (q + 1 + 1) ls.length = true) (hn : ip_nl (ls.getD q none) = true) : rf d m pc ls (.long u :: s) h = rf d m (pc + p) ((ls.set (q + 1) (some (.long u))).set (q + 1 + 1) none) s h := by
  refine rf_pure (okD_ok hd) ?_
  rw [hp]
  unfold ip_stl ip_st2
  dsimp only
  rw [if_pos (Nat.blt_eq.mp hk), ip_clr_nl hn]
  rfl
theorem g_inc {q : Nat} {z : Int} {w : Int32} (hw : Int32.ofInt z = w) (hd : okD m pc (.iinc (q + 1) z) 3 = true) (hv : ls.getD (q + 1) none = some (.int x)) (hk : Nat.blt (q + 1) ls.length = true) (hn : ip_nl (ls.getD q none) = true) : rf d m pc ls s h = rf d m (pc + 3) (ls.set (q + 1) (some (.int (x + w)))) s h := by
  subst hw
  refine rf_pure (okD_ok hd) ?_
  show (if 3 = 3 then ip_iinc pc ls s (q + 1) z else none) = _
  rw [if_pos rfl]
  unfold ip_iinc ip_st1
  rw [hv]
  dsimp only
  rw [if_pos (Nat.blt_eq.mp hk), ip_clr_nl hn]
  rfl
theorem g_iz {f : Int32 → Int32 → Int32} (hd : okD m pc i len = true) (hp : ip_pure pc i len ls (.int y :: .int x :: s) = ip_iz pc ls (.int y :: .int x :: s) f) (hy : ¬ y = 0) : rf d m pc ls (.int y :: .int x :: s) h = rf d m (pc + 1) ls (.int (f x y) :: s) h := by
  refine rf_pure (okD_ok hd) ?_
  rw [hp]
  unfold ip_iz
  dsimp only
  rw [if_neg hy]
theorem g_lz {f : Int64 → Int64 → Int64} {v : Int64} (hd : okD m pc i len = true) (hp : ip_pure pc i len ls (.long v :: .long u :: s) = ip_lz pc ls (.long v :: .long u :: s) f) (hy : ¬ v = 0) : rf d m pc ls (.long v :: .long u :: s) h = rf d m (pc + 1) ls (.long (f u v) :: s) h := by
  refine rf_pure (okD_ok hd) ?_
  rw [hp]
  unfold ip_lz
  dsimp only
  rw [if_neg hy]
/-! branches -/
theorem g_if {c : ClassFile.Cond} {off : Int} {t : Nat} {P : Prop} (iP : Decidable P) (hd : okD m pc (.ifCond c off) 3 = true) (ht : ip_tgt pc off = some t) (hc : ip_cmp c x 0 = true ↔ P) : rf d m pc ls (.int x :: s) h = if P then rf d m t ls s h else rf d m (pc + 3) ls s h := by
  rw [rf_if ⟨okD_ok hd, ht⟩]
  by_cases q : P
  · rw [if_pos q, if_pos (hc.mpr q)]
  · rw [if_neg q, if_neg (fun z => q (hc.mp z))]
theorem g_ic {c : ClassFile.Cond} {off : Int} {t : Nat} {P : Prop} (iP : Decidable P) (hd : okD m pc (.if_icmp c off) 3 = true) (ht : ip_tgt pc off = some t) (hc : ip_cmp c x y = true ↔ P) : rf d m pc ls (.int y :: .int x :: s) h = if P then rf d m t ls s h else rf d m (pc + 3) ls s h := by
  rw [rf_ifc ⟨okD_ok hd, ht⟩]
  by_cases q : P
  · rw [if_pos q, if_pos (hc.mpr q)]
  · rw [if_neg q, if_neg (fun z => q (hc.mp z))]
theorem cmp_d {P : Prop} [Decidable P] : decide P = true ↔ P := ⟨of_decide_eq_true, decide_eq_true⟩
/-! fields -/
theorem g_I (hd : okD m pc (.getfield idx) 3 = true) (how : ip_own m = o) (hf : ip_fld o idx = some (ci, k)) (ht : Nat.blt (ip_ft ci k) 2 = true) (hk : kd (SH n) a = ci) (ha : 2 ≤ a) : rf d m pc ls (.ref a :: s) (SH n, I, L, R, nc, ns, nx) = rf d m (pc + 3) ls (.int (I a k) :: s) (SH n, I, L, R, nc, ns, nx) := rf_getI ⟨okD_ok hd, by rw [how]; exact hf, Nat.blt_eq.mp ht⟩ hk ha
theorem g_R {q : Value} (hd : okD m pc (.getfield idx) 3 = true) (how : ip_own m = o) (hf : ip_fld o idx = some (ci, k)) (ht : ip_ft ci k = 3) (hk : kd (SH n) a = ci) (ha : 2 ≤ a) (hv : ip_rf (R a k) = q) : rf d m pc ls (.ref a :: s) (SH n, I, L, R, nc, ns, nx) = rf d m (pc + 3) ls (q :: s) (SH n, I, L, R, nc, ns, nx) := by
  rw [rf_getR ⟨okD_ok hd, by rw [how]; exact hf, ht⟩ hk ha, hv]
theorem g_pI (hd : okD m pc (.putfield idx) 3 = true) (how : ip_own m = o) (hf : ip_fld o idx = some (ci, k)) (ht : ip_ft ci k = 0) (hm : ip_may m ci k = true) (hk : kd (SH n) a = ci) (ha : 2 ≤ a) : rf d m pc ls (.int x :: .ref a :: s) (SH n, I, L, R, nc, ns, nx) = rf d m (pc + 3) ls s (SH n, ip_up I a k x, L, R, nc, ns, nx) := rf_putI ⟨okD_ok hd, by rw [how]; exact hf, ht, hm⟩ hk ha
theorem g_pZ (hd : okD m pc (.putfield idx) 3 = true) (how : ip_own m = o) (hf : ip_fld o idx = some (ci, k)) (ht : ip_ft ci k = 1) (hm : ip_may m ci k = true) (hk : kd (SH n) a = ci) (ha : 2 ≤ a) (hx : x = 0 ∨ x = 1) : rf d m pc ls (.int x :: .ref a :: s) (SH n, I, L, R, nc, ns, nx) = rf d m (pc + 3) ls s (SH n, ip_up I a k x, L, R, nc, ns, nx) := rf_putZ ⟨okD_ok hd, by rw [how]; exact hf, ht, hm⟩ hk ha hx
theorem g_pR (hd : okD m pc (.putfield idx) 3 = true) (how : ip_own m = o) (hf : ip_fld o idx = some (ci, k)) (ht : ip_ft ci k = 3) (hm : ip_may m ci k = true) (hk : kd (SH n) a = ci) (ha : 2 ≤ a) : rf d m pc ls (.ref b :: .ref a :: s) (SH n, I, L, R, nc, ns, nx) = rf d m (pc + 3) ls s (SH n, I, L, ip_up R a k (some b), nc, ns, nx) := rf_putR ⟨okD_ok hd, by rw [how]; exact hf, ht, hm⟩ hk ha
/-! arrays -/
theorem g_ial (hd : okD m pc .iaload 1 = true) (q : ia n a j) : rf d m pc ls (.int j :: .ref a :: s) (SH n, I, L, R, nc, ns, nx) = rf d m (pc + 1) ls (.int (I a j.toNatClampNeg) :: s) (SH n, I, L, R, nc, ns, nx) := rf_iald (okD_ok hd) q.1.1 q.1.2 q.2
theorem g_sal (hd : okD m pc .iaload 1 = true) (q : inb j n) : rf d m pc ls (.int j :: .ref 0 :: s) (SH n, I, L, R, nc, ns, nx) = rf d m (pc + 1) ls (.int (I 0 j.toNatClampNeg) :: s) (SH n, I, L, R, nc, ns, nx) := rf_sald (okD_ok hd) rfl q
theorem g_ias (hd : okD m pc .iastore 1 = true) (q : ia n a j) : rf d m pc ls (.int x :: .int j :: .ref a :: s) (SH n, I, L, R, nc, ns, nx) = rf d m (pc + 1) ls s (SH n, ip_up I a j.toNatClampNeg x, L, R, nc, ns, nx) := rf_iast (okD_ok hd) q.1.1 q.1.2 q.2
theorem g_lal (hd : okD m pc .laload 1 = true) (q : la n a j) : rf d m pc ls (.int j :: .ref a :: s) (SH n, I, L, R, nc, ns, nx) = rf d m (pc + 1) ls (.long (L a j.toNatClampNeg) :: s) (SH n, I, L, R, nc, ns, nx) := rf_lald (okD_ok hd) q.1.1 q.1.2 q.2
theorem g_nal (hd : okD m pc .laload 1 = true) (q : inb j 6) : rf d m pc ls (.int j :: .ref 1 :: s) (SH n, I, L, R, nc, ns, nx) = rf d m (pc + 1) ls (.long (L 1 j.toNatClampNeg) :: s) (SH n, I, L, R, nc, ns, nx) := rf_nald (okD_ok hd) rfl q
theorem g_las (hd : okD m pc .lastore 1 = true) (q : la n a j) : rf d m pc ls (.long u :: .int j :: .ref a :: s) (SH n, I, L, R, nc, ns, nx) = rf d m (pc + 1) ls s (SH n, I, ip_up L a j.toNatClampNeg u, R, nc, ns, nx) := rf_last (okD_ok hd) q.1.1 q.1.2 q.2
theorem g_zal (hd : okD m pc .baload 1 = true) (q : za n a j) : rf d m pc ls (.int j :: .ref a :: s) (SH n, I, L, R, nc, ns, nx) = rf d m (pc + 1) ls (.int (I a j.toNatClampNeg) :: s) (SH n, I, L, R, nc, ns, nx) := rf_zald (okD_ok hd) q.1.1 q.1.2 q.2
theorem g_zas (hd : okD m pc .bastore 1 = true) (q : za n a j) (hx : x = 0 ∨ x = 1) : rf d m pc ls (.int x :: .int j :: .ref a :: s) (SH n, I, L, R, nc, ns, nx) = rf d m (pc + 1) ls s (SH n, ip_up I a j.toNatClampNeg x, L, R, nc, ns, nx) := rf_zast (okD_ok hd) q.1.1 q.1.2 q.2 hx
theorem g_aal (hd : okD m pc .aaload 1 = true) (hR : LYR R) (q : inb j 40) : rf d m pc ls (.int j :: .ref 23 :: s) (SH n, I, L, R, nc, ns, nx) = rf d m (pc + 1) ls (.ref (nd j) :: s) (SH n, I, L, R, nc, ns, nx) := by
  rw [rf_aald (okD_ok hd) (show kd (SH n) 23 = 103 from rfl) (by decide) q, ly_nd hR q]
theorem g_len (hd : okD m pc .arraylength 1 = true) (q : (kd (SH n) a = 100 ∨ kd (SH n) a = 101) ∧ 2 ≤ a) : rf d m pc ls (.ref a :: s) (SH n, I, L, R, nc, ns, nx) = rf d m (pc + 1) ls (.int (Int32.ofNat (ln (SH n) a)) :: s) (SH n, I, L, R, nc, ns, nx) := rf_alen (okD_ok hd) q.1 q.2
theorem g_slen (hd : okD m pc .arraylength 1 = true) : rf d m pc ls (.ref 0 :: s) (SH n, I, L, R, nc, ns, nx) = rf d m (pc + 1) ls (.int (Int32.ofNat n) :: s) (SH n, I, L, R, nc, ns, nx) := rf_slen (okD_ok hd) rfl
/-! constants -/
theorem g_ki (hd : okD m pc i len = true) (hp : ip_pure pc i len ls s = none) (hq : ip_heap m i len s h = ip_ldc (ip_own m) idx s h) (how : ip_own m = o) (hv : ip_kin o idx = some x) : rf d m pc ls s h = rf d m (pc + len) ls (.int x :: s) h := by
  refine rf_heap (okD_ok hd) hp ?_
  rw [hq, how]
  unfold ip_ldc
  rw [hv]
theorem g_ks {t : Nat} (hd : okD m pc i len = true) (hp : ip_pure pc i len ls s = none) (hq : ip_heap m i len s h = ip_ldc (ip_own m) idx s h) (how : ip_own m = o) (hv : ip_kin o idx = none) (hs : ip_str o idx = some t) : rf d m pc ls s h = rf d m (pc + len) ls (.ref (tx t) :: s) h := by
  refine rf_heap (okD_ok hd) hp ?_
  rw [hq, how]
  unfold ip_ldc
  rw [hv, hs]
  rfl
theorem g_kl (hd : okD m pc (.ldc2_w idx) 3 = true) (how : ip_own m = o) (hv : ip_kjn o idx = some u) : rf d m pc ls s h = rf d m (pc + 3) ls (.long u :: s) h := by
  refine rf_heap (okD_ok hd) rfl ?_
  show (if 3 = 3 then (match ip_kjn (ip_own m) idx with | some v => some (.long v :: s, h) | none => none) else none) = _
  rw [if_pos rfl, how, hv]
theorem g_gs (hd : okD m pc (.getstatic 24) 3 = true) (how : ip_own m = 5) : rf d m pc ls s h = rf d m (pc + 3) ls (.ref 1 :: s) h := by
  refine rf_heap (okD_ok hd) rfl ?_
  show (if 3 = 3 ∧ ip_own m = 5 ∧ 24 = 24 then some (Value.ref 1 :: s, h) else none) = _
  rw [if_pos ⟨rfl, how, rfl⟩]
/-! ends -/
theorem g_ri (hd : okD m pc .ireturn 1 = true) (hr : ip_ret m = some .int) : rf d m pc ls [.int x] h = some (.inl (some (.int x)), h) := by
  refine rf_end (okD_ok hd) rfl rfl ?_
  unfold ip_end
  dsimp only
  rw [if_pos rfl, hr]
  dsimp only
  rw [if_pos ⟨rfl, rfl, by decide⟩]
theorem g_rz (hd : okD m pc .ireturn 1 = true) (hr : ip_ret m = some .boolean) (hx : x = 0 ∨ x = 1) : rf d m pc ls [.int x] h = some (.inl (some (.int x)), h) := by
  refine rf_end (okD_ok hd) rfl rfl ?_
  unfold ip_end
  dsimp only
  rw [if_pos rfl, hr]
  dsimp only
  rw [if_pos ⟨rfl, by rcases hx with rfl | rfl <;> rfl, by decide⟩]
theorem g_rl (hd : okD m pc .lreturn 1 = true) (hr : ip_ret m = some .long) : rf d m pc ls [.long u] h = some (.inl (some (.long u)), h) := by
  refine rf_end (okD_ok hd) rfl rfl ?_
  unfold ip_end
  dsimp only
  rw [if_pos ⟨rfl, hr⟩]
theorem g_ra {c : String} (hd : okD m pc .areturn 1 = true) (hr : ip_ret m = some (.object c)) : rf d m pc ls [.ref a] h = some (.inl (some (.ref a)), h) := by
  refine rf_end (okD_ok hd) rfl rfl ?_
  unfold ip_end
  dsimp only
  rw [if_pos rfl, hr]
theorem g_rv (hd : okD m pc .return_ 1 = true) (hr : ip_ret m = none) : rf d m pc ls [] h = some (.inl none, h) := by
  refine rf_end (okD_ok hd) rfl rfl ?_
  unfold ip_end
  dsimp only
  rw [if_pos ⟨rfl, hr⟩]
theorem g_thr {E : String} (hd : okD m pc (.new idx) 3 = true) (how : ip_own m = o) (hk : ip_kls o idx = none) (ht : ip_thr m pc (.new idx) 3 [] = some E) : rf d m pc ls [] h = some (.inr E, ip_hx h) := by
  refine rf_thr (okD_ok hd) rfl ?_ rfl ht
  show (if 3 = 3 then ip_new (ip_own m) idx [] h else none) = none
  rw [if_pos rfl, how]
  unfold ip_new
  rw [hk]
/-! calls -/
theorem g_cv {m' p t : Nat} (vs : List Value) {q : Nat} (hd : okD m pc (.invokevirtual idx) 3 = true) (how : ip_own m = o) (hs : ip_spc o idx = none) (hm : ip_mth o idx = some (0, m', p)) (hc : ip_cn.getD t "" = (ip_y m').cls) (ht : Nat.blt t 9 = true) (hn : vs.length = p) (hL : ip_mL m' = q) (hal : Nat.ble (ip_args (.ref b :: vs.reverse)).length q = true) (hk : kd (SH n) b = t) (hb : 2 ≤ b) (hcat : ip_cat s ≤ 8) :
    rf (d + 1) m pc ls (vs ++ .ref b :: s) (SH n, I, L, R, nc, ns, nx) = rf_k (d + 1) m pc ls s (cf d m' (.ref b :: vs.reverse) (SH n, I, L, R, nc, ns, nx)) :=
  rf_cv ⟨okD_ok hd, by rw [how]; exact hs, by rw [how]; exact hm, hc, Nat.blt_eq.mp ht⟩ hn hk hb hcat (by rw [hL]; exact Nat.le_of_ble_eq_true hal)
theorem g_cs {m' p kk : Nat} (vs : List Value) {q : Nat} (hd : okD m pc (.invokestatic idx) 3 = true) (how : ip_own m = o) (hs : ip_spc o idx = none) (hm : ip_mth o idx = some (kk, m', p)) (hkk : kk = 1 ∨ kk = 4 ∨ kk = 10) (hn : vs.length = p) (hL : ip_mL m' = q) (hal : Nat.ble (ip_args vs.reverse).length q = true) (hcat : ip_cat s ≤ 8) :
    rf (d + 1) m pc ls (vs ++ s) h = rf_k (d + 1) m pc ls s (cf d m' vs.reverse h) :=
  rf_cs ⟨okD_ok hd, by rw [how]; exact hs, by rw [how]; exact hm, hkk⟩ hn hcat (by rw [hL]; exact Nat.le_of_ble_eq_true hal)
theorem rk_n {rest : List Value} : rf_k d m pc ls rest (some (.inl none, h)) = rf d m (pc + 3) ls rest h := rfl
theorem rk_v {rest : List Value} {v : Value} : rf_k d m pc ls rest (some (.inl (some v), h)) = rf d m (pc + 3) ls (v :: rest) h := rfl
theorem rk_x {rest : List Value} {E : String} (hh : ip_hnd m = []) : rf_k d m pc ls rest (some (.inr E, h)) = some (.inr E, h) := by
  unfold rf_k ip_got
  rw [hh]
  rfl
/-! String.length, charAt, Math.min, arraycopy -/
theorem g_sl {t : Nat} (hd : okD m pc (.invokevirtual idx) 3 = true) (how : ip_own m = o) (hs : ip_spc o idx = some 1) (ht : t < 39) (hcat : ip_cat s ≤ 8) : rf d m pc ls (.ref (tx t) :: s) h = rf d m (pc + 3) ls (.int (Int32.ofNat (ip_tb.getD t []).length) :: s) h := by
  refine rf_heap (okD_ok hd) rfl ?_
  show (if 3 = 3 then ip_spi m idx [1, 2] (.ref (tx t) :: s) h else none) = _
  rw [if_pos rfl]
  unfold ip_spi
  rw [how, hs]
  show ip_s1 (.ref (tx t) :: s) h = _
  unfold ip_s1 tx
  dsimp only
  rw [if_pos ⟨hcat, tx_ge t, tx_lt ht⟩, Nat.add_sub_cancel_left]
theorem g_sc {t : Nat} (hd : okD m pc (.invokevirtual idx) 3 = true) (how : ip_own m = o) (hs : ip_spc o idx = some 2) (ht : t < 39) (hcat : ip_cat s ≤ 8) (hj : inb j (ip_tb.getD t []).length) : rf d m pc ls (.int j :: .ref (tx t) :: s) h = rf d m (pc + 3) ls (.int (Int32.ofNat ((ip_tb.getD t []).getD j.toNatClampNeg 0)) :: s) h := by
  refine rf_heap (okD_ok hd) rfl ?_
  show (if 3 = 3 then ip_spi m idx [1, 2] (.int j :: .ref (tx t) :: s) h else none) = _
  rw [if_pos rfl]
  unfold ip_spi
  rw [how, hs]
  show ip_s2 (.int j :: .ref (tx t) :: s) h = _
  unfold ip_s2 tx
  dsimp only
  rw [Nat.add_sub_cancel_left, if_pos ⟨hcat, tx_ge t, tx_lt ht, hj⟩]
theorem g_min (hd : okD m pc (.invokestatic idx) 3 = true) (how : ip_own m = o) (hs : ip_spc o idx = some 4) (hcat : ip_cat s ≤ 8) : rf d m pc ls (.int y :: .int x :: s) h = rf d m (pc + 3) ls (.int (if y < x then y else x) :: s) h := by
  refine rf_heap (okD_ok hd) rfl ?_
  show (if 3 = 3 then ip_spi m idx [3, 4] (.int y :: .int x :: s) h else none) = _
  rw [if_pos rfl]
  unfold ip_spi
  rw [how, hs]
  show ip_s4 (.int y :: .int x :: s) h = _
  unfold ip_s4
  dsimp only
  rw [if_pos hcat]
theorem g_cpI {z sp dp : Int32} (hd : okD m pc (.invokestatic idx) 3 = true) (how : ip_own m = o) (hs : ip_spc o idx = some 3) (hcat : ip_cat s ≤ 8) (ka : kd (SH n) a = 100 ∧ 2 ≤ a) (kb : kd (SH n) b = 100 ∧ 2 ≤ b) (hsp : ¬ sp < 0 ∧ ¬ dp < 0 ∧ ¬ z < 0 ∧ sp.toNatClampNeg + z.toNatClampNeg ≤ ln (SH n) b ∧ dp.toNatClampNeg + z.toNatClampNeg ≤ ln (SH n) a) : rf d m pc ls (.int z :: .int dp :: .ref a :: .int sp :: .ref b :: s) (SH n, I, L, R, nc, ns, nx) = rf d m (pc + 3) ls s (SH n, ip_row I a (va_cpy (I b) (I a) sp.toNatClampNeg dp.toNatClampNeg z.toNatClampNeg), L, R, nc, ns, true) := by
  refine rf_heap (okD_ok hd) rfl ?_
  show (if 3 = 3 then ip_spi m idx [3, 4] (.int z :: .int dp :: .ref a :: .int sp :: .ref b :: s) (SH n, I, L, R, nc, ns, nx) else none) = _
  rw [if_pos rfl]
  unfold ip_spi
  rw [how, hs]
  show ip_s3 (.int z :: .int dp :: .ref a :: .int sp :: .ref b :: s) (SH n, I, L, R, nc, ns, nx) = _
  unfold ip_s3
  simp only [kd_at ka.1 (by omega), kd_at kb.1 (by omega)]
  rw [if_pos ⟨hcat, ka.2, kb.2, trivial, hsp.1, hsp.2.1, hsp.2.2.1, hsp.2.2.2⟩]
  rfl
theorem g_cpL {z sp dp : Int32} (hd : okD m pc (.invokestatic idx) 3 = true) (how : ip_own m = o) (hs : ip_spc o idx = some 3) (hcat : ip_cat s ≤ 8) (ka : kd (SH n) a = 101 ∧ 2 ≤ a) (kb : kd (SH n) b = 101 ∧ 2 ≤ b) (hsp : ¬ sp < 0 ∧ ¬ dp < 0 ∧ ¬ z < 0 ∧ sp.toNatClampNeg + z.toNatClampNeg ≤ ln (SH n) b ∧ dp.toNatClampNeg + z.toNatClampNeg ≤ ln (SH n) a) : rf d m pc ls (.int z :: .int dp :: .ref a :: .int sp :: .ref b :: s) (SH n, I, L, R, nc, ns, nx) = rf d m (pc + 3) ls s (SH n, I, ip_row L a (va_cpy (L b) (L a) sp.toNatClampNeg dp.toNatClampNeg z.toNatClampNeg), R, nc, ns, true) := by
  refine rf_heap (okD_ok hd) rfl ?_
  show (if 3 = 3 then ip_spi m idx [3, 4] (.int z :: .int dp :: .ref a :: .int sp :: .ref b :: s) (SH n, I, L, R, nc, ns, nx) else none) = _
  rw [if_pos rfl]
  unfold ip_spi
  rw [how, hs]
  show ip_s3 (.int z :: .int dp :: .ref a :: .int sp :: .ref b :: s) (SH n, I, L, R, nc, ns, nx) = _
  unfold ip_s3
  simp only [kd_at ka.1 (by omega), kd_at kb.1 (by omega)]
  rw [if_pos ⟨hcat, ka.2, kb.2, trivial, hsp.1, hsp.2.1, hsp.2.2.1, hsp.2.2.2⟩]
  rfl
end FO
