/-! THE PICTURE MACHINE, 17: what it runs, the machine runs -/
theorem ip_ct_nz : ip_ct.all (fun e => decide (e.2.1 ≠ 0) && decide (e.2.2.1 ∈ ip_xn)) = true := by decide +kernel
theorem ip_ctn_nz {own idx : Nat} {E : String} (h : ip_ctn own idx = some E) : idx ≠ 0 ∧ E ∈ ip_xn := by
  unfold ip_ctn at h
  obtain ⟨⟨o, i, c, p1⟩, he, e2⟩ := ip_map_ok h
  cases e2
  obtain ⟨h1, h2⟩ := ip_find_ok he ip_ct_nz
  simp only [Bool.and_eq_true, beq_iff_eq, decide_eq_true_eq] at h1 h2
  obtain ⟨rfl, rfl⟩ := h1
  exact h2
theorem ip_find_is {own pc : Nat} {E : String} : ∀ (hh : List (Nat × Nat × Nat × Nat)) {t : Nat}, ip_find own pc E hh = some t → ∃ pre x suf, hh = pre ++ x :: suf ∧ x.2.2.1 = t ∧ (x.1 ≤ pc ∧ pc < x.2.1) ∧ ip_ctn own x.2.2.2 = some E ∧ ∀ z ∈ pre, ¬ (z.1 ≤ pc ∧ pc < z.2.1) ∨ ∃ nm, ip_ctn own z.2.2.2 = some nm ∧ nm ≠ E
  | [], t, h => by cases h
  | (a, b, t0, c) :: r, t, h => by
    rw [ip_find] at h
    by_cases hab : a ≤ pc ∧ pc < b
    · rw [if_pos hab] at h
      split at h
      · rename_i nm hn
        by_cases he : nm = E
        · rw [if_pos he] at h
          cases h
          exact ⟨[], (a, b, t0, c), r, rfl, rfl, hab, by rw [← he]; exact hn, fun z hz => nomatch hz⟩
        · rw [if_neg he] at h
          obtain ⟨pre, x, suf, h1, h2, h3, h4, h5⟩ := ip_find_is r h
          exact ⟨(a, b, t0, c) :: pre, x, suf, by rw [h1]; rfl, h2, h3, h4, fun z hz => by
            rcases List.mem_cons.mp hz with rfl | hz
            · exact Or.inr ⟨nm, hn, he⟩
            · exact h5 z hz⟩
      · cases h
    · rw [if_neg hab] at h
      obtain ⟨pre, x, suf, h1, h2, h3, h4, h5⟩ := ip_find_is r h
      exact ⟨(a, b, t0, c) :: pre, x, suf, by rw [h1]; rfl, h2, h3, h4, fun z hz => by
        rcases List.mem_cons.mp hz with rfl | hz
        · exact Or.inl hab
        · exact h5 z hz⟩
section IPU
variable {G : ip_G} {p : Program} {l : Launch} {e : Env} {R : Room} {s : State} {mid : MethodId} {args : Array Value} {below : List Frame} {meth : Method} {c : Code} {Q : State → Prop} {m d n0 s0 : Nat}
variable {pc : Nat} {lsA : Array Slot} {st : List Value} {h h' : ip_H} {o : ip_O}
/-- returns -/
theorem ip_end_ok (F : ip_Fr G p l R s mid args meth c m d) {i : Instr} {len : Nat} {v : Option Value} (hd : decode (ip_code m) pc = .ok (i, len)) (h9 : ip_end m i len st = some v) {Qc : Array Value → State → Outcome → State → Prop} {free : Addr → Prop} {cells slots : Nat} {H : Heap} {locs : List Loc} (hq : ∀ t : State, t.heap = H → s.WarmedH t.vm → Qc args s (.returned (v.map (ip_v (ip_ad G)))) t) (hf : ∀ q ∈ locs, free q.base) :
    W p l e R s mid args below meth c H locs cells slots (MQ below Qc args s cells slots free) (F0 mid pc lsA (st.map (ip_v (ip_ad G)))) := by
  obtain ⟨hx, hb, hml, hr, hown, hts, hlk, hin, htb, hWd, hst, hf1, hf2⟩ := F
  unfold ip_end at h9
  split at h9
  · obtain ⟨rfl, h8⟩ := ip_if h9
    split at h8
    · rename_i ty hty
      obtain ⟨⟨-, hn, -⟩, h7⟩ := ip_if h8
      cases h7
      exact W.zret (ty := ty) hx hb (hr.trans hty) hn hq hf hd hlk
    · cases h8
  · obtain ⟨⟨rfl, hty⟩, h8⟩ := ip_if h9
    cases h8
    exact W.lret hx hb (hr.trans hty) hq hf hd hlk
  · obtain ⟨rfl, h8⟩ := ip_if h9
    split at h8
    · rename_i C hty
      cases h8
      exact W.aret (rt := .object C) hx hb (hr.trans hty) (Or.inl ⟨_, rfl⟩) (Or.inr ⟨_, rfl⟩) hq hf hd hlk
    · rename_i t hty
      cases h8
      exact W.aret (rt := .array t) hx hb (hr.trans hty) (Or.inr ⟨_, rfl⟩) (Or.inr ⟨_, rfl⟩) hq hf hd hlk
    · cases h8
  · obtain ⟨⟨rfl, hty⟩, h8⟩ := ip_if h9
    cases h8
    exact W.vret hx hb (hr.trans hty) hq hf hd hlk
  · cases h9
/-- where a callee threw E and this method catches it -/
theorem ip_catch_ok (F : ip_Fr G p l R s mid args meth c m d) {ls : List (Option Value)} (hl : ip_lv (ip_ad G) lsA ls) (hlen : ls.length = ip_mL m) {E : String} (hh : ¬ ip_hnd m = []) (h9 : ip_got m pc E = some o) {H : Heap} {locs : List Loc} {cells slots : Nat} {q : Addr} {ce : Cell} {rest : List Value} (hq : H[q]? = some ce) (hv : ce.vm = .none) (hcl : s.vm.findClass E = some ce.cls)
    (K : ∀ (v : Int32) (pc2 : Nat) (lsB : Array Slot), o = .inl (some (.int v)) → decode (ip_code m) pc2 = .ok (.ireturn, 1) → ip_ret m = some .int → W p l e R s mid args below meth c H locs cells slots Q (F0 mid pc2 lsB [.int v])) :
    vx_W p l e R s mid args below meth c H locs cells slots Q (F0 mid pc lsA rest) q := by
  obtain ⟨hx, hb, hml, hr, hown, hts, hlk, hin, htb, hWd, hst, hf1, hf2⟩ := F
  unfold ip_got at h9
  split at h9
  · rename_i q9; exact absurd q9 hh
  · obtain ⟨⟨hret, hE⟩, h8⟩ := ip_if h9
    split at h8
    · rename_i t ht
      obtain ⟨v, hv9, e9⟩ := ip_map_ok h8
      obtain ⟨pre, x, suf, h1, h2, h3, h4, h5⟩ := ip_find_is _ ht
      have hsplit : c.exceptionTable.toList = tableOf pre ++ ⟨x.1, x.2.1, x.2.2.1, x.2.2.2⟩ :: tableOf suf := by
        rw [htb (by rintro rfl; exact hh (by decide +kernel)), h1]
        unfold tableOf
        rw [List.map_append, List.map_cons]
      refine vx_catch hown (tableOf pre) ⟨x.1, x.2.1, x.2.2.1, x.2.2.2⟩ (tableOf suf) hsplit (fun z hz => ?_) ?_ (ip_ctn_nz h4).1 (hts _ (ip_ctn_ok h4)) (va_Nw.use rfl (hWd.2.2.2.2.2.2.2.2.2.2.2.2.1.1 E hE)) hq hv hcl ?_
      · obtain ⟨z0, hz0, rfl⟩ := List.mem_map.mp hz
        rcases h5 z0 hz0 with q | ⟨nm, q1, q2⟩
        · refine Or.inl ?_
          show (decide (z0.1 ≤ pc) && decide (pc < z0.2.1)) = false
          rw [Bool.and_eq_false_iff, decide_eq_false_iff_not, decide_eq_false_iff_not]
          by_cases w : z0.1 ≤ pc
          · exact Or.inr (fun w2 => q ⟨w, w2⟩)
          · exact Or.inl w
        · exact Or.inr ⟨(ip_ctn_nz q1).1, nm, hts _ (ip_ctn_ok q1), hWd.2.2.2.2.2.2.2.2.2.2.2.1 E nm hE (ip_ctn_nz q1).2 (fun w => q2 w.symm)⟩
      · show (decide (x.1 ≤ pc) && decide (pc < x.2.1)) = true
        rw [Bool.and_eq_true, decide_eq_true_eq, decide_eq_true_eq]
        exact h3
      · show W p l e R s mid args below meth c H locs cells slots Q (F0 mid x.2.2.1 lsA [.ref q])
        rw [h2]
        unfold ip_hv at hv9
        split at hv9
        · rename_i k d0
          obtain ⟨hk, hv8⟩ := ip_if hv9
          split at hv8
          · rename_i nn d1 d2
            cases hv8
            exact lv_astore_n hx hb d0 rfl hl (by rw [hlen]; exact hk) rfl (fun lsB hB => lv_iconst hx hb d1 rfl (K _ (t + 1 + 1) lsB e9.symm d2 hret))
          · cases hv8
        · rename_i k d0
          obtain ⟨hk, hv8⟩ := ip_if hv9
          split at hv8
          · rename_i nn d1 d2
            cases hv8
            exact lv_astore hx hb d0 hl (by rw [hlen]; exact hk) rfl (fun lsB hB => lv_iconst hx hb d1 rfl (K _ (t + 2 + 1) lsB e9.symm d2 hret))
          · cases hv8
        · cases hv9
    · cases h8
end IPU
theorem ip_thr_ok {G : ip_G} {p : Program} {l : Launch} {e : Env} {R : Room} {s : State} {mid : MethodId} {args : Array Value} {below : List Frame} {meth : Method} {c : Code} {m d : Nat} {pc len : Nat} {lsA : Array Slot} {i : Instr} {st : List Value} {E : String} (F : ip_Fr G p l R s mid args meth c m d) (hz : lsA.size = ip_mL m) (hd : decode (ip_code m) pc = .ok (i, len)) (h9 : ip_thr m pc i len st = some E) {Qc : Array Value → State → Outcome → State → Prop} {XC : String → State → State → Prop} {mc ms cells slots : Nat} {H : Heap} {locs : List Loc}
    (hS : va_S (ip_A G) s.heap H locs) (hRc : cells + 1 ≤ R.cells) (hRs : slots + 6 ≤ R.slots) (hx : ∀ t : State, s.vm.Alike t.vm → H.size ≤ t.heap.size → (∀ q : Nat, q < H.size → t.heap[q]? = H[q]?) → XC E s t) (hc : cells + 1 ≤ mc) (hs2 : slots + 6 ≤ ms) :
    W p l e R s mid args below meth c H locs cells slots (vx_MQ below Qc XC args s mc ms (ip_A G)) (F0 mid pc lsA (st.map (ip_v (ip_ad G)))) := by
  obtain ⟨ik, is, ic, si, rfl, rfl, rfl, hh, hE, hs, hx4, d3, d4⟩ := ip_thr_is h9
  have hl4 : (ip_own m, ic, E) = (7, 90, "java/lang/IllegalArgumentException") ∨ (ip_own m, ic, E) = (7, 391, "java/lang/IndexOutOfBoundsException") ∨ (ip_own m, ic, E) = (7, 116, "java/util/NoSuchElementException") ∨ (ip_own m, ic, E) = (7, 151, "java/lang/IllegalStateException") := by
    simpa [ip_xl, ip_xl_1] using hx4
  have hcn : ip_own m = 7 → ip_cn.getD (ip_own m) "" = "RemandTree" := fun q => by rw [q]; rfl
  rcases hl4 with q | q | q | q
  · obtain ⟨q1, q2, q3⟩ : ip_own m = 7 ∧ ic = 90 ∧ E = "java/lang/IllegalArgumentException" := by simpa using q
    subst q2; subst q3
    exact ip_thr_one F hz (by rintro rfl; exact absurd q1 (by decide +kernel)) hh hE hs (by decide) (by decide +kernel) ip_xi_a (by rw [hcn q1]; exact ip_xw_a) hd d3 d4 hS hRc hRs hx hc hs2
  · obtain ⟨q1, q2, q3⟩ : ip_own m = 7 ∧ ic = 391 ∧ E = "java/lang/IndexOutOfBoundsException" := by simpa using q
    subst q2; subst q3
    exact ip_thr_one F hz (by rintro rfl; exact absurd q1 (by decide +kernel)) hh hE hs (by decide) (by decide +kernel) ip_xi_i (by rw [hcn q1]; exact ip_xw_i) hd d3 d4 hS hRc hRs hx hc hs2
  · obtain ⟨q1, q2, q3⟩ : ip_own m = 7 ∧ ic = 116 ∧ E = "java/util/NoSuchElementException" := by simpa using q
    subst q2; subst q3
    exact ip_thr_nse F hz q1 hh hE hs hd d3 d4 hS hRc hRs hx hc hs2
  · obtain ⟨q1, q2, q3⟩ : ip_own m = 7 ∧ ic = 151 ∧ E = "java/lang/IllegalStateException" := by simpa using q
    subst q2; subst q3
    exact ip_thr_one F hz (by rintro rfl; exact absurd q1 (by decide +kernel)) hh hE hs (by decide) (by decide +kernel) ip_xi_s (by rw [hcn q1]; exact ip_xw_s) hd d3 d4 hS hRc hRs hx hc hs2
/-- frames: what the picture machine runs with fuel n, the machine runs to Q -/
def ip_S (l : Launch) (G : ip_G) (n : Nat) : Prop := ∀ (p : Program) (e : Env) (R : Room) (s : State) (mid : MethodId) (args : Array Value) (below : List Frame) (meth : Method) (c : Code) (Q : State → Prop) (m d n0 s0 : Nat) (o : ip_O) (h' : ip_H), ip_Fr G p l R s mid args meth c m d →
  (∀ (v : Option Value) (i : Instr) (len pc : Nat) (lsA : Array Slot) (st : List Value), o = .inl v → decode (ip_code m) pc = .ok (i, len) → ip_end m i len st = some v → ip_Nx G p l e R s mid args below meth c Q n0 s0 pc lsA st h') →
  (∀ (E : String) (i : Instr) (len pc : Nat) (lsA : Array Slot) (st : List Value) (h : ip_H), o = .inr E → lsA.size = ip_mL m → decode (ip_code m) pc = .ok (i, len) → ip_thr m pc i len st = some E → h' = ip_hx h → ip_Nx G p l e R s mid args below meth c Q n0 s0 pc lsA st h) →
  (∀ (E : String), o = .inr E → ip_hnd m = [] → ∀ (pc : Nat) (lsA : Array Slot) (rest : List Value) (H : Heap) (locs : List Loc) (cells slots : Nat) (q : Addr) (ce : Cell), ip_Inv G h' H → va_S (ip_A G) s.heap H locs → cells + n0 = h'.2.2.2.2.1 → slots + s0 = h'.2.2.2.2.2.1 → H[q]? = some ce → ce.vm = .none → s.vm.findClass E = some ce.cls → vx_W p l e R s mid args below meth c H locs cells slots Q (F0 mid pc lsA rest) q) →
  h'.2.2.2.2.1 ≤ R.cells + n0 → h'.2.2.2.2.2.1 ≤ R.slots + s0 →
  ∀ (pc : Nat) (ls : List (Option Value)) (st : List Value) (h : ip_H) (lsA : Array Slot), ip_run n d m pc ls st h = some (o, h') → ip_lv (ip_ad G) lsA ls → ls.length = ip_mL m → ip_Nx G p l e R s mid args below meth c Q n0 s0 pc lsA st h
set_option maxHeartbeats 4000000 in
/-- methods out of frames -/
theorem ip_MP_of {l : Launch} {G : ip_G} {n : Nat} (hl : l.stackTraces = false) (S : ip_S l G n) {d m : Nat} {as : List Value} {h h' : ip_H} {o : ip_O} (hrun : ip_run n d m 0 (ip_entry m as) [] h = some (o, h')) (hal : (ip_args as).length ≤ ip_mL m) (hm : m < 284) : ip_MP l G m d as h o h' := by
  obtain ⟨a1, a2, a3⟩ := ip_ML_at hm
  have hle := ip_run_le _ _ _ _ _ _ _ _ _ hrun
  have body : ∀ (p : Program) (e : Env) (s : State) (mid : MethodId) (args : Array Value) (below : List Frame) (meth : Method) (c : Code) (s₁ : State), BodyLoose p l (ip_y m) (headSpec (ip_wsm m) (ip_rm d (h'.2.2.2.2.1 - h.2.2.2.2.1) (h'.2.2.2.2.2.1 - h.2.2.2.2.2.1))) (ip_code m) (ip_mL m) (ip_ret m) e s mid args below meth c s₁ → c.maxLocals = ip_mL m → c.exceptionTable.toList = tableOf (ip_hnd m) → ip_Pc G as h args s →
      W p l e (headSpec (ip_wsm m) (ip_rm d (h'.2.2.2.2.1 - h.2.2.2.2.1) (h'.2.2.2.2.2.1 - h.2.2.2.2.2.1))).room s mid args below meth c s.heap [] 0 0 (vx_MQ below (ip_Qc G o h') (ip_XC G o h') args s (h'.2.2.2.2.1 - h.2.2.2.2.1) (h'.2.2.2.2.2.1 - h.2.2.2.2.2.1) (ip_A G)) (entryFrame mid args (ip_mL m)) := by
    intro p e s mid args below meth c s₁ B hml htb hv
    obtain ⟨rfl, hWd, hI⟩ := hv
    have hts0 := atoms_spec (ws := ip_wsm m) B.pre
    have F : ip_Fr G p l (ip_rm d (h'.2.2.2.2.1 - h.2.2.2.2.1) (h'.2.2.2.2.2.1 - h.2.2.2.2.2.1)) s mid (as.map (ip_v (ip_ad G))).toArray meth c m d := ⟨B.exec, B.bytes, hml, B.returns, by rw [a1]; exact findClass_of_methodNamed B.named, fun w hw => hts0 w (List.mem_cons_of_mem _ hw), B.notSynchronized, fun q => (name_of_methodNamed B.named B.method).1.trans q, fun _ => htb, hWd, hl, Nat.le_refl _, Nat.le_refl _⟩
    have K := S p e (ip_rm d (h'.2.2.2.2.1 - h.2.2.2.2.1) (h'.2.2.2.2.2.1 - h.2.2.2.2.2.1)) s mid (as.map (ip_v (ip_ad G))).toArray below meth c (vx_MQ below (ip_Qc G o h') (ip_XC G o h') (as.map (ip_v (ip_ad G))).toArray s (h'.2.2.2.2.1 - h.2.2.2.2.1) (h'.2.2.2.2.2.1 - h.2.2.2.2.2.1) (ip_A G)) m d h.2.2.2.2.1 h.2.2.2.2.2.1 o h' F
      (fun v i len pc lsA st ho hd he H locs cells slots hI hS hc hs => by
        obtain rfl : cells = h'.2.2.2.2.1 - h.2.2.2.2.1 := by omega
        obtain rfl : slots = h'.2.2.2.2.2.1 - h.2.2.2.2.2.1 := by omega
        exact vx_ret (ip_end_ok F hd he (fun t ht _ => ⟨⟨v, ho, rfl⟩, by rw [ht]; exact hI, hS.F ht⟩) hS.2.2))
      (fun E i len pc lsA st h9 ho hz hd he hh H locs cells slots hI hS hc hs => by
        subst hh
        have q1 : (ip_hx h9).2.2.2.2.1 = h9.2.2.2.2.1 + 1 := rfl
        have q2 : (ip_hx h9).2.2.2.2.2.1 = h9.2.2.2.2.2.1 + 6 := rfl
        refine ip_thr_ok F hz hd he hS (by show cells + 1 ≤ (ip_hx h9).2.2.2.2.1 - h.2.2.2.2.1; omega) (by show slots + 6 ≤ (ip_hx h9).2.2.2.2.2.1 - h.2.2.2.2.2.1; omega) (fun t _ hz9 hq9 => ⟨ho, ip_hx_Inv hI hq9, Nat.le_trans hS.1 hz9, fun q w1 w2 => (hq9 q (Nat.lt_of_lt_of_le w1 hS.1)).trans (hS.2.1 q w1 w2)⟩) (by omega) (by omega))
      (fun E ho hh pc lsA rest H locs cells slots q ce hI hS hc hs hq hv hcl => by
        refine vx_out (by rw [htb, hh]; exact fun x w => nomatch w) B.notSynchronized hq hv hcl (fun t ht _ => ⟨ho, by rw [ht]; exact hI, hS.F ht⟩) hS.2.2 (by omega) (by omega))
      (by show _ ≤ h'.2.2.2.2.1 - h.2.2.2.2.1 + h.2.2.2.2.1; omega) (by show _ ≤ h'.2.2.2.2.2.1 - h.2.2.2.2.2.1 + h.2.2.2.2.2.1; omega)
      0 (ip_entry m as) [] h _ hrun (ip_entry_lv hal) (ip_entry_len hal)
    rw [lg_entry_eq]
    exact K s.heap [] 0 0 hI va_S.rf (Nat.zero_add _) (Nat.zero_add _)
  by_cases hh : ip_hnd m = []
  · refine vx_ofW (cc := ip_code m) (maxL := ip_mL m) (ret := ip_ret m) a3 (by unfold ip_wsm; rw [ip_wd_nil hh]) (fun p e s mid args below meth c s₁ B hml htab hv => body p e s mid args below meth c s₁ B hml ?_ hv)
    rw [hh]
    cases hq : c.exceptionTable.toList with
    | nil => rfl
    | cons x r => exact (htab x (by rw [hq]; exact List.mem_cons_self)).elim
  · refine vx_ofWH (cc := ip_code m) (maxL := ip_mL m) (ret := ip_ret m) (hh := ip_hnd m) a3 (by unfold ip_wsm; rw [ip_wd_cons hh]) (fun p e s mid args below meth c s₁ B hml hv => body p e s mid args below meth c s₁ B hml ?_ hv)
    have hts0 := atoms_spec (ws := ip_wsm m) B.pre
    refine vx_table (x := ip_y m) (bytes := ip_code m) (maxL' := ip_mL m) (ret' := ip_ret m) B (hts0 _ ?_)
    unfold ip_wsm
    rw [ip_wd_cons hh]
    exact List.mem_cons_self
set_option maxHeartbeats 4000000 in
theorem ip_sound {l : Launch} {G : ip_G} (hl : l.stackTraces = false) : ∀ n, ip_S l G n := by
  intro n
  induction n with
  | zero => intro p e R s mid args below meth c Q m d n0 s0 o h' F k1 k2 k3 b1 b2 pc ls st h lsA hr; cases hr
  | succ n ih =>
    intro p e R s mid args below meth c Q m d n0 s0 o h' F k1 k2 k3 b1 b2 pc ls st h lsA hr hlv hlen
    have hz : lsA.size = ip_mL m := by rw [← hlen]; exact hlv.1
    rw [ip_run] at hr
    split at hr
    · cases hr
    · rename_i i len hd
      split at hr
      · rename_i pc1 ls1 st1 hp
        intro H locs cells slots hI hS hc hs
        refine ip_pure_ok F.1 F.2.1 hd hp hlv (fun lsB hB hlB => ?_)
        exact ih p e R s mid args below meth c Q m d n0 s0 o h' F k1 k2 k3 b1 b2 pc1 ls1 st1 h lsB hr hB (hlB.trans hlen) H locs cells slots hI hS hc hs
      · split at hr
        · rename_i st1 h1 hp
          have hle := ip_run_le _ _ _ _ _ _ _ _ _ hr
          exact ip_heap_ok F hz hd hp (Nat.le_trans hle.1 b1) (Nat.le_trans hle.2 b2) (ih p e R s mid args below meth c Q m d n0 s0 o h' F k1 k2 k3 b1 b2 (pc + len) ls st1 h1 lsA hr hlv hlen)
        · split at hr
          · rename_i v hp
            cases hr
            exact k1 v i len pc lsA st rfl hd hp
          · split at hr
            · rename_i E hp
              cases hr
              exact k2 E i len pc lsA st h rfl hz hd hp rfl
            · split at hr
              · cases hr
              · rename_i d1
                split at hr
                · cases hr
                · rename_i m1 as rest hp
                  split at hr
                  · cases hr
                  · rename_i h1 hr1
                    have hle1 := ip_run_le _ _ _ _ _ _ _ _ _ hr1
                    have hle := ip_run_le _ _ _ _ _ _ _ _ _ hr
                    exact ip_call_ok F hz hd hp (fun w1 w2 => ip_MP_of hl ih hr1 w1 w2) hle1 (Nat.le_trans hle.1 b1) (Nat.le_trans hle.2 b2) (fun v hv => by cases hv; exact ih p e R s mid args below meth c Q m (d1 + 1) n0 s0 o h' F k1 k2 k3 b1 b2 (pc + 3) ls rest h1 lsA hr hlv hlen) (fun E hv => nomatch hv)
                  · rename_i v h1 hr1
                    have hle1 := ip_run_le _ _ _ _ _ _ _ _ _ hr1
                    have hle := ip_run_le _ _ _ _ _ _ _ _ _ hr
                    exact ip_call_ok F hz hd hp (fun w1 w2 => ip_MP_of hl ih hr1 w1 w2) hle1 (Nat.le_trans hle.1 b1) (Nat.le_trans hle.2 b2) (fun v2 hv => by cases hv; exact ih p e R s mid args below meth c Q m (d1 + 1) n0 s0 o h' F k1 k2 k3 b1 b2 (pc + 3) ls (v :: rest) h1 lsA hr hlv hlen) (fun E hv => nomatch hv)
                  · rename_i E h1 hr1
                    have hle1 := ip_run_le _ _ _ _ _ _ _ _ _ hr1
                    split at hr
                    · rename_i o2 hg
                      cases hr
                      refine ip_call_ok F hz hd hp (fun w1 w2 => ip_MP_of hl ih hr1 w1 w2) hle1 b1 b2 (fun v2 hv => nomatch hv) (fun E2 hv H1 locs1 cells1 slots1 q ce hI1 hS1 hc1 hs1 hq hv1 hcl => ?_)
                      cases hv
                      by_cases hh : ip_hnd m = []
                      · have ho : o = .inr E := by
                          unfold ip_got at hg
                          rw [hh] at hg
                          exact (Option.some.inj hg).symm
                        exact k3 E ho hh pc lsA _ H1 locs1 cells1 slots1 q ce hI1 hS1 hc1 hs1 hq hv1 hcl
                      · exact ip_catch_ok F hlv hlen hh hg hq hv1 hcl (fun v pc2 lsB ho hdr hret => k1 (some (.int v)) .ireturn 1 pc2 lsB [.int v] ho hdr (by unfold ip_end; dsimp only; rw [if_pos rfl, hret]; exact if_pos ⟨rfl, rfl, by decide⟩) H1 locs1 cells1 slots1 hI1 hS1 hc1 hs1)
                    · cases hr
