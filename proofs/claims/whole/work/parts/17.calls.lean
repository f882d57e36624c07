/-! THE PICTURE MACHINE, 15: a method's contract, and its call -/
def ip_rm (d mc ms : Nat) : Room := { frames := d + 8, cells := mc, slots := ms, locals := 40 * d + 300 }
def ip_Pc (G : ip_G) (as : List Value) (h : ip_H) : Array Value → State → Prop := va_Pc (as.map (ip_v (ip_ad G))) (fun U => ip_Wd G U ∧ ip_Inv G h U.heap)
def ip_Qc (G : ip_G) (o : ip_O) (h' : ip_H) : Array Value → State → Outcome → State → Prop := fun _ st oc t => (∃ v, o = .inl v ∧ oc = .returned (v.map (ip_v (ip_ad G)))) ∧ ip_Inv G h' t.heap ∧ va_F (ip_A G) st t
def ip_XC (G : ip_G) (o : ip_O) (h' : ip_H) : String → State → State → Prop := fun E st t => o = .inr E ∧ ip_Inv G h' t.heap ∧ va_F (ip_A G) st t
def ip_wsm (m : Nat) : List Cond := ip_wd (ip_ML.getD m ip_dm) :: ip_tbl
def ip_MP (l : Launch) (G : ip_G) (m d : Nat) (as : List Value) (h : ip_H) (o : ip_O) (h' : ip_H) : Prop := vx_Met l (ip_y m) (ip_wsm m) (ip_rm d (h'.2.2.2.2.1 - h.2.2.2.2.1) (h'.2.2.2.2.2.1 - h.2.2.2.2.2.1)) (ip_Pc G as h) (ip_Qc G o h') (ip_XC G o h') (h'.2.2.2.2.1 - h.2.2.2.2.1) (h'.2.2.2.2.2.1 - h.2.2.2.2.2.1) (ip_A G)
def ip_MLq : List (MethodName × ByteArray × Nat × Option FieldType × Nat × Nat × List (Nat × Nat × Nat × Nat)) := ip_ML_1 ++ (ip_ML_2 ++ (ip_ML_3 ++ (ip_ML_4 ++ (ip_ML_5 ++ (ip_ML_6 ++ (ip_ML_7 ++ (ip_ML_8 ++ (ip_ML_9 ++ (ip_ML_10 ++ (ip_ML_11 ++ (ip_ML_12 ++ (ip_ML_13 ++ (ip_ML_14 ++ ip_ML_15.take 4)))))))))))))
theorem ip_MLq_eq : ip_ML = ip_MLq ++ ip_ML_15.drop 4 := by
  unfold ip_ML ip_MLq
  simp only [List.append_assoc, List.take_append_drop]
set_option maxRecDepth 100000 in
theorem ip_MLq_len : ip_MLq.length = 284 := by decide +kernel
theorem ip_MLq_w : ∀ e ∈ ip_MLq, ip_wd e ∈ ip_tbl := by
  unfold ip_MLq
  simp only [List.forall_mem_append]
  exact ⟨ip_ML_1_w, ip_ML_2_w, ip_ML_3_w, ip_ML_4_w, ip_ML_5_w, ip_ML_6_w, ip_ML_7_w, ip_ML_8_w, ip_ML_9_w, ip_ML_10_w, ip_ML_11_w, ip_ML_12_w, ip_ML_13_w, ip_ML_14_w, ip_ML_15_w⟩
theorem ip_MLq_c : ∀ e ∈ ip_MLq, ip_ML_c e = true := by
  unfold ip_MLq
  simp only [List.forall_mem_append]
  exact ⟨ip_ML_1_ok, ip_ML_2_ok, ip_ML_3_ok, ip_ML_4_ok, ip_ML_5_ok, ip_ML_6_ok, ip_ML_7_ok, ip_ML_8_ok, ip_ML_9_ok, ip_ML_10_ok, ip_ML_11_ok, ip_ML_12_ok, ip_ML_13_ok, ip_ML_14_ok, ip_ML_15_ok⟩
theorem ip_ML_mem {m : Nat} (h : m < 284) : ip_ML.getD m ip_dm ∈ ip_MLq := by
  rw [ip_MLq_eq, List.getD_eq_getElem?_getD, List.getElem?_append_left (by rw [ip_MLq_len]; exact h), List.getElem?_eq_getElem (by rw [ip_MLq_len]; exact h)]
  exact List.getElem_mem _
theorem ip_wd_in {m : Nat} (h : m < 284) : ip_wd (ip_ML.getD m ip_dm) ∈ ip_tbl := ip_MLq_w _ (ip_ML_mem h)
theorem ip_ML_at {m : Nat} (h : m < 284) : ip_cn.getD (ip_own m) "" = (ip_y m).cls ∧ ip_mL m ≤ 14 ∧ plainName (ip_y m).cls = true := by
  have h1 := ip_MLq_c _ (ip_ML_mem h)
  unfold ip_ML_c at h1
  simp only [Bool.and_eq_true, decide_eq_true_eq] at h1
  exact ⟨h1.1.1, h1.1.2, h1.2⟩
theorem ip_wsm_good {m : Nat} (h : m < 284) : GoodIn ip_tbl (ip_wsm m) := by
  intro w hw
  rcases List.mem_cons.mp hw with rfl | hw
  · exact ⟨ip_wd_in h, good_of_word (ip_good (ip_wd_in h))⟩
  · exact ⟨hw, good_of_word (ip_good hw)⟩
theorem ip_wd_nil {m : Nat} (h : ip_hnd m = []) : ip_wd (ip_ML.getD m ip_dm) = .code (ip_y m) (ip_code m) (ip_mL m) (ip_ret m) := by
  unfold ip_wd
  unfold ip_hnd at h
  rw [h]
  rfl
theorem ip_wd_cons {m : Nat} (h : ¬ ip_hnd m = []) : ip_wd (ip_ML.getD m ip_dm) = .codeWith (ip_y m) (ip_code m) (ip_mL m) (ip_ret m) (ip_hnd m) := by
  unfold ip_wd
  split
  · rename_i q; exact absurd q h
  · rfl
theorem ip_blind {G : ip_G} {as : List Value} {h : ip_H} : FrameBlind (ip_Pc G as h) := fun a U g mk q => ⟨q.1, ip_Wd_call q.2.1 g mk a, q.2.2⟩
theorem ip_mth_ok {own idx k m n : Nat} (h : ip_mth own idx = some (k, m, n)) : m < 284 ∧ ((ip_y m).cls ≠ "java/lang/invoke/MethodHandle" ∧ (ip_y m).cls ≠ "java/lang/invoke/VarHandle" ∧ (parseMethodDescriptor (ip_y m).desc).map (fun d => d.parameters.length) = some n) ∧ Cond.initialized (ip_y m).cls ∈ ip_tbl ∧
    (k = 0 → Cond.methodLink (ip_cn.getD own "") idx (ip_y m) ∈ ip_tbl ∧ Cond.instanceMethod (ip_y m) ∈ ip_tbl ∧ Cond.selects (ip_y m).cls (ip_y m) (ip_y m) ∈ ip_tbl ∧ ip_hnd m = []) ∧
    (k = 1 → Cond.methodLink (ip_cn.getD own "") idx (ip_y m) ∈ ip_tbl ∧ Cond.static (ip_y m) ∈ ip_tbl ∧ ip_hnd m = []) ∧
    (k = 2 → Cond.methodLink (ip_cn.getD own "") idx (ip_y m) ∈ ip_tbl ∧ Cond.instanceMethod (ip_y m) ∈ ip_tbl ∧ (ip_y m).name = "<init>" ∧ ip_hnd m = [] ∧ ip_ret m = none) ∧
    (k = 3 → Cond.methodLinkNest (ip_cn.getD own "") idx (ip_y m) "RemandTree" ∈ lw_tbl ∧ Cond.instanceMethod (ip_y m) ∈ ip_tbl ∧ (ip_y m).name = "<init>" ∧ ip_hnd m = [] ∧ ip_ret m = none) ∧
    (k = 4 → Cond.methodLinkNest (ip_cn.getD own "") idx (ip_y m) "RemandTree" ∈ lw_tbl ∧ Cond.static (ip_y m) ∈ ip_tbl ∧ ip_hnd m = []) ∧
    (k = 10 → Cond.methodLink (ip_cn.getD own "") idx (ip_y m) ∈ ip_tbl ∧ Cond.static (ip_y m) ∈ ip_tbl ∧ ¬ ip_hnd m = []) := by
  unfold ip_mth at h
  obtain ⟨⟨o, i, k', m', n', p0, p1, p2, p3⟩, he, e2⟩ := ip_map_ok h
  cases e2
  obtain ⟨h1, h2⟩ := ip_find_ok he ip_cl_ok
  simp only [Bool.and_eq_true, beq_iff_eq] at h1
  obtain ⟨rfl, rfl⟩ := h1
  unfold ip_cl_c at h2
  simp only [Bool.and_eq_true, decide_eq_true_eq] at h2
  obtain ⟨⟨⟨⟨⟨a1, a2⟩, a3⟩, a4⟩, a5⟩, a6⟩ := h2
  refine ⟨a1, ⟨a2, a3, a4⟩, ip_at_in a5, ?_, ?_, ?_, ?_, ?_, ?_⟩
  · rintro rfl
    simp only [Bool.and_eq_true, List.isEmpty_iff] at a6
    exact ⟨ip_at_in a6.1.1.1, ip_at_in a6.1.1.2, ip_at_in a6.1.2, a6.2⟩
  · rintro rfl
    simp only [Bool.and_eq_true, List.isEmpty_iff] at a6
    exact ⟨ip_at_in a6.1.1, ip_at_in a6.1.2, a6.2⟩
  · rintro rfl
    simp only [Bool.and_eq_true, List.isEmpty_iff, decide_eq_true_eq] at a6
    exact ⟨ip_at_in a6.1.1.1.1, ip_at_in a6.1.1.1.2, a6.1.1.2, a6.1.2, a6.2⟩
  · rintro rfl
    simp only [Bool.and_eq_true, List.isEmpty_iff, decide_eq_true_eq] at a6
    exact ⟨ip_in_in a6.1.1.1.1, ip_at_in a6.1.1.1.2, a6.1.1.2, a6.1.2, a6.2⟩
  · rintro rfl
    simp only [Bool.and_eq_true, List.isEmpty_iff] at a6
    exact ⟨ip_in_in a6.1.1, ip_at_in a6.1.2, a6.2⟩
  · rintro rfl
    simp only [Bool.and_eq_true, Bool.not_eq_true'] at a6
    exact ⟨ip_at_in a6.1.1, ip_at_in a6.1.2, fun q => by rw [q] at a6; exact nomatch a6.2⟩
theorem ip_split {st : List Value} {n : Nat} {v : Value} (hn : n < st.length) (hv : st.getD n .null = v) : st = st.take n ++ v :: st.drop (n + 1) ∧ (st.take (n + 1)).reverse = v :: (st.take n).reverse := by
  have e : st[n]? = some v := by
    rw [List.getD_eq_getElem?_getD, List.getElem?_eq_getElem hn] at hv
    rw [List.getElem?_eq_getElem hn, ← hv]
    rfl
  have e2 : st[n] = v := by
    rw [List.getElem?_eq_getElem hn] at e
    exact Option.some.inj e
  refine ⟨?_, ?_⟩
  · rw [← e2, List.getElem_cons_drop, List.take_append_drop]
  · rw [List.take_add_one, e]
    simp
theorem ip_room_ok {d z mc ms : Nat} {R : Room} (q : z ≤ 14) (hf1 : d + 1 + 8 ≤ R.frames) (hf2 : 40 * (d + 1) + 300 ≤ R.locals) : (ip_rm d mc ms).frames + 1 ≤ R.frames ∧ 8 + (z + 11) + (ip_rm d mc ms).locals ≤ R.locals := by
  simp only [ip_rm]
  omega
section IPC
variable {G : ip_G} {p : Program} {l : Launch} {e : Env} {R : Room} {s : State} {mid : MethodId} {args : Array Value} {below : List Frame} {meth : Method} {c : Code} {Q : State → Prop} {m d n0 s0 : Nat}
variable {pc : Nat} {lsA : Array Slot} {st : List Value} {h h1 : ip_H} {o : ip_O}
/-- behind a call: it goes on by the picture -/
theorem ip_after {mc ms : Nat} {rest : List Value} {st0 : List Value} {a : Array Value} {H : Heap} {locs : List Loc} {cells slots : Nat} (hS : va_S (ip_A G) s.heap H locs) (hr : vx_Run p l e R s mid args below meth c H locs cells slots mc ms (F0 mid pc lsA st0) (rest.map (ip_v (ip_ad G))) (ip_Qc G o h1 a) (ip_XC G o h1) (ip_A G)) (hc : cells + mc + n0 = h1.2.2.2.2.1) (hs : slots + ms + s0 = h1.2.2.2.2.2.1)
    (K : ∀ v, o = .inl v → ip_Nx G p l e R s mid args below meth c Q n0 s0 (pc + 3) lsA (v.toList ++ rest) h1)
    (KX : ∀ E, o = .inr E → ∀ (H1 : Heap) (locs1 : List Loc) (cells1 slots1 : Nat) (q : Addr) (ce : Cell), ip_Inv G h1 H1 → va_S (ip_A G) s.heap H1 locs1 → cells1 + n0 = h1.2.2.2.2.1 → slots1 + s0 = h1.2.2.2.2.2.1 → H1[q]? = some ce → ce.vm = .none → s.vm.findClass E = some ce.cls → vx_W p l e R s mid args below meth c H1 locs1 cells1 slots1 Q (F0 mid pc lsA (rest.map (ip_v (ip_ad G)))) q) :
    W p l e R s mid args below meth c H locs cells slots Q (F0 mid pc lsA st0) := by
  intro T hT X
  rcases hr T hT X with ⟨v, st₀, t, T', L, h0, X', hL, e1, e2, ⟨⟨v', ho, hv⟩, hI, hF⟩, st⟩ | ⟨q, st₀, t, T', L, E, ce, h0, X', hL, e1, e2, ⟨ho, hI, hF⟩, hce, hcv, hcl, st⟩
  · cases hv
    obtain ⟨k1, k2, k3⟩ := vx_keep h0 e1 hS (fun _ _ z => z) (fun _ z => z) hL hF
    have K' := K v' ho T'.heap (locs ++ L) _ _ (by rw [e1]; exact hI) k3 hc hs
    have hst : (v'.toList ++ rest).map (ip_v (ip_ad G)) = (v'.map (ip_v (ip_ad G))).toList ++ rest.map (ip_v (ip_ad G)) := by cases v' <;> rfl
    rw [hst] at K'
    obtain ⟨t2, a1, b1⟩ := K' T' rfl X'
    exact ⟨t2, st t2 a1, b1⟩
  · obtain ⟨k1, k2, k3⟩ := vx_keep h0 e1 hS (fun _ _ z => z) (fun _ z => z) hL hF
    obtain ⟨t2, a1, b1⟩ := KX E ho T'.heap (locs ++ L) _ _ q ce (by rw [e1]; exact hI) k3 hc hs (by rw [e1]; exact hce) hcv hcl T' rfl X'
    exact ⟨t2, st.trans a1, b1⟩
set_option maxHeartbeats 4000000 in
theorem ip_call_ok (F : ip_Fr G p l R s mid args meth c m (d + 1)) (hz : lsA.size = ip_mL m) {i : Instr} {len m' : Nat} {as rest : List Value} (hd : decode (ip_code m) pc = .ok (i, len)) (h9 : ip_inv m i len st h = some (m', as, rest)) (hM : (ip_args as).length ≤ ip_mL m' → m' < 284 → ip_MP l G m' d as h o h1) (hle : ip_le h h1) (hRc : h1.2.2.2.2.1 ≤ R.cells + n0) (hRs : h1.2.2.2.2.2.1 ≤ R.slots + s0)
    (K : ∀ v, o = .inl v → ip_Nx G p l e R s mid args below meth c Q n0 s0 (pc + 3) lsA (v.toList ++ rest) h1)
    (KX : ∀ E, o = .inr E → ∀ (H1 : Heap) (locs1 : List Loc) (cells1 slots1 : Nat) (q : Addr) (ce : Cell), ip_Inv G h1 H1 → va_S (ip_A G) s.heap H1 locs1 → cells1 + n0 = h1.2.2.2.2.1 → slots1 + s0 = h1.2.2.2.2.2.1 → H1[q]? = some ce → ce.vm = .none → s.vm.findClass E = some ce.cls → vx_W p l e R s mid args below meth c H1 locs1 cells1 slots1 Q (F0 mid pc lsA (rest.map (ip_v (ip_ad G)))) q) :
    ip_Nx G p l e R s mid args below meth c Q n0 s0 pc lsA st h := by
  obtain ⟨hx, hb, hml, hr, hown, hts, hlk, hin, htb, hWd, hst, hf1, hf2⟩ := F
  obtain ⟨l1, l2⟩ := hle
  intro H locs cells slots hI hS hc hs
  have hS9 : CallFix p mid c (ip_code m) (ip_mL m) s args ip_tbl (ip_cn.getD (ip_own m) "") := ⟨hx, hb, hml, hown, hts⟩
  have c1 : cells + (h1.2.2.2.2.1 - h.2.2.2.2.1) + n0 = h1.2.2.2.2.1 := by omega
  have c2 : slots + (h1.2.2.2.2.2.1 - h.2.2.2.2.2.1) + s0 = h1.2.2.2.2.2.1 := by omega
  have hPU : ∀ U : State, U.heap = H → s.WarmedH U.vm → ip_Pc G as h (as.map (ip_v (ip_ad G))).toArray U := fun U hU hW => ⟨rfl, ij_Wd hWd hS hU hW, by rw [hU]; exact hI⟩
  have hroom : ∀ {m9 : Nat}, ip_mL m9 ≤ 14 → (ip_rm d (h1.2.2.2.2.1 - h.2.2.2.2.1) (h1.2.2.2.2.2.1 - h.2.2.2.2.2.1)).frames + 1 ≤ R.frames ∧ 8 + (ip_mL m9 + 11) + (ip_rm d (h1.2.2.2.2.1 - h.2.2.2.2.1) (h1.2.2.2.2.2.1 - h.2.2.2.2.2.1)).locals ≤ R.locals := fun q => ip_room_ok q hf1 hf2
  have hfit : cells + (h1.2.2.2.2.1 - h.2.2.2.2.1) ≤ R.cells ∧ slots + (h1.2.2.2.2.2.1 - h.2.2.2.2.2.1) ≤ R.slots := ⟨by omega, by omega⟩
  cases i with
  | invokevirtual idx =>
    obtain ⟨rfl, h8⟩ := ip_if h9
    split at h8
    · rename_i k m9 n hm
      obtain ⟨⟨rfl, hn, hcat, hal⟩, h7⟩ := ip_if h8
      split at h7
      · rename_i b hgb
        split at h7
        · rename_i t tn hsb
          obtain ⟨⟨ht1, ht2, hb2⟩, h6⟩ := ip_if h7
          cases h6
          obtain ⟨hm284, hdd, hini, hk0, -⟩ := ip_mth_ok hm
          obtain ⟨w1, w2, w3, w4⟩ := hk0 rfl
          obtain ⟨e1, e2⟩ := ip_split hn hgb
          obtain ⟨a1, a2, a3⟩ := ip_ML_at hm284
          have hbt := hI.1 b t tn hsb hb2
          rw [ip_e_obj ht2] at hbt
          obtain ⟨r9, hr9, cellB, g1, g2, g3, -⟩ := hbt
          cases Option.some.inj ((ip_cls_at ht2).symm.trans hr9)
          have hrecv : ∃ cellB : Cell, H[ip_ad G b]? = some cellB ∧ cellB.vm.isStatics = false ∧ s.vm.findClass (ip_y m').cls = some cellB.cls := ⟨cellB, g1, by rw [g3]; rfl, by rw [g2, ← ht1]; exact (hWd.1.1 t _ (ip_cls_at ht2)).2.1⟩
          refine ip_after hS (vx_runV (C := (ip_y m').cls) (b := ip_ad G b) (As := ((st.take n).reverse).map (ip_v (ip_ad G))) (rest := (st.drop (n + 1)).map (ip_v (ip_ad G))) hS9 (hM hal hm284) ⟨callB_of n hts (ip_wsm_good hm284) (by unfold ip_wsm; rw [ip_wd_nil w4]) rfl rfl (hts _ hini) (hts _ w1) hdd (hroom a2), hts _ w2, hts _ w3⟩ ⟨ip_blind, hrecv, fun U hU hW => ?_⟩ rfl ?_ hz ?_ (lv_room (by rw [ip_cat_map]; exact hcat)) hd hfit) c1 c2 K KX
          · have q := hPU U hU hW
            rw [e2] at q ⊢
            exact q
          · simp; omega
          · show st.map (ip_v (ip_ad G)) = _
            rw [List.map_reverse, List.reverse_reverse]
            conv => lhs; rw [e1]
            simp [ip_v]
        · cases h7
      · cases h7
    · cases h8
  | invokestatic idx =>
    obtain ⟨rfl, h8⟩ := ip_if h9
    split at h8
    · rename_i k m9 n hm
      obtain ⟨⟨hk, hn, hcat, hal⟩, h7⟩ := ip_if h8
      cases h7
      obtain ⟨hm284, hdd, hini, -, hk1, -, -, hk4, hk10⟩ := ip_mth_ok hm
      obtain ⟨a1, a2, a3⟩ := ip_ML_at hm284
      have hlen : (((st.take n).reverse).map (ip_v (ip_ad G))).length = n := by simp; omega
      have hstk : st.map (ip_v (ip_ad G)) = (((st.take n).reverse).map (ip_v (ip_ad G))).reverse ++ (st.drop n).map (ip_v (ip_ad G)) := by
        rw [List.map_reverse, List.reverse_reverse, ← List.map_append, List.take_append_drop]
      rcases hk with rfl | rfl | rfl
      · obtain ⟨w1, w2, w4⟩ := hk1 rfl
        exact ip_after hS (vx_runS (As := ((st.take n).reverse).map (ip_v (ip_ad G))) (rest := (st.drop n).map (ip_v (ip_ad G))) hS9 (hM hal hm284) ⟨callB_of n hts (ip_wsm_good hm284) (by unfold ip_wsm; rw [ip_wd_nil w4]) rfl rfl (hts _ hini) (hts _ w1) hdd (hroom a2), hts _ w2⟩ ⟨ip_blind, hPU⟩ rfl hlen hz hstk (lv_room (by rw [ip_cat_map]; exact hcat)) hd hfit) c1 c2 K KX
      · obtain ⟨w1, w2, w4⟩ := hk4 rfl
        exact ip_after hS (vx_runSN (As := ((st.take n).reverse).map (ip_v (ip_ad G))) (rest := (st.drop n).map (ip_v (ip_ad G))) hS9 (hM hal hm284) ⟨va_cnB n hts (ip_wsm_good hm284) (by unfold ip_wsm; rw [ip_wd_nil w4]) rfl rfl (hWd.2.2.2.2.2.2.2.2.2.1 _ _ _ w1) (hts _ hini) hdd (hroom a2), hts _ w2, trivial⟩ ⟨ip_blind, hPU⟩ rfl hlen hz hstk (lv_room (by rw [ip_cat_map]; exact hcat)) hd hfit) c1 c2 K KX
      · obtain ⟨w1, w2, w4⟩ := hk10 rfl
        have hwd := ip_wd_in hm284
        rw [ip_wd_cons w4] at hwd
        exact ip_after hS (vx_runSX (hh := ip_hnd m') (As := ((st.take n).reverse).map (ip_v (ip_ad G))) (rest := (st.drop n).map (ip_v (ip_ad G))) hS9 (hM hal hm284) ⟨⟨rfl, rfl, (hroom a2).1, (hroom a2).2, pay_in hts (ip_wsm_good hm284), by unfold ip_wsm; rw [ip_wd_cons w4]; exact List.mem_cons_self⟩, hts _ hwd, hts _ hini, ⟨hdd.1, hdd.2.1⟩, fun sig hsig => by have q := hdd.2.2; rw [hsig] at q; exact (Option.some.inj q).symm, hts _ w1, hts _ w2⟩ ⟨ip_blind, hPU⟩ rfl hlen hz hstk (lv_room (by rw [ip_cat_map]; exact hcat)) hd hfit) c1 c2 K KX
    · cases h8
  | invokespecial idx =>
    obtain ⟨rfl, h8⟩ := ip_if h9
    split at h8
    · rename_i k m9 n hm
      obtain ⟨⟨hk, hn, hcat, hal⟩, h7⟩ := ip_if h8
      split at h7
      · rename_i b hgb
        cases h7
        obtain ⟨hm284, hdd, hini, -, -, hk2, hk3, -⟩ := ip_mth_ok hm
        obtain ⟨a1, a2, a3⟩ := ip_ML_at hm284
        obtain ⟨e1, e2⟩ := ip_split hn hgb
        have hlen : (((st.take n).reverse).map (ip_v (ip_ad G))).length = n := by simp; omega
        have hstk : st.map (ip_v (ip_ad G)) = (((st.take n).reverse).map (ip_v (ip_ad G))).reverse ++ .ref (ip_ad G b) :: (st.drop (n + 1)).map (ip_v (ip_ad G)) := by
          rw [List.map_reverse, List.reverse_reverse]
          conv => lhs; rw [e1]
          simp [ip_v]
        have hPU2 : ∀ U : State, U.heap = H → s.WarmedH U.vm → ip_Pc G (st.take (n + 1)).reverse h (Value.ref (ip_ad G b) :: ((st.take n).reverse).map (ip_v (ip_ad G))).toArray U := fun U hU hW => by
          have q := hPU U hU hW
          rw [e2] at q ⊢
          exact q
        rcases hk with rfl | rfl
        · obtain ⟨w1, w2, w3, w4, hret⟩ := hk2 rfl
          exact ip_after hS (vx_runI (b := ip_ad G b) (As := ((st.take n).reverse).map (ip_v (ip_ad G))) (rest := (st.drop (n + 1)).map (ip_v (ip_ad G))) hS9 (hM hal hm284) ⟨callB_of n hts (ip_wsm_good hm284) (by unfold ip_wsm; rw [ip_wd_nil w4, hret]) rfl rfl (hts _ hini) (hts _ w1) hdd (hroom a2), w3, hts _ w2⟩ ⟨ip_blind, hPU2⟩ rfl hlen hz hstk (lv_room (by rw [ip_cat_map]; exact hcat)) hd hfit) c1 c2 K KX
        · obtain ⟨w1, w2, w3, w4, hret⟩ := hk3 rfl
          exact ip_after hS (vx_runIN (b := ip_ad G b) (As := ((st.take n).reverse).map (ip_v (ip_ad G))) (rest := (st.drop (n + 1)).map (ip_v (ip_ad G))) hS9 (hM hal hm284) ⟨va_cnB n hts (ip_wsm_good hm284) (by unfold ip_wsm; rw [ip_wd_nil w4, hret]) rfl rfl (hWd.2.2.2.2.2.2.2.2.2.1 _ _ _ w1) (hts _ hini) hdd (hroom a2), w3, hts _ w2⟩ ⟨ip_blind, hPU2⟩ rfl hlen hz hstk (lv_room (by rw [ip_cat_map]; exact hcat)) hd hfit) c1 c2 K KX
      · cases h7
    · cases h8
  | _ => exact nomatch (show (none : Option (Nat × List Value × List Value)) = some (m', as, rest) from h9)
end IPC
