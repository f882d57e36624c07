/-! THE PICTURE MACHINE, 11: String.length and String.charAt of the texts -/
def ij_S : String := "java/lang/String"
def ij_coder : MethodName := ⟨"java/lang/String", "coder", "()B"⟩
def ij_lat : MethodName := ⟨"java/lang/String", "isLatin1", "()Z"⟩
def ij_length : MethodName := ⟨"java/lang/String", "length", "()I"⟩
def ij_charAt : MethodName := ⟨"java/lang/String", "charAt", "(I)C"⟩
def ij_lchar : MethodName := ⟨"java/lang/StringLatin1", "charAt", "([BI)C"⟩
def ij_check : MethodName := ⟨"java/lang/String", "checkIndex", "(II)V"⟩
def ij_pre : MethodName := ⟨"jdk/internal/util/Preconditions", "checkIndex", "(IILjava/util/function/BiFunction;)I"⟩
theorem ij_w1 : Cond.code ij_coder prog_21_method_152_code 1 (some .byte) ∈ ip_tbl := ip_mem 3 37 rfl rfl
theorem ij_w2 : Cond.code ij_lat prog_21_method_154_code 1 (some .boolean) ∈ ip_tbl := ip_mem 3 47 rfl rfl
theorem ij_w3 : Cond.code ij_length prog_21_method_54_code 1 (some .int) ∈ ip_tbl := ip_mem 3 33 rfl rfl
theorem ij_w4 : Cond.code ij_charAt prog_21_method_56_code 2 (some .char) ∈ ip_tbl := ip_mem 3 43 rfl rfl
theorem ij_w5 : Cond.code ij_lchar prog_22_method_2_code 2 (some .char) ∈ ip_tbl := ip_mem 3 50 rfl rfl
theorem ij_w6 : Cond.code ij_check prog_21_method_155_code 2 none ∈ ip_tbl := ip_mem 3 53 rfl rfl
theorem ij_w7 : Cond.code ij_pre prog_29_method_11_code 3 (some .int) ∈ ip_tbl := ip_mem 3 58 rfl rfl
theorem ij_l1 : Cond.methodLink ij_S 335 ij_coder ∈ ip_tbl := ip_mem 3 34 rfl rfl
theorem ij_l2 : Cond.methodLink ij_S 492 ij_lat ∈ ip_tbl := ip_mem 3 44 rfl rfl
theorem ij_l5 : Cond.methodLink ij_S 495 ij_lchar ∈ ip_tbl := ip_mem 3 48 rfl rfl
theorem ij_l6 : Cond.methodLink "java/lang/StringLatin1" 9 ij_check ∈ ip_tbl := ip_mem 3 51 rfl rfl
theorem ij_l7 : Cond.methodLink ij_S 1059 ij_pre ∈ ip_tbl := ip_mem 3 56 rfl rfl
theorem ij_i1 : Cond.instanceMethod ij_coder ∈ ip_tbl := ip_mem 3 35 rfl rfl
theorem ij_i2 : Cond.instanceMethod ij_lat ∈ ip_tbl := ip_mem 3 45 rfl rfl
theorem ij_i3 : Cond.instanceMethod ij_length ∈ ip_tbl := ip_mem 3 31 rfl rfl
theorem ij_i4 : Cond.instanceMethod ij_charAt ∈ ip_tbl := ip_mem 3 41 rfl rfl
theorem ij_s1 : Cond.selects ij_S ij_coder ij_coder ∈ ip_tbl := ip_mem 3 36 rfl rfl
theorem ij_s2 : Cond.selects ij_S ij_lat ij_lat ∈ ip_tbl := ip_mem 3 46 rfl rfl
theorem ij_s3 : Cond.selects ij_S ij_length ij_length ∈ ip_tbl := ip_mem 3 32 rfl rfl
theorem ij_s4 : Cond.selects ij_S ij_charAt ij_charAt ∈ ip_tbl := ip_mem 3 42 rfl rfl
theorem ij_t5 : Cond.static ij_lchar ∈ ip_tbl := ip_mem 3 49 rfl rfl
theorem ij_t6 : Cond.static ij_check ∈ ip_tbl := ip_mem 3 52 rfl rfl
theorem ij_t7 : Cond.static ij_pre ∈ ip_tbl := ip_mem 3 57 rfl rfl
theorem ij_n1 : Cond.initialized ij_S ∈ ip_tbl := ip_mem 1 11 rfl rfl
theorem ij_n5 : Cond.initialized "java/lang/StringLatin1" ∈ ip_tbl := ip_mem 1 12 rfl rfl
theorem ij_n7 : Cond.initialized "jdk/internal/util/Preconditions" ∈ ip_tbl := ip_mem 1 13 rfl rfl
theorem ij_f1 : Cond.fieldLink ij_S 38 ij_S "COMPACT_STRINGS" "Z" ∈ ip_tbl := ip_mem 3 38 rfl rfl
theorem ij_f2 : Cond.fieldLink ij_S 9 ij_S "value" "[B" ∈ ip_tbl := ip_mem 8 229 rfl rfl
theorem ij_f3 : Cond.fieldLink ij_S 15 ij_S "coder" "B" ∈ ip_tbl := ip_mem 8 230 rfl rfl
theorem ij_f4 : Cond.fieldLink ij_S 1053 "jdk/internal/util/Preconditions" "SIOOBE_FORMATTER" "Ljava/util/function/BiFunction;" ∈ ip_tbl := ip_mem 3 54 rfl rfl
/-- the words of such a method -/
def ij_ws (y : MethodName) (b : ByteArray) (n : Nat) (r : Option FieldType) : List Cond := .code y b n r :: ip_tbl
theorem ip_good {w : Cond} (h : w ∈ ip_tbl) : goodWord w = true := (List.mem_filter.mp h).2
theorem ij_goodIn {y : MethodName} {b : ByteArray} {n : Nat} {r : Option FieldType} (h : Cond.code y b n r ∈ ip_tbl) : GoodIn ip_tbl (ij_ws y b n r) := by
  intro w hw
  rcases List.mem_cons.mp hw with rfl | hw
  · exact ⟨h, good_of_word (ip_good h)⟩
  · exact ⟨hw, good_of_word (ip_good hw)⟩
theorem ij_blind {G : ip_G} {av : List Value} : FrameBlind (va_Pc av (fun U => ip_Wd G U)) := fun a U g mk q => ⟨q.1, ip_Wd_call q.2 g mk a⟩
theorem ij_Wd {G : ip_G} {s U : State} {H : Heap} {locs : List Loc} (h : ip_Wd G s) (hS : va_S (ip_A G) s.heap H locs) (hU : U.heap = H) (hW : s.WarmedH U.vm) : ip_Wd G U := ip_Wd_to h hW (by rw [hU]; exact hS.1) (fun q h1 h2 => by rw [hU]; exact hS.2.1 q h1 h2)
theorem ij_d1_0 : decode prog_21_method_152_code 0 = .ok (.getstatic 38, 3) := by decide +kernel
theorem ij_d1_3 : decode prog_21_method_152_code 3 = .ok (.ifCond .eq 10, 3) := by decide +kernel
theorem ij_d1_6 : decode prog_21_method_152_code 6 = .ok (.aload_n 0, 1) := by decide +kernel
theorem ij_d1_7 : decode prog_21_method_152_code 7 = .ok (.getfield 15, 3) := by decide +kernel
theorem ij_d1_10 : decode prog_21_method_152_code 10 = .ok (.goto 4, 3) := by decide +kernel
theorem ij_d1_14 : decode prog_21_method_152_code 14 = .ok (.ireturn, 1) := by decide +kernel
set_option maxHeartbeats 4000000 in
theorem ij_c_coder (l : Launch) (G : ip_G) {i : Nat} (hi : i < 39) : Met l ij_coder (ij_ws ij_coder prog_21_method_152_code 1 (some .byte)) ({ frames := 0, cells := 0, slots := 0, locals := 0 }) (va_Pc [.ref (G.2.2.2.1 i)] (fun U => ip_Wd G U)) (QcRead 0) 0 0 (fun _ => False) := by
  refine Met.ofW (cc := prog_21_method_152_code) (maxL := 1) (ret := some .byte) (by decide) rfl ?_
  intro p e s m args below meth c s₁ B hml hv
  obtain ⟨rfl, hWd⟩ := hv
  have hx := B.exec
  have hb := B.bytes
  have hr := B.returns
  have hts0 := atoms_spec (ws := ij_ws ij_coder prog_21_method_152_code 1 (some .byte)) B.pre
  have hts : ∀ w ∈ ip_tbl, w.before [Value.ref (G.2.2.2.1 i)].toArray s = true := fun w hw => hts0 w (List.mem_cons_of_mem _ hw)
  have hown : s.vm.findClass ij_S = some m.cls := findClass_of_methodNamed B.named
  have hlocks := B.notSynchronized
  have hS : va_S (ip_A G) s.heap s.heap [] := va_S.rf
  have hl := lv_entry ([.ref (G.2.2.2.1 i)]) (n := 1) (Nat.le_of_ble_eq_true rfl)
  rw [lg_entry_eq]
  generalize (lg_sl ([.ref (G.2.2.2.1 i)]) ++ List.replicate (1 - (lg_sl ([.ref (G.2.2.2.1 i)])).length) Slot.unset).toArray = ls at hl ⊢
  have hl : lv_has ls 1 [(0, .ref (G.2.2.2.1 i))] := hl
  refine va_gets hx hb hWd.2.2.2.2.2.2.1.1 hS hown (hts _ ij_f1) (fun _ z => z) ij_d1_0 ?_
  refine lv_if_eq (tgt := 13) hx hb ij_d1_3 (by decide) (fun q => absurd q (by decide)) (fun _ => ?_)
  refine lv_aload_n hx hb ij_d1_6 rfl (lv_at hl 0 rfl) ?_
  refine vk_getf hx hb (hWd.2.2.2.2.1 i hi).2.1 hS hown (hts _ ij_f3) (fun _ z => z) ij_d1_7 ?_
  refine lv_goto (tgt := 14) hx hb ij_d1_10 (by decide) ?_
  exact W.zret hx hb hr (by decide) (fun t ht _ => ⟨rfl, ht⟩) (fun q hq => nomatch hq) ij_d1_14
theorem ij_call {p : Program} {l : Launch} {e : Env} {R : Room} {s : State} {m : MethodId} {args : Array Value} {below : List Frame} {meth : Method} {c : Code} {H : Heap} {locs : List Loc} {cells slots : Nat} {Q : State → Prop} {g : JFrame} {rest : List Value} {vv : Option Value} {Qa : State → Outcome → State → Prop} (hr : CallRun p l e R s m args below meth c H locs cells slots 0 0 g rest Qa (fun _ => False)) (hq : ∀ st v t, Qa st (.returned v) t → v = vv ∧ t.heap = st.heap)
    (kk : W p l e R s m args below meth c H locs cells slots Q { g with pc := g.pc + 3, stack := vv.toList ++ rest }) : W p l e R s m args below meth c H locs cells slots Q g := by
  intro T hT X
  obtain ⟨v, st₀, t, T', L, h0, X', hL, e1, hQ, st⟩ := hr T hT X
  obtain ⟨rfl, hh⟩ := hq _ _ _ hQ
  have hn : L = [] := by
    cases L with
    | nil => rfl
    | cons q L => exact (hL q List.mem_cons_self).elim
  subst hn
  rw [List.append_nil] at X'
  obtain ⟨t2, a1, b1⟩ := kk T' (by rw [e1, hh, h0]) X'
  exact ⟨t2, st t2 a1, b1⟩
theorem ij_read {r : Int32} {a : Array Value} : ∀ st v t, QcRead r a st (.returned v) t → v = some (.int r) ∧ t.heap = st.heap := fun st v t h => ⟨Outcome.returned.inj h.1, h.2⟩
def ij_Qv : Array Value → State → Outcome → State → Prop := fun _ st o t => o = .returned none ∧ t.heap = st.heap
theorem ij_readv {a : Array Value} : ∀ st v t, ij_Qv a st (.returned v) t → v = none ∧ t.heap = st.heap := fun st v t h => ⟨Outcome.returned.inj h.1, h.2⟩
theorem ij_d2_0 : decode prog_21_method_154_code 0 = .ok (.getstatic 38, 3) := by decide +kernel
theorem ij_d2_3 : decode prog_21_method_154_code 3 = .ok (.ifCond .eq 14, 3) := by decide +kernel
theorem ij_d2_6 : decode prog_21_method_154_code 6 = .ok (.aload_n 0, 1) := by decide +kernel
theorem ij_d2_7 : decode prog_21_method_154_code 7 = .ok (.getfield 15, 3) := by decide +kernel
theorem ij_d2_10 : decode prog_21_method_154_code 10 = .ok (.ifCond .ne 7, 3) := by decide +kernel
theorem ij_d2_13 : decode prog_21_method_154_code 13 = .ok (.iconst 1, 1) := by decide +kernel
theorem ij_d2_14 : decode prog_21_method_154_code 14 = .ok (.goto 4, 3) := by decide +kernel
theorem ij_d2_18 : decode prog_21_method_154_code 18 = .ok (.ireturn, 1) := by decide +kernel
set_option maxHeartbeats 4000000 in
theorem ij_c_lat (l : Launch) (G : ip_G) {i : Nat} (hi : i < 39) : Met l ij_lat (ij_ws ij_lat prog_21_method_154_code 1 (some .boolean)) ({ frames := 0, cells := 0, slots := 0, locals := 0 }) (va_Pc [.ref (G.2.2.2.1 i)] (fun U => ip_Wd G U)) (QcRead 1) 0 0 (fun _ => False) := by
  refine Met.ofW (cc := prog_21_method_154_code) (maxL := 1) (ret := some .boolean) (by decide) rfl ?_
  intro p e s m args below meth c s₁ B hml hv
  obtain ⟨rfl, hWd⟩ := hv
  have hx := B.exec
  have hb := B.bytes
  have hr := B.returns
  have hts0 := atoms_spec (ws := ij_ws ij_lat prog_21_method_154_code 1 (some .boolean)) B.pre
  have hts : ∀ w ∈ ip_tbl, w.before [Value.ref (G.2.2.2.1 i)].toArray s = true := fun w hw => hts0 w (List.mem_cons_of_mem _ hw)
  have hown : s.vm.findClass ij_S = some m.cls := findClass_of_methodNamed B.named
  have hlocks := B.notSynchronized
  have hS : va_S (ip_A G) s.heap s.heap [] := va_S.rf
  have hl := lv_entry ([.ref (G.2.2.2.1 i)]) (n := 1) (Nat.le_of_ble_eq_true rfl)
  rw [lg_entry_eq]
  generalize (lg_sl ([.ref (G.2.2.2.1 i)]) ++ List.replicate (1 - (lg_sl ([.ref (G.2.2.2.1 i)])).length) Slot.unset).toArray = ls at hl ⊢
  have hl : lv_has ls 1 [(0, .ref (G.2.2.2.1 i))] := hl
  refine va_gets hx hb hWd.2.2.2.2.2.2.1.1 hS hown (hts _ ij_f1) (fun _ z => z) ij_d2_0 ?_
  refine lv_if_eq (tgt := 17) hx hb ij_d2_3 (by decide) (fun q => absurd q (by decide)) (fun _ => ?_)
  refine lv_aload_n hx hb ij_d2_6 rfl (lv_at hl 0 rfl) ?_
  refine vk_getf hx hb (hWd.2.2.2.2.1 i hi).2.1 hS hown (hts _ ij_f3) (fun _ z => z) ij_d2_7 ?_
  refine lv_if_ne (tgt := 17) hx hb ij_d2_10 (by decide) (fun q => absurd rfl q) (fun _ => ?_)
  refine lv_iconst (v := 1) hx hb ij_d2_13 (by decide) ?_
  refine lv_goto (tgt := 18) hx hb ij_d2_14 (by decide) ?_
  exact W.zret hx hb hr (by decide) (fun t ht _ => ⟨rfl, ht⟩) (fun q hq => nomatch hq) ij_d2_18
theorem ij_d3_0 : decode prog_21_method_54_code 0 = .ok (.aload_n 0, 1) := by decide +kernel
theorem ij_d3_1 : decode prog_21_method_54_code 1 = .ok (.getfield 9, 3) := by decide +kernel
theorem ij_d3_4 : decode prog_21_method_54_code 4 = .ok (.arraylength, 1) := by decide +kernel
theorem ij_d3_5 : decode prog_21_method_54_code 5 = .ok (.aload_n 0, 1) := by decide +kernel
theorem ij_d3_6 : decode prog_21_method_54_code 6 = .ok (.invokevirtual 335, 3) := by decide +kernel
theorem ij_d3_9 : decode prog_21_method_54_code 9 = .ok (.ishr, 1) := by decide +kernel
theorem ij_d3_10 : decode prog_21_method_54_code 10 = .ok (.ireturn, 1) := by decide +kernel
theorem ij_lens : ∀ i, i < 39 → ip_len.getD i 0 < 2 ^ 31 := by decide +kernel
set_option maxHeartbeats 4000000 in
theorem ij_c_length (l : Launch) (G : ip_G) {i : Nat} (hi : i < 39) : Met l ij_length (ij_ws ij_length prog_21_method_54_code 1 (some .int)) ({ frames := 1, cells := 0, slots := 0, locals := 20 }) (va_Pc [.ref (G.2.2.2.1 i)] (fun U => ip_Wd G U)) (QcRead (Int32.ofNat (ip_len.getD i 0))) 0 0 (fun _ => False) := by
  refine Met.ofW (cc := prog_21_method_54_code) (maxL := 1) (ret := some .int) (by decide) rfl ?_
  intro p e s m args below meth c s₁ B hml hv
  obtain ⟨rfl, hWd⟩ := hv
  have hx := B.exec
  have hb := B.bytes
  have hr := B.returns
  have hts0 := atoms_spec (ws := ij_ws ij_length prog_21_method_54_code 1 (some .int)) B.pre
  have hts : ∀ w ∈ ip_tbl, w.before [Value.ref (G.2.2.2.1 i)].toArray s = true := fun w hw => hts0 w (List.mem_cons_of_mem _ hw)
  have hown : s.vm.findClass ij_S = some m.cls := findClass_of_methodNamed B.named
  have hlocks := B.notSynchronized
  have hS : va_S (ip_A G) s.heap s.heap [] := va_S.rf
  have hl := lv_entry ([.ref (G.2.2.2.1 i)]) (n := 1) (Nat.le_of_ble_eq_true rfl)
  rw [lg_entry_eq]
  generalize (lg_sl ([.ref (G.2.2.2.1 i)]) ++ List.replicate (1 - (lg_sl ([.ref (G.2.2.2.1 i)])).length) Slot.unset).toArray = ls at hl ⊢
  have hl : lv_has ls 1 [(0, .ref (G.2.2.2.1 i))] := hl
  refine lv_aload_n hx hb ij_d3_0 rfl (lv_at hl 0 rfl) ?_
  refine vk_getf hx hb (hWd.2.2.2.2.1 i hi).2.2.1 hS hown (hts _ ij_f2) (fun _ z => z) ij_d3_1 ?_
  refine va_tlen hx hb (hWd.2.2.2.2.1 i hi).2.2.2 hS rfl ij_d3_4 ?_
  refine lv_aload_n hx hb ij_d3_5 rfl (lv_at hl 0 rfl) ?_
  refine ij_call (W.runV (As := []) (rest := [.int (Int32.ofNat (ip_len.getD i 0))]) ⟨hx, hb, hml, hown, hts⟩ (ij_c_coder l G hi) ⟨callB_of 0 hts (ij_goodIn ij_w1) rfl rfl rfl (hts _ ij_n1) (hts _ ij_l1) (by decide +kernel) ⟨Nat.le_of_ble_eq_true rfl, Nat.le_of_ble_eq_true rfl⟩, hts _ ij_i1, hts _ ij_s1⟩ ⟨ij_blind, ip_SS.recv hWd.2.2.2.2.1 hi hS, fun U hU hW => ⟨rfl, ij_Wd hWd hS hU hW⟩⟩ rfl rfl hl.1 rfl (lv_room (Nat.le_of_ble_eq_true rfl)) ij_d3_6 ⟨Nat.zero_le _, Nat.zero_le _⟩) ij_read ?_
  refine lv_ishr hx hb ij_d3_9 ?_
  exact W.iret hx hb hr (fun t ht _ => ⟨by rw [show Int32.ofNat (ip_len.getD i 0) >>> ((0 : Int32) &&& 31) = Int32.ofNat (ip_len.getD i 0) from sc_shr0 (ij_lens i hi)], ht⟩) (fun q hq => nomatch hq) ij_d3_10
theorem ij_d7_0 : decode prog_29_method_11_code 0 = .ok (.iload_n 0, 1) := by decide +kernel
theorem ij_d7_1 : decode prog_29_method_11_code 1 = .ok (.ifCond .lt 8, 3) := by decide +kernel
theorem ij_d7_4 : decode prog_29_method_11_code 4 = .ok (.iload_n 0, 1) := by decide +kernel
theorem ij_d7_5 : decode prog_29_method_11_code 5 = .ok (.iload_n 1, 1) := by decide +kernel
theorem ij_d7_6 : decode prog_29_method_11_code 6 = .ok (.if_icmp .lt 10, 3) := by decide +kernel
theorem ij_d7_16 : decode prog_29_method_11_code 16 = .ok (.iload_n 0, 1) := by decide +kernel
theorem ij_d7_17 : decode prog_29_method_11_code 17 = .ok (.ireturn, 1) := by decide +kernel
set_option maxHeartbeats 4000000 in
theorem ij_c_pre (l : Launch) (G : ip_G) {j n : Int32} {v : Value} (hv1 : v.category = 1) (h1 : ¬ j < 0) (h2 : j < n) : Met l ij_pre (ij_ws ij_pre prog_29_method_11_code 3 (some .int)) ({ frames := 0, cells := 0, slots := 0, locals := 0 }) (va_Pc [.int j, .int n, v] (fun U => ip_Wd G U)) (QcRead j) 0 0 (fun _ => False) := by
  refine Met.ofW (cc := prog_29_method_11_code) (maxL := 3) (ret := some .int) (by decide) rfl ?_
  intro p e s m args below meth c s₁ B hml hv
  obtain ⟨rfl, hWd⟩ := hv
  have hx := B.exec
  have hb := B.bytes
  have hr := B.returns
  have hlocks := B.notSynchronized
  have hlen : (lg_sl [.int j, .int n, v]).length = 3 := by cases v <;> simp [lg_sl, Value.category] at hv1 ⊢
  have hl := lv_entry ([.int j, .int n, v]) (n := 3) (by rw [hlen]; exact Nat.le_refl 3)
  rw [lg_entry_eq]
  generalize (lg_sl [.int j, .int n, v] ++ List.replicate (3 - (lg_sl [.int j, .int n, v]).length) Slot.unset).toArray = ls at hl ⊢
  have hl : lv_has ls 3 [(0, .int j), (1, .int n), (2, v)] := hl
  refine lv_iload_n hx hb ij_d7_0 rfl (lv_at hl 0 rfl) ?_
  refine lv_if_lt (tgt := 9) hx hb ij_d7_1 (by decide) (fun q => absurd q h1) (fun _ => ?_)
  refine lv_iload_n hx hb ij_d7_4 rfl (lv_at hl 0 rfl) ?_
  refine lv_iload_n hx hb ij_d7_5 rfl (lv_at hl 1 rfl) ?_
  refine lv_icmp_lt (tgt := 16) hx hb ij_d7_6 (by decide) (fun _ => ?_) (fun q => absurd h2 q)
  refine lv_iload_n hx hb ij_d7_16 rfl (lv_at hl 0 rfl) ?_
  exact W.iret hx hb hr (fun t ht _ => ⟨rfl, ht⟩) (fun q hq => nomatch hq) ij_d7_17
theorem ij_d6_0 : decode prog_21_method_155_code 0 = .ok (.iload_n 0, 1) := by decide +kernel
theorem ij_d6_1 : decode prog_21_method_155_code 1 = .ok (.iload_n 1, 1) := by decide +kernel
theorem ij_d6_2 : decode prog_21_method_155_code 2 = .ok (.getstatic 1053, 3) := by decide +kernel
theorem ij_d6_5 : decode prog_21_method_155_code 5 = .ok (.invokestatic 1059, 3) := by decide +kernel
theorem ij_d6_8 : decode prog_21_method_155_code 8 = .ok (.pop, 1) := by decide +kernel
theorem ij_d6_9 : decode prog_21_method_155_code 9 = .ok (.return_, 1) := by decide +kernel
set_option maxHeartbeats 4000000 in
theorem ij_c_check (l : Launch) (G : ip_G) {j n : Int32} (h1 : ¬ j < 0) (h2 : j < n) : Met l ij_check (ij_ws ij_check prog_21_method_155_code 2 none) ({ frames := 1, cells := 0, slots := 0, locals := 22 }) (va_Pc [.int j, .int n] (fun U => ip_Wd G U)) ij_Qv 0 0 (fun _ => False) := by
  refine Met.ofW (cc := prog_21_method_155_code) (maxL := 2) (ret := none) (by decide) rfl ?_
  intro p e s m args below meth c s₁ B hml hv
  obtain ⟨rfl, hWd⟩ := hv
  have hx := B.exec
  have hb := B.bytes
  have hr := B.returns
  have hts0 := atoms_spec (ws := ij_ws ij_check prog_21_method_155_code 2 none) B.pre
  have hts : ∀ w ∈ ip_tbl, w.before [Value.int j, Value.int n].toArray s = true := fun w hw => hts0 w (List.mem_cons_of_mem _ hw)
  have hown : s.vm.findClass ij_S = some m.cls := findClass_of_methodNamed B.named
  have hlocks := B.notSynchronized
  have hS : va_S (ip_A G) s.heap s.heap [] := va_S.rf
  have hl := lv_entry ([.int j, .int n]) (n := 2) (Nat.le_of_ble_eq_true rfl)
  rw [lg_entry_eq]
  generalize (lg_sl [.int j, .int n] ++ List.replicate (2 - (lg_sl [.int j, .int n]).length) Slot.unset).toArray = ls at hl ⊢
  have hl : lv_has ls 2 [(0, .int j), (1, .int n)] := hl
  obtain ⟨v, hv1, hZ⟩ : ∃ v : Value, v.category = 1 ∧ va_Z "jdk/internal/util/Preconditions" "SIOOBE_FORMATTER" "Ljava/util/function/BiFunction;" v (ip_A G) s s.heap := by
    rcases hWd.2.2.2.2.2.2.1.2 with q | ⟨t, q⟩
    · exact ⟨.null, rfl, q⟩
    · exact ⟨.ref t, rfl, q⟩
  refine lv_iload_n hx hb ij_d6_0 rfl (lv_at hl 0 rfl) ?_
  refine lv_iload_n hx hb ij_d6_1 rfl (lv_at hl 1 rfl) ?_
  refine va_gets hx hb hZ hS hown (hts _ ij_f4) (fun _ z => z) ij_d6_2 ?_
  refine ij_call (W.runS (As := [.int j, .int n, v]) (rest := []) ⟨hx, hb, hml, hown, hts⟩ (ij_c_pre l G hv1 h1 h2) ⟨callB_of 3 hts (ij_goodIn ij_w7) rfl rfl rfl (hts _ ij_n7) (hts _ ij_l7) (by decide +kernel) ⟨Nat.le_of_ble_eq_true rfl, Nat.le_of_ble_eq_true rfl⟩, hts _ ij_t7⟩ ⟨ij_blind, fun U hU hW => ⟨rfl, ij_Wd hWd hS hU hW⟩⟩ rfl rfl hl.1 rfl (lv_room (Nat.le_of_ble_eq_true rfl)) ij_d6_5 ⟨Nat.zero_le _, Nat.zero_le _⟩) ij_read ?_
  refine lv_pop hx hb ij_d6_8 rfl ?_
  exact W.vret hx hb hr (fun t ht _ => ⟨rfl, ht⟩) (fun q hq => nomatch hq) ij_d6_9
theorem ij_d5_0 : decode prog_22_method_2_code 0 = .ok (.iload_n 1, 1) := by decide +kernel
theorem ij_d5_1 : decode prog_22_method_2_code 1 = .ok (.aload_n 0, 1) := by decide +kernel
theorem ij_d5_2 : decode prog_22_method_2_code 2 = .ok (.arraylength, 1) := by decide +kernel
theorem ij_d5_3 : decode prog_22_method_2_code 3 = .ok (.invokestatic 9, 3) := by decide +kernel
theorem ij_d5_6 : decode prog_22_method_2_code 6 = .ok (.aload_n 0, 1) := by decide +kernel
theorem ij_d5_7 : decode prog_22_method_2_code 7 = .ok (.iload_n 1, 1) := by decide +kernel
theorem ij_d5_8 : decode prog_22_method_2_code 8 = .ok (.baload, 1) := by decide +kernel
theorem ij_d5_9 : decode prog_22_method_2_code 9 = .ok (.sipush 255, 3) := by decide +kernel
theorem ij_d5_12 : decode prog_22_method_2_code 12 = .ok (.iand, 1) := by decide +kernel
theorem ij_d5_13 : decode prog_22_method_2_code 13 = .ok (.i2c, 1) := by decide +kernel
theorem ij_d5_14 : decode prog_22_method_2_code 14 = .ok (.ireturn, 1) := by decide +kernel
/-- the char of text i at k -/
def ij_ch (i k : Nat) : Int32 := (ip_byt.getD i []).getD k 0 &&& 255
theorem ij_lt {j : Int32} {n : Nat} (hn : n < 2 ^ 31) (h1 : ¬ j < 0) (h2 : j.toNatClampNeg < n) : j < Int32.ofNat n := by
  obtain ⟨k, hk, rfl⟩ := nI_of h1
  rw [nI_clamp hk] at h2
  exact nI_lt h2 hn
set_option maxHeartbeats 4000000 in
theorem ij_c_lchar (l : Launch) (G : ip_G) {i : Nat} (hi : i < 39) {j : Int32} (h1 : ¬ j < 0) (h2 : j.toNatClampNeg < ip_len.getD i 0) : Met l ij_lchar (ij_ws ij_lchar prog_22_method_2_code 2 (some .char)) ({ frames := 2, cells := 0, slots := 0, locals := 43 }) (va_Pc [.ref (G.2.2.2.2.1 i), .int j] (fun U => ip_Wd G U)) (QcRead (ij_ch i j.toNatClampNeg)) 0 0 (fun _ => False) := by
  refine Met.ofW (cc := prog_22_method_2_code) (maxL := 2) (ret := some .char) (by decide) rfl ?_
  intro p e s m args below meth c s₁ B hml hv
  obtain ⟨rfl, hWd⟩ := hv
  have hx := B.exec
  have hb := B.bytes
  have hr := B.returns
  have hts0 := atoms_spec (ws := ij_ws ij_lchar prog_22_method_2_code 2 (some .char)) B.pre
  have hts : ∀ w ∈ ip_tbl, w.before [Value.ref (G.2.2.2.2.1 i), Value.int j].toArray s = true := fun w hw => hts0 w (List.mem_cons_of_mem _ hw)
  have hown : s.vm.findClass "java/lang/StringLatin1" = some m.cls := findClass_of_methodNamed B.named
  have hlocks := B.notSynchronized
  have hS : va_S (ip_A G) s.heap s.heap [] := va_S.rf
  have hl := lv_entry ([.ref (G.2.2.2.2.1 i), .int j]) (n := 2) (Nat.le_of_ble_eq_true rfl)
  rw [lg_entry_eq]
  generalize (lg_sl [.ref (G.2.2.2.2.1 i), .int j] ++ List.replicate (2 - (lg_sl [.ref (G.2.2.2.2.1 i), .int j]).length) Slot.unset).toArray = ls at hl ⊢
  have hl : lv_has ls 2 [(0, .ref (G.2.2.2.2.1 i)), (1, .int j)] := hl
  have hlt : j < Int32.ofNat (ip_len.getD i 0) := ij_lt (ij_lens i hi) h1 h2
  refine lv_iload_n hx hb ij_d5_0 rfl (lv_at hl 1 rfl) ?_
  refine lv_aload_n hx hb ij_d5_1 rfl (lv_at hl 0 rfl) ?_
  refine va_tlen hx hb (hWd.2.2.2.2.1 i hi).2.2.2 hS rfl ij_d5_2 ?_
  refine ij_call (W.runS (As := [.int j, .int (Int32.ofNat (ip_len.getD i 0))]) (rest := []) ⟨hx, hb, hml, hown, hts⟩ (ij_c_check l G h1 hlt) ⟨callB_of 2 hts (ij_goodIn ij_w6) rfl rfl rfl (hts _ ij_n1) (hts _ ij_l6) (by decide +kernel) ⟨Nat.le_of_ble_eq_true rfl, Nat.le_of_ble_eq_true rfl⟩, hts _ ij_t6⟩ ⟨ij_blind, fun U hU hW => ⟨rfl, ij_Wd hWd hS hU hW⟩⟩ rfl rfl hl.1 rfl (lv_room (Nat.le_of_ble_eq_true rfl)) ij_d5_3 ⟨Nat.zero_le _, Nat.zero_le _⟩) ij_readv ?_
  refine lv_aload_n hx hb ij_d5_6 rfl (lv_at hl 0 rfl) ?_
  refine lv_iload_n hx hb ij_d5_7 rfl (lv_at hl 1 rfl) ?_
  refine va_tb hx hb (hWd.2.2.2.2.1 i hi).2.2.2 hS (fun q => q.elim h1 (fun q => by omega)) rfl ij_d5_8 ?_
  refine lv_sipush (v := 255) hx hb ij_d5_9 (by decide) ?_
  refine lv_iand hx hb ij_d5_12 ?_
  refine lv_i2c hx hb ij_d5_13 (sc_c2 _) ?_
  exact W.zret hx hb hr (sc_nar _) (fun t ht _ => ⟨rfl, ht⟩) (fun q hq => nomatch hq) ij_d5_14
theorem ij_d4_0 : decode prog_21_method_56_code 0 = .ok (.aload_n 0, 1) := by decide +kernel
theorem ij_d4_1 : decode prog_21_method_56_code 1 = .ok (.invokevirtual 492, 3) := by decide +kernel
theorem ij_d4_4 : decode prog_21_method_56_code 4 = .ok (.ifCond .eq 12, 3) := by decide +kernel
theorem ij_d4_7 : decode prog_21_method_56_code 7 = .ok (.aload_n 0, 1) := by decide +kernel
theorem ij_d4_8 : decode prog_21_method_56_code 8 = .ok (.getfield 9, 3) := by decide +kernel
theorem ij_d4_11 : decode prog_21_method_56_code 11 = .ok (.iload_n 1, 1) := by decide +kernel
theorem ij_d4_12 : decode prog_21_method_56_code 12 = .ok (.invokestatic 495, 3) := by decide +kernel
theorem ij_d4_15 : decode prog_21_method_56_code 15 = .ok (.ireturn, 1) := by decide +kernel
set_option maxHeartbeats 4000000 in
theorem ij_c_charAt (l : Launch) (G : ip_G) {i : Nat} (hi : i < 39) {j : Int32} (h1 : ¬ j < 0) (h2 : j.toNatClampNeg < ip_len.getD i 0) : Met l ij_charAt (ij_ws ij_charAt prog_21_method_56_code 2 (some .char)) ({ frames := 3, cells := 0, slots := 0, locals := 64 }) (va_Pc [.ref (G.2.2.2.1 i), .int j] (fun U => ip_Wd G U)) (QcRead (ij_ch i j.toNatClampNeg)) 0 0 (fun _ => False) := by
  refine Met.ofW (cc := prog_21_method_56_code) (maxL := 2) (ret := some .char) (by decide) rfl ?_
  intro p e s m args below meth c s₁ B hml hv
  obtain ⟨rfl, hWd⟩ := hv
  have hx := B.exec
  have hb := B.bytes
  have hr := B.returns
  have hts0 := atoms_spec (ws := ij_ws ij_charAt prog_21_method_56_code 2 (some .char)) B.pre
  have hts : ∀ w ∈ ip_tbl, w.before [Value.ref (G.2.2.2.1 i), Value.int j].toArray s = true := fun w hw => hts0 w (List.mem_cons_of_mem _ hw)
  have hown : s.vm.findClass ij_S = some m.cls := findClass_of_methodNamed B.named
  have hlocks := B.notSynchronized
  have hS : va_S (ip_A G) s.heap s.heap [] := va_S.rf
  have hl := lv_entry ([.ref (G.2.2.2.1 i), .int j]) (n := 2) (Nat.le_of_ble_eq_true rfl)
  rw [lg_entry_eq]
  generalize (lg_sl [.ref (G.2.2.2.1 i), .int j] ++ List.replicate (2 - (lg_sl [.ref (G.2.2.2.1 i), .int j]).length) Slot.unset).toArray = ls at hl ⊢
  have hl : lv_has ls 2 [(0, .ref (G.2.2.2.1 i)), (1, .int j)] := hl
  refine lv_aload_n hx hb ij_d4_0 rfl (lv_at hl 0 rfl) ?_
  refine ij_call (W.runV (As := []) (rest := []) ⟨hx, hb, hml, hown, hts⟩ (ij_c_lat l G hi) ⟨callB_of 0 hts (ij_goodIn ij_w2) rfl rfl rfl (hts _ ij_n1) (hts _ ij_l2) (by decide +kernel) ⟨Nat.le_of_ble_eq_true rfl, Nat.le_of_ble_eq_true rfl⟩, hts _ ij_i2, hts _ ij_s2⟩ ⟨ij_blind, ip_SS.recv hWd.2.2.2.2.1 hi hS, fun U hU hW => ⟨rfl, ij_Wd hWd hS hU hW⟩⟩ rfl rfl hl.1 rfl (lv_room (Nat.le_of_ble_eq_true rfl)) ij_d4_1 ⟨Nat.zero_le _, Nat.zero_le _⟩) ij_read ?_
  refine lv_if_eq (tgt := 16) hx hb ij_d4_4 (by rfl) (fun q => absurd q (by decide)) (fun _ => ?_)
  refine lv_aload_n hx hb ij_d4_7 rfl (lv_at hl 0 rfl) ?_
  refine vk_getf hx hb (hWd.2.2.2.2.1 i hi).2.2.1 hS hown (hts _ ij_f2) (fun _ z => z) ij_d4_8 ?_
  refine lv_iload_n hx hb ij_d4_11 rfl (lv_at hl 1 rfl) ?_
  refine ij_call (W.runS (As := [.ref (G.2.2.2.2.1 i), .int j]) (rest := []) ⟨hx, hb, hml, hown, hts⟩ (ij_c_lchar l G hi h1 h2) ⟨callB_of 2 hts (ij_goodIn ij_w5) rfl rfl rfl (hts _ ij_n5) (hts _ ij_l5) (by decide +kernel) ⟨Nat.le_of_ble_eq_true rfl, Nat.le_of_ble_eq_true rfl⟩, hts _ ij_t5⟩ ⟨ij_blind, fun U hU hW => ⟨rfl, ij_Wd hWd hS hU hW⟩⟩ rfl rfl hl.1 rfl (lv_room (Nat.le_of_ble_eq_true rfl)) ij_d4_12 ⟨Nat.zero_le _, Nat.zero_le _⟩) ij_read ?_
  exact W.zret hx hb hr (sc_nar _) (fun t ht _ => ⟨rfl, ht⟩) (fun q hq => nomatch hq) ij_d4_15
theorem ij_tb : ∀ i, i < 39 → (ip_len.getD i 0 = (ip_tb.getD i []).length ∧ ∀ k, k < (ip_tb.getD i []).length → ij_ch i k = Int32.ofNat ((ip_tb.getD i []).getD k 0)) := by decide +kernel
section IPS
variable {G : ip_G} {p : Program} {l : Launch} {e : Env} {R : Room} {s : State} {mid : MethodId} {args : Array Value} {below : List Frame} {meth : Method} {c : Code} {Q : State → Prop} {m d n0 s0 : Nat}
variable {pc : Nat} {lsA : Array Slot} {h : ip_H}
theorem ip_slen_ok (F : ip_Fr G p l R s mid args meth c m d) (hz : lsA.size = ip_mL m) {idx i : Nat} {r : List Value} (hi : i < 39) (hd : decode (ip_code m) pc = .ok (.invokevirtual idx, 3)) (hk : ip_spc (ip_own m) idx = some 1) (hcat : ip_cat r ≤ 8) (hRc : h.2.2.2.2.1 ≤ R.cells + n0) (hRs : h.2.2.2.2.2.1 ≤ R.slots + s0) (K : ip_Nx G p l e R s mid args below meth c Q n0 s0 (pc + 3) lsA (.int (Int32.ofNat (ip_tb.getD i []).length) :: r) h) : ip_Nx G p l e R s mid args below meth c Q n0 s0 pc lsA (.ref (1000000000 + i) :: r) h := by
  obtain ⟨hx, hb, hml, hr, hown, hts, hlk, hin, htb, hWd, hst, hf1, hf2⟩ := F
  intro H locs cells slots hI hS hc hs
  have K' := K H locs cells slots hI hS hc hs
  rw [← (ij_tb i hi).1] at K'
  rw [List.map_cons, show ip_v (ip_ad G) (.ref (1000000000 + i)) = .ref (G.2.2.2.1 i) by show Value.ref (ip_ad G _) = _; rw [ip_ad_str]]
  refine ij_call (W.runV (As := []) (rest := r.map (ip_v (ip_ad G))) ⟨hx, hb, hml, hown, hts⟩ (ij_c_length l G hi) ⟨callB_of 0 hts (ij_goodIn ij_w3) rfl rfl rfl (hts _ ij_n1) (hts _ (ip_spc_ok hk)) (by decide +kernel) ⟨by show 1 + 1 ≤ R.frames; omega, by show 8 + (1 + 11) + 20 ≤ R.locals; omega⟩, hts _ ij_i3, hts _ ij_s3⟩ ⟨ij_blind, ip_SS.recv hWd.2.2.2.2.1 hi hS, fun U hU hW => ⟨rfl, ij_Wd hWd hS hU hW⟩⟩ rfl rfl hz rfl (lv_room (by rw [ip_cat_map]; exact hcat)) hd ⟨by omega, by omega⟩) ij_read K'
theorem ip_schr_ok (F : ip_Fr G p l R s mid args meth c m d) (hz : lsA.size = ip_mL m) {idx i : Nat} {j : Int32} {r : List Value} (hi : i < 39) (h1 : ¬ j < 0) (h2 : j.toNatClampNeg < (ip_tb.getD i []).length) (hd : decode (ip_code m) pc = .ok (.invokevirtual idx, 3)) (hk : ip_spc (ip_own m) idx = some 2) (hcat : ip_cat r ≤ 8) (hRc : h.2.2.2.2.1 ≤ R.cells + n0) (hRs : h.2.2.2.2.2.1 ≤ R.slots + s0) (K : ip_Nx G p l e R s mid args below meth c Q n0 s0 (pc + 3) lsA (.int (Int32.ofNat ((ip_tb.getD i []).getD j.toNatClampNeg 0)) :: r) h) : ip_Nx G p l e R s mid args below meth c Q n0 s0 pc lsA (.int j :: .ref (1000000000 + i) :: r) h := by
  obtain ⟨hx, hb, hml, hr, hown, hts, hlk, hin, htb, hWd, hst, hf1, hf2⟩ := F
  intro H locs cells slots hI hS hc hs
  have K' := K H locs cells slots hI hS hc hs
  rw [← (ij_tb i hi).2 _ h2] at K'
  have h3 : j.toNatClampNeg < ip_len.getD i 0 := by rw [(ij_tb i hi).1]; exact h2
  rw [List.map_cons, List.map_cons, show ip_v (ip_ad G) (.ref (1000000000 + i)) = .ref (G.2.2.2.1 i) by show Value.ref (ip_ad G _) = _; rw [ip_ad_str]]
  refine ij_call (W.runV (As := [.int j]) (rest := r.map (ip_v (ip_ad G))) ⟨hx, hb, hml, hown, hts⟩ (ij_c_charAt l G hi h1 h3) ⟨callB_of 1 hts (ij_goodIn ij_w4) rfl rfl rfl (hts _ ij_n1) (hts _ (ip_spc_ok hk)) (by decide +kernel) ⟨by show 3 + 1 ≤ R.frames; omega, by show 8 + (2 + 11) + 64 ≤ R.locals; omega⟩, hts _ ij_i4, hts _ ij_s4⟩ ⟨ij_blind, ip_SS.recv hWd.2.2.2.2.1 hi hS, fun U hU hW => ⟨rfl, ij_Wd hWd hS hU hW⟩⟩ rfl rfl hz rfl (lv_room (by rw [ip_cat_map]; exact hcat)) hd ⟨by omega, by omega⟩) ij_read K'
end IPS
