/-! THE PICTURE MACHINE, 18: what the Statement gives at the start is the world that it needs -/
/-- String constants in the Statement's order: class, pool number, text, whether it is said to be the text's first one -/
def ip_se : List (Nat × Nat × Nat × Bool) := [(4, 159, 0, false), (7, 88, 1, false), (7, 389, 2, false), (7, 114, 3, false), (7, 396, 4, false), (7, 131, 5, false), (7, 394, 6, false), (7, 136, 7, false), (7, 149, 8, false), (7, 168, 9, false), (7, 177, 10, false), (7, 398, 11, false), (7, 408, 12, false), (7, 402, 13, false), (7, 204, 14, false), (7, 392, 15, false), (7, 400, 16, false), (7, 259, 17, false), (7, 274, 18, false), (7, 304, 19, false), (7, 316, 20, false), (7, 318, 21, false), (7, 320, 22, false), (7, 335, 23, false), (7, 337, 24, false), (7, 339, 25, false), (7, 341, 26, false), (7, 349, 27, false), (8, 177, 28, false), (8, 179, 29, false), (8, 181, 30, false), (8, 183, 31, false), (8, 185, 32, false), (8, 186, 33, false), (8, 188, 21, true), (8, 190, 22, true), (8, 192, 34, false), (8, 194, 35, false), (8, 196, 36, false), (8, 198, 37, false), (8, 200, 38, false), (8, 450, 20, true), (8, 456, 23, true), (8, 458, 24, true), (8, 460, 25, true), (8, 462, 26, true)]
/-- the first constant of each text -/
def ip_sr : List (Nat × Nat) := [(4, 159), (7, 88), (7, 389), (7, 114), (7, 396), (7, 131), (7, 394), (7, 136), (7, 149), (7, 168), (7, 177), (7, 398), (7, 408), (7, 402), (7, 204), (7, 392), (7, 400), (7, 259), (7, 274), (7, 304), (7, 316), (7, 318), (7, 320), (7, 335), (7, 337), (7, 339), (7, 341), (7, 349), (8, 177), (8, 179), (8, 181), (8, 183), (8, 185), (8, 186), (8, 192), (8, 194), (8, 196), (8, 198), (8, 200)]
def ip_tm (own idx : Nat) : Term := .string (ip_cn.getD own "") idx
def ip_sc (e : Nat × Nat × Nat × Bool) : List Cond :=
  [.exactly (ip_tm e.1 e.2.1) "java/lang/String", .eq (.field (ip_tm e.1 e.2.1) "java/lang/String" "coder" "B") (.int 0), .arrayOf (.field (ip_tm e.1 e.2.1) "java/lang/String" "value" "[B") .byte, .eq (.length (.field (ip_tm e.1 e.2.1) "java/lang/String" "value" "[B")) (.int (Int32.ofNat (ip_len.getD e.2.2.1 0)))] ++
  ((List.range (ip_len.getD e.2.2.1 0)).map (fun j => Cond.eq (.elem (.field (ip_tm e.1 e.2.1) "java/lang/String" "value" "[B") (.int (Int32.ofNat j))) (.int ((ip_byt.getD e.2.2.1 []).getD j 0))) ++
  (match e.2.2.2 with
    | true => [.eq (ip_tm (ip_sr.getD e.2.2.1 (0, 0)).1 (ip_sr.getD e.2.2.1 (0, 0)).2) (ip_tm e.1 e.2.1)]
    | false => []))
set_option maxRecDepth 100000 in
theorem ip_se_ok : (flatC narrow_1).drop 66 = ip_se.flatMap ip_sc := by decide +kernel
theorem ip_sc_in {e : Nat × Nat × Nat × Bool} (he : e ∈ ip_se) {w : Cond} (hw : w ∈ ip_sc e) : w ∈ flatC narrow_1 := by
  have h1 : w ∈ (flatC narrow_1).drop 66 := by
    rw [ip_se_ok]
    exact List.mem_flatMap.mpr ⟨e, he, hw⟩
  exact List.mem_of_mem_drop h1
/-- each constant is in the list; each text's first one too -/
theorem ip_se_all : ip_sl.all (fun x => ip_se.any (fun e => e.1 == x.1 && e.2.1 == x.2.1 && e.2.2.1 == x.2.2.1)) = true := by decide +kernel
theorem ip_sr_all : (List.range 39).all (fun i => ip_se.any (fun e => e.1 == (ip_sr.getD i (0, 0)).1 && e.2.1 == (ip_sr.getD i (0, 0)).2 && e.2.2.1 == i)) = true := by decide +kernel
theorem ip_se_first : ip_se.all (fun e => e.2.2.2 || decide ((e.1, e.2.1) = ip_sr.getD e.2.2.1 (0, 0))) = true := by decide +kernel
theorem ip_len_lt : (List.range 39).all (fun i => decide (ip_len.getD i 0 < 2 ^ 31)) = true := by decide +kernel
theorem ip_sub_w (j i : Nat) {w : Cond} (h : (ip_sub j)[i]? = some w) : w ∈ lw_tbl := ip_sub_in (List.mem_of_getElem? h)
section IPW
variable {s : State} {args : Array Value} {A : Nat → Prop}
theorem ip_str1 (hn : ∀ w ∈ flatC narrow_1, w.before args s = true) {e : Nat × Nat × Nat × Bool} (he : e ∈ ip_se) (hi : e.2.2.1 < 39) (hA : ∀ a : Nat, a < s.heap.size → ¬ A a) : ∃ q : Nat × Nat, (ip_tm e.1 e.2.1).eval args s none [] s = some (.ref q.1) ∧ va_O "java/lang/String" q.1 A s s.heap ∧ va_OF "java/lang/String" "coder" "B" (.int 0) q.1 A s s.heap ∧ va_OF "java/lang/String" "value" "[B" (.ref q.2) q.1 A s s.heap ∧ va_T .byte q.2 (ip_len.getD e.2.2.1 0) (fun j => .int ((ip_byt.getD e.2.2.1 []).getD j 0)) A s s.heap := by
  have hg : ∀ w ∈ ip_sc e, w.before args s = true := fun w hw => hn w (ip_sc_in he hw)
  have hex : (Cond.exactly (ip_tm e.1 e.2.1) "java/lang/String").before args s = true := hg _ (by simp [ip_sc])
  have hco : (Cond.eq (.field (ip_tm e.1 e.2.1) "java/lang/String" "coder" "B") (.int 0)).before args s = true := hg _ (by simp [ip_sc])
  have har : (Cond.arrayOf (.field (ip_tm e.1 e.2.1) "java/lang/String" "value" "[B") .byte).before args s = true := hg _ (by simp [ip_sc])
  have hle : (Cond.eq (.length (.field (ip_tm e.1 e.2.1) "java/lang/String" "value" "[B")) (.int (Int32.ofNat (ip_len.getD e.2.2.1 0)))).before args s = true := hg _ (by simp [ip_sc])
  have hel : ∀ j : Nat, j < ip_len.getD e.2.2.1 0 → (Cond.eq (.elem (.field (ip_tm e.1 e.2.1) "java/lang/String" "value" "[B") (.int (Int32.ofNat j))) (.int ((ip_byt.getD e.2.2.1 []).getD j 0))).before args s = true := fun j hj => by
    refine hg _ ?_
    unfold ip_sc
    exact List.mem_append_right _ (List.mem_append_left _ (List.mem_map.mpr ⟨j, List.mem_range.mpr hj, rfl⟩))
  have hN : ip_len.getD e.2.2.1 0 < 2 ^ 31 := of_decide_eq_true (List.all_eq_true.mp ip_len_lt _ (List.mem_range.mpr hi))
  obtain ⟨a, c, cA, kA, q1, q2, q3, q4, q5, q6, -⟩ := Cond.exactly_spec (args := args) (first := s) (o := none) (s := s) (idx := []) (t := ip_tm e.1 e.2.1) (cls := "java/lang/String") hex
  obtain ⟨t, ht, hT⟩ := va_Tof (f := fun j => .int ((ip_byt.getD e.2.2.1 []).getD j 0)) (A := A) hN har (va_eqt hle) (fun j hj => va_eqt (hel j hj)) hA
  exact ⟨(a, t), q1, ⟨cA, q3, q5, by rw [q6]; exact q2, hA a (Array.getElem?_eq_some_iff.mp q3).1⟩, vk_OFof q1 (va_eqt hco) hA, vk_OFof q1 ht hA, hT⟩
theorem ip_rep {i : Nat} (hi : i < 39) : ∃ e ∈ ip_se, e.1 = (ip_sr.getD i (0, 0)).1 ∧ e.2.1 = (ip_sr.getD i (0, 0)).2 ∧ e.2.2.1 = i := by
  have h1 := List.all_eq_true.mp ip_sr_all i (List.mem_range.mpr hi)
  obtain ⟨e, he, h2⟩ := List.any_eq_true.mp h1
  simp only [Bool.and_eq_true, beq_iff_eq] at h2
  exact ⟨e, he, h2.1.1, h2.1.2, h2.2⟩
theorem ip_str_in {own idx i : Nat} (h : ip_str own idx = some i) : (∃ e ∈ ip_se, e.1 = own ∧ e.2.1 = idx ∧ e.2.2.1 = i) ∧ Cond.stringRef (ip_cn.getD own "") idx (ip_tx.getD i "") ∈ lw_tbl := by
  unfold ip_str at h
  obtain ⟨⟨o, x, c, p1⟩, he, e2⟩ := ip_map_ok h
  cases e2
  obtain ⟨h1, h2⟩ := ip_find_ok he ip_sl_ok
  obtain ⟨-, h3⟩ := ip_find_ok he ip_se_all
  simp only [Bool.and_eq_true, beq_iff_eq, decide_eq_true_eq] at h1 h2
  obtain ⟨rfl, rfl⟩ := h1
  obtain ⟨e, he2, h4⟩ := List.any_eq_true.mp h3
  simp only [Bool.and_eq_true, beq_iff_eq] at h4
  exact ⟨⟨e, he2, h4.1.1, h4.1.2, h4.2⟩, ip_in_in h2.1⟩
set_option maxRecDepth 100000 in
theorem ip_nc_in : ∀ E ∈ ip_xn, ∀ nm ∈ ip_xn, E ≠ nm → Cond.not (.castable E nm) ∈ flatC narrow_1 := by decide +kernel
theorem ip_cc_in : ∀ E ∈ ip_xn, Cond.castable E E ∈ lw_tbl := List.forall_mem_cons.mpr ⟨ip_sub_w 3 195 rfl, List.forall_mem_cons.mpr ⟨ip_sub_w 4 41 rfl, List.forall_mem_cons.mpr ⟨ip_sub_w 4 57 rfl, List.forall_mem_cons.mpr ⟨ip_sub_w 4 116 rfl, fun _ h => absurd h List.not_mem_nil⟩⟩⟩⟩
theorem ip_dc_in : ∀ y ∈ ip_dc, Cond.declares y ∈ lw_tbl := List.forall_mem_cons.mpr ⟨ip_sub_w 3 197 rfl, List.forall_mem_cons.mpr ⟨ip_sub_w 3 199 rfl, List.forall_mem_cons.mpr ⟨ip_sub_w 3 201 rfl, fun _ h => absurd h List.not_mem_nil⟩⟩⟩
set_option maxRecDepth 100000 in
theorem ip_n0 : [Cond.eq (.static "java/lang/String" "COMPACT_STRINGS" "Z") (.int 1), .isRef (.static "jdk/internal/util/Preconditions" "SIOOBE_FORMATTER" "Ljava/util/function/BiFunction;"), .arrayOf (.static "RemandTree$Tables" "NAMED" "[J") .long, .eq (.length (.static "RemandTree$Tables" "NAMED" "[J")) (.int 6), .isRef (.static Bundle.tN "UNASSIGNED_STACK" Bundle.steD), .isRef (.static Bundle.tN "SUPPRESSED_SENTINEL" Bundle.listD)].all (fun w => decide (w ∈ (flatC narrow_1).take 66)) = true := by decide +kernel
set_option maxRecDepth 100000 in
theorem ip_n1 : ∀ j, j < 6 → Cond.eq (.elem (.static "RemandTree$Tables" "NAMED" "[J") (.int (Int32.ofNat j))) (.long (ip_nm j)) ∈ (flatC narrow_1).take 66 := by decide +kernel
theorem ip_n0_in {w : Cond} (h : w ∈ (flatC narrow_1).take 66) : w ∈ flatC narrow_1 := List.mem_of_mem_take h
theorem ip_kl_all : (List.range 9).all (fun ci => ip_kl.any (fun e => e.2.2.1 == ci)) = true := by decide +kernel
theorem ip_inst {ci : Nat} (h : ci < 9) : Cond.instantiable (ip_cn.getD ci "") (ip_nf ci) ∈ ip_tbl := by
  obtain ⟨e, he, h1⟩ := List.any_eq_true.mp (List.all_eq_true.mp ip_kl_all ci (List.mem_range.mpr h))
  have h2 := List.all_eq_true.mp ip_kl_ok e he
  simp only [beq_iff_eq] at h1
  subst h1
  simp only [ip_kl_c, Bool.and_eq_true, decide_eq_true_eq] at h2
  exact ip_at_in h2.1.2
theorem ip_tbl_sub {w : Cond} (h : w ∈ ip_tbl) : w ∈ lw_tbl := (List.mem_filter.mp h).1
theorem ip_arr {ty : FieldType} (h : (Cond.arrayClass ty).before args s = true) : ∃ cA : ClassId, ArrOfT s cA ty ∧ s.vm.findClass ("[" ++ ty.toString) = some cA := by
  obtain ⟨c, k, comp, h1, h2, h3⟩ := Cond.arrayClass_spec (args := args) (first := s) (o := none) (s := s) (idx := []) h
  exact ⟨c, fun n z => ⟨fun k h => (by cases h), k, h2, comp, h3⟩, h1⟩
set_option maxHeartbeats 4000000 in
/-- the world at the start -/
theorem ip_start {b L : Nat} {xs : Nat → Int32} (hts : ∀ w ∈ lw_tbl, w.before args s = true) (hn : ∀ w ∈ flatC narrow_1, w.before args s = true) (hX : va_X b L xs s s.heap) (hb : b < s.heap.size) : ∃ G : ip_G, G.1 = s.heap.size ∧ G.2.1 = b ∧ ip_xL G = L ∧ ip_xs G = xs ∧ ip_Wd G s := by
  have hA : ∀ a : Nat, a < s.heap.size → ¬ (fun q => s.heap.size ≤ q) a := fun a h => Nat.not_le.mpr h
  have hts2 : ∀ w ∈ ip_tbl, w.before args s = true := fun w hw => hts w (ip_tbl_sub hw)
  -- texts
  have h0 : ∀ i : Nat, ∃ q : Nat × Nat, i < 39 → (ip_tm (ip_sr.getD i (0, 0)).1 (ip_sr.getD i (0, 0)).2).eval args s none [] s = some (.ref q.1) ∧ va_O "java/lang/String" q.1 (fun q => s.heap.size ≤ q) s s.heap ∧ va_OF "java/lang/String" "coder" "B" (.int 0) q.1 (fun q => s.heap.size ≤ q) s s.heap ∧ va_OF "java/lang/String" "value" "[B" (.ref q.2) q.1 (fun q => s.heap.size ≤ q) s s.heap ∧ va_T .byte q.2 (ip_len.getD i 0) (fun j => .int ((ip_byt.getD i []).getD j 0)) (fun q => s.heap.size ≤ q) s s.heap := by
    intro i
    by_cases hi : i < 39
    · obtain ⟨e, he, e1, e2, e3⟩ := ip_rep hi
      obtain ⟨q, hq⟩ := ip_str1 hn he (by rw [e3]; exact hi) hA
      rw [e1, e2, e3] at hq
      exact ⟨q, fun _ => hq⟩
    · exact ⟨(0, 0), fun h => absurd h hi⟩
  obtain ⟨ad, had⟩ := Classical.axiomOfChoice h0
  -- classes
  have h1 : ∀ ci : Nat, ∃ q : ClassId × (Nat → Nat), ci < 9 → u_Kn s (ip_cn.getD ci "") (ip_T ci) (ip_nf ci) q.1 q.2 := by
    intro ci
    by_cases hc : ci < 9
    · obtain ⟨cC, iS, hK⟩ := u_known (C := ip_cn.getD ci "") (T := ip_T ci) (N := ip_nf ci) (n := ip_nf ci) hts2 (ip_lay_in hc) (hts2 _ (ip_inst hc))
      exact ⟨(cC, iS), fun _ => hK⟩
    · exact ⟨(0, fun _ => 0), fun h => absurd h hc⟩
  obtain ⟨dk, hdk⟩ := Classical.axiomOfChoice h1
  obtain ⟨cI, aI, fI⟩ := ip_arr (hts2 _ ip_w_ai)
  obtain ⟨cJ, aJ, fJ⟩ := ip_arr (hts2 _ ip_w_al)
  obtain ⟨cZ, aZ, fZ⟩ := ip_arr (hts2 _ ip_w_az)
  have hover : (Cond.arrayOver (.object "RemandTree$Node")).before args s = true := hts _ (ip_sub_w 1 135 rfl)
  obtain ⟨comp, cN, kN, o1, o2, o3, o4, o5⟩ := Cond.arrayOver_spec (args := args) (first := s) (o := none) (s := s) (idx := []) hover
  -- the static array
  have hN : ∀ w ∈ [Cond.eq (.static "java/lang/String" "COMPACT_STRINGS" "Z") (.int 1), .isRef (.static "jdk/internal/util/Preconditions" "SIOOBE_FORMATTER" "Ljava/util/function/BiFunction;"), .arrayOf (.static "RemandTree$Tables" "NAMED" "[J") .long, .eq (.length (.static "RemandTree$Tables" "NAMED" "[J")) (.int 6), .isRef (.static Bundle.tN "UNASSIGNED_STACK" Bundle.steD), .isRef (.static Bundle.tN "SUPPRESSED_SENTINEL" Bundle.listD)], w.before args s = true := fun w hw => hn w (ip_n0_in (of_decide_eq_true (List.all_eq_true.mp ip_n0 w hw)))
  obtain ⟨sa, hsa, hT⟩ := va_Tof (tm := .static "RemandTree$Tables" "NAMED" "[J") (ty := .long) (N := 6) (f := fun j => .long (ip_nm j)) (A := fun q => s.heap.size ≤ q) (by decide) (hN _ (List.mem_of_getElem? (i := 2) rfl)) (va_eqt (hN _ (List.mem_of_getElem? (i := 3) rfl))) (fun j hj => va_eqtl (hn _ (ip_n0_in (ip_n1 j hj)))) hA
  refine ⟨(s.heap.size, b, sa, fun i => (ad i).1, fun i => (ad i).2, fun ci => (dk ci).1, fun ci => (dk ci).2, fun t => match t with | 0 => cI | 1 => cJ | 2 => cZ | _ => cN, L, xs), rfl, rfl, rfl, rfl, ⟨fun ci q hq => ?_, fun k q hk => ?_⟩, ⟨hX, hb⟩, hT, va_Zref (hts _ (ip_sub_w 3 161 rfl)) (hts _ (ip_sub_w 1 3 rfl)) hsa hA, fun i hi => (had i hi).2, fun own idx i hi => ?_, ⟨va_Zof (hts _ (ip_sub_w 3 39 rfl)) (hts _ (ip_sub_w 1 11 rfl)) (va_eqi (hN _ (List.mem_of_getElem? (i := 0) rfl))) hA, va_Zqof (hts _ (ip_sub_w 3 55 rfl)) (hts _ (ip_sub_w 1 13 rfl)) (hN _ (List.mem_of_getElem? (i := 1) rfl)) hA⟩, vx_Zqof (hts _ (ip_sub_w 3 220 rfl)) (hts _ (ip_sub_w 1 16 rfl)) (hN _ (List.mem_of_getElem? (i := 4) rfl)) hA, vx_Zqof (hts _ (ip_sub_w 3 222 rfl)) (hts _ (ip_sub_w 1 16 rfl)) (hN _ (List.mem_of_getElem? (i := 5) rfl)) hA, fun own idx y hy => va_Nw.of rfl (hts _ hy), va_AO.of hover, fun E nm hE hnm hne => va_Nc.of (hn _ (ip_nc_in E hE nm hnm hne)), ⟨fun E hE => va_Nw.of rfl (hts _ (ip_cc_in E hE)), fun y hy => va_Nw.of rfl (hts _ (ip_dc_in y hy))⟩, Nat.le_refl _⟩
  · have hc : ci < 9 := by
      have := (List.getElem?_eq_some_iff.mp hq).1
      simpa [ip_classes] using this
    rw [ip_cls_at hc] at hq
    cases hq
    exact hdk ci hc
  · match k, hk with
    | 0, hk => cases hk; exact ⟨aI, fI⟩
    | 1, hk => cases hk; exact ⟨aJ, fJ⟩
    | 2, hk => cases hk; exact ⟨aZ, fZ⟩
    | 3, hk => cases hk; exact ⟨fun n z => ⟨fun k h => (by cases h), kN, o3, comp, o4⟩, kN, comp, o3, o4, o1, o5⟩
    | k + 4, hk => simp [ip_tys] at hk
  · obtain ⟨⟨e, he, e1, e2, e3⟩, hw⟩ := ip_str_in hi
    have hi39 := ip_str_lt hi
    refine vk_R.of (hts _ hw) ?_
    have hrep := (had i hi39).1
    have hfst := List.all_eq_true.mp ip_se_first e he
    show (ip_tm own idx).eval args s none [] s = some (.ref (ad i).1)
    by_cases hq : e.2.2.2 = true
    · have hc : Cond.eq (ip_tm (ip_sr.getD e.2.2.1 (0, 0)).1 (ip_sr.getD e.2.2.1 (0, 0)).2) (ip_tm e.1 e.2.1) ∈ ip_sc e := by
        unfold ip_sc
        rw [hq]
        exact List.mem_append_right _ (List.mem_append_right _ List.mem_cons_self)
      have hb2 := hn _ (ip_sc_in he hc)
      rw [e1, e2, e3] at hb2
      exact va_eqR hb2 hrep
    · have h9 : (e.1, e.2.1) = ip_sr.getD e.2.2.1 (0, 0) := by
        simp only [Bool.or_eq_true, decide_eq_true_eq] at hfst
        exact hfst.resolve_left hq
      rw [e1, e2, e3] at h9
      rw [← h9] at hrep
      exact hrep
end IPW
