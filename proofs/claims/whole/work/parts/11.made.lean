/-! THE PICTURE MACHINE, 9: arrays that are made, constants, Object(), Math.min, System.arraycopy -/
theorem ip_w_ai : Cond.arrayClass .int ∈ ip_tbl := ip_mem 1 54 rfl rfl
theorem ip_w_al : Cond.arrayClass .long ∈ ip_tbl := ip_mem 1 55 rfl rfl
theorem ip_w_az : Cond.arrayClass .boolean ∈ ip_tbl := ip_mem 7 57 rfl rfl
theorem ip_w_named : Cond.fieldLink "RemandTree$Tables" 24 "RemandTree$Tables" "NAMED" "[J" ∈ ip_tbl := ip_mem 3 160 rfl rfl
theorem ip_w_oi : Cond.instanceMethod objectInit ∈ ip_tbl := ip_mem 1 30 rfl rfl
theorem ip_w_oc : Cond.code objectInit ⟨#[0xb1]⟩ 1 none ∈ ip_tbl := ip_mem 1 31 rfl rfl
theorem ip_w_ms : Cond.static Lib.Math.min.name ∈ ip_tbl := ip_mem 3 8 rfl rfl
theorem ip_w_mi : Cond.initialized "java/lang/Math" ∈ ip_tbl := ip_mem 1 10 rfl rfl
theorem ip_w_mc : Cond.code Lib.Math.min.name Lib.Math.min.code 2 (some .int) ∈ ip_tbl := ip_mem 3 9 rfl rfl
theorem ip_w_ys : Cond.static arraycopyName ∈ ip_tbl := ip_mem 3 191 rfl rfl
theorem ip_w_yn : Cond.native arraycopyName ∈ ip_tbl := ip_mem 3 192 rfl rfl
theorem ip_w_yi : Cond.initialized "java/lang/System" ∈ ip_tbl := ip_mem 1 15 rfl rfl
section IPM
variable {G : ip_G} {p : Program} {l : Launch} {e : Env} {R : Room} {s : State} {mid : MethodId} {args : Array Value} {below : List Frame} {meth : Method} {c : Code} {Q : State → Prop} {m d n0 s0 : Nat}
variable {pc : Nat} {lsA : Array Slot} {st st' : List Value} {h h' : ip_H}
theorem ip_newa_one (F : ip_Fr G p l R s mid args meth c m d) {at_ : ArrayType} {k : Nat} (hac : Cond.arrayClass (newarray.typeOf at_) ∈ ip_tbl) (hty : (ip_tys G)[k]? = some (ip_dA G k, newarray.typeOf at_)) (hra : va_RA s (ip_dA G k) (newarray.typeOf at_) → s.vm.findClass ("[" ++ (newarray.typeOf at_).toString) = some (ip_dA G k)) (hcb : 1000 * componentBytes (newarray.typeOf at_) ≤ 536870912)
    (hat : ∀ (n : Nat) (H1 : Heap) (A : Nat), H1[A]? = some (arrV (ip_dA G k) n (fun _ => defaultValue (newarray.typeOf at_))) → va_at (ip_D G) ip_classes (A, ip_e G (ip_mk (100 + k) n h) h.1.length (100 + k) n) H1) {n : Int32} {r : List Value} (hnx : h.2.2.2.2.2.2 = false) (hl : h.1.length < 600000) (hn : ¬ n < 0) (hn2 : n.toNatClampNeg ≤ 1000)
    (hd : decode (ip_code m) pc = .ok (.newarray at_, 2)) (hRc : h.2.2.2.2.1 + 1 ≤ R.cells + n0) (hRs : h.2.2.2.2.2.1 + n.toNatClampNeg ≤ R.slots + s0) (K : ip_Nx G p l e R s mid args below meth c Q n0 s0 (pc + 2) lsA (.ref h.1.length :: r) (ip_mk (100 + k) n.toNatClampNeg h)) : ip_Nx G p l e R s mid args below meth c Q n0 s0 pc lsA (.int n :: r) h := by
  obtain ⟨hx, hb, hml, hr, hown, hts, hlk, hin, htb, hWd, hst, hf1, hf2⟩ := F
  intro H locs cells slots hI hS hc hs
  refine va_newaK hx hb (hts _ hac) rfl hd rfl hn rfl (Nat.le_trans (Nat.mul_le_mul_right _ hn2) hcb) (by omega) (by omega) rfl fun H1 cA e1 z oq hA hF => ?_
  have hcA : cA = ip_dA G k := Option.some.inj (hF.symm.trans (hra (hWd.1.2 k _ hty).2))
  subst hcA
  have K' := K H1 locs (cells + 1) (slots + n.toNatClampNeg) (ip_Inv_mk hI hnx hl z oq (hat _ _ _ e1)) (ip_S_new hS z oq) (by show _ = h.2.2.2.2.1 + 1; omega) (by show _ = h.2.2.2.2.2.1 + n.toNatClampNeg; omega)
  rw [List.map_cons, show ip_v (ip_ad G) (.ref h.1.length) = .ref H.size by show Value.ref (ip_ad G h.1.length) = _; rw [ip_ad_end hI hnx hl]] at K'
  exact K'
theorem ip_newa_ok (F : ip_Fr G p l R s mid args meth c m d) {at_ : ArrayType} (hd : decode (ip_code m) pc = .ok (.newarray at_, 2)) (h9 : ip_newa at_ st h = some (st', h')) (hRc : h'.2.2.2.2.1 ≤ R.cells + n0) (hRs : h'.2.2.2.2.2.1 ≤ R.slots + s0) (K : ip_Nx G p l e R s mid args below meth c Q n0 s0 (pc + 2) lsA st' h') : ip_Nx G p l e R s mid args below meth c Q n0 s0 pc lsA st h := by
  unfold ip_newa at h9
  split at h9
  · obtain ⟨⟨hnx, hl, hn, hn2⟩, h8⟩ := ip_if h9
    cases h8
    refine ip_newa_one (at_ := .int) (k := 0) F ip_w_ai rfl (fun q => q) (by decide) (fun n H1 A q => ?_) hnx hl hn hn2 hd hRc hRs K
    show H1[A]? = some (arrV (ip_dA G 0) n (fun j => .int ((ip_mk 100 n h).2.1 h.1.length j)))
    rw [q]
    unfold ip_mk
    dsimp only
    rw [ip_row_eq]
    rfl
  · obtain ⟨⟨hnx, hl, hn, hn2⟩, h8⟩ := ip_if h9
    cases h8
    refine ip_newa_one (at_ := .long) (k := 1) F ip_w_al rfl (fun q => q) (by decide) (fun n H1 A q => ?_) hnx hl hn hn2 hd hRc hRs K
    show H1[A]? = some (arrV (ip_dA G 1) n (fun j => .long ((ip_mk 101 n h).2.2.1 h.1.length j)))
    rw [q]
    unfold ip_mk
    dsimp only
    rw [ip_row_eq]
    rfl
  · obtain ⟨⟨hnx, hl, hn, hn2⟩, h8⟩ := ip_if h9
    cases h8
    refine ip_newa_one (at_ := .boolean) (k := 2) F ip_w_az rfl (fun q => q) (by decide) (fun n H1 A q => ?_) hnx hl hn hn2 hd hRc hRs K
    show H1[A]? = some (arrV (ip_dA G 2) n (fun j => .int ((ip_mk 102 n h).2.1 h.1.length j)))
    rw [q]
    unfold ip_mk
    dsimp only
    rw [ip_row_eq]
    rfl
  · cases h9
theorem ip_anew_ok (F : ip_Fr G p l R s mid args meth c m d) {idx : Nat} (hd : decode (ip_code m) pc = .ok (.anewarray idx, 3)) (h9 : ip_anew (ip_own m) idx st h = some (st', h')) (hRc : h'.2.2.2.2.1 ≤ R.cells + n0) (hRs : h'.2.2.2.2.2.1 ≤ R.slots + s0) (K : ip_Nx G p l e R s mid args below meth c Q n0 s0 (pc + 3) lsA st' h') : ip_Nx G p l e R s mid args below meth c Q n0 s0 pc lsA st h := by
  obtain ⟨hx, hb, hml, hr, hown, hts, hlk, hin, htb, hWd, hst, hf1, hf2⟩ := F
  intro H locs cells slots hI hS hc hs
  unfold ip_anew at h9
  split at h9
  · rename_i n r hk
    obtain ⟨⟨hnx, hl, hn, hn2⟩, h8⟩ := ip_if h9
    cases h8
    obtain ⟨hci, hlink, hins, hini⟩ := ip_kls_ok hk
    have q1 : h.2.2.2.2.1 + 1 ≤ R.cells + n0 := hRc
    have q2 : h.2.2.2.2.2.1 + n.toNatClampNeg ≤ R.slots + s0 := hRs
    refine W.anew (C := "RemandTree$Node") hx hb hown (hts _ hlink) (va_AO.use hWd.2.2.2.2.2.2.2.2.2.2.1) rfl hd rfl hn (by omega) (by omega) (by omega) fun cA kA comp f1 f2 f3 f4 => ?_
    have hcA : cA = ip_dA G 3 := by
      obtain ⟨kA', comp', -, -, -, k4⟩ := (hWd.1.2 3 _ rfl).2
      exact Option.some.inj (f1.symm.trans k4)
    subst hcA
    generalize hH1 : H.push ({ cls := ip_dA G 3, slots := Array.replicate n.toNatClampNeg .null, vm := .none } : Cell) = H1
    have z1 : H1.size = H.size + 1 := by rw [← hH1, Array.size_push]
    have e1 : H1[H.size]? = some (arrV (ip_dA G 3) n.toNatClampNeg (fun _ => .null)) := by rw [← hH1, Array.getElem?_push_size, ← arrV_new]
    have o1 : ∀ q : Nat, q < H.size → H1[q]? = H[q]? := fun q hq => by rw [← hH1, Array.getElem?_push, if_neg (Nat.ne_of_lt hq)]
    have K' := K H1 locs (cells + 1) (slots + n.toNatClampNeg) (ip_Inv_mk hI hnx hl z1 o1 ?_) (ip_S_new hS z1 o1) (by show _ = h.2.2.2.2.1 + 1; omega) (by show _ = h.2.2.2.2.2.1 + n.toNatClampNeg; omega)
    · rw [List.map_cons, show ip_v (ip_ad G) (.ref h.1.length) = .ref H.size by show Value.ref (ip_ad G h.1.length) = _; rw [ip_ad_end hI hnx hl]] at K'
      exact K'
    · show H1[H.size]? = some (arrV (ip_dA G 3) n.toNatClampNeg (fun j => va_rf (((ip_mk 103 n.toNatClampNeg h).2.2.2.1 h.1.length j).map (ip_ad G))))
      rw [e1]
      unfold ip_mk
      dsimp only
      rw [ip_row_eq]
      rfl
  · cases h9
theorem ip_ad_str {i : Nat} : ip_ad G (1000000000 + i) = G.2.2.2.1 i := by
  unfold ip_ad
  rw [if_neg (by omega), if_neg (by omega), if_neg (by omega), Nat.add_sub_cancel_left]
/-- ldc_w of a String constant -/
theorem ip_ldcSw {cc : ByteArray} (hexec : p.tables.exec = Jvm.exec) (hb : c.code = cc) {own tx : String} {index q : Nat} {H : Heap} {locs : List Loc} {cells slots : Nat} {rest : List Value} (hown : s.vm.findClass own = some mid.cls) (hZ : vk_R own index tx q s) (hdg : decode cc pc = .ok (.ldc_w index, 3))
    (k : W p l e R s mid args below meth c H locs cells slots Q (F0 mid (pc + 3) lsA (.ref q :: rest))) : W p l e R s mid args below meth c H locs cells slots Q (F0 mid pc lsA rest) := by
  intro T hT X
  obtain ⟨t, a1, b1⟩ := k T hT X
  exact ⟨t, X.ldcStringW hexec hown (text := tx) (a := q) hZ.1 hZ.2 (g := F0 mid pc lsA rest) rfl (by rw [hb]; exact hdg) t a1, b1⟩
theorem ip_ldc_ok (F : ip_Fr G p l R s mid args meth c m d) {idx : Nat} (hd : decode (ip_code m) pc = .ok (.ldc idx, 2)) (h9 : ip_ldc (ip_own m) idx st h = some (st', h')) (K : ip_Nx G p l e R s mid args below meth c Q n0 s0 (pc + 2) lsA st' h') : ip_Nx G p l e R s mid args below meth c Q n0 s0 pc lsA st h := by
  obtain ⟨hx, hb, hml, hr, hown, hts, hlk, hin, htb, hWd, hst, hf1, hf2⟩ := F
  intro H locs cells slots hI hS hc hs
  unfold ip_ldc at h9
  split at h9
  · rename_i v hk
    cases h9
    exact lv_ldc hx hb hown (hts _ (ip_kin_ok hk)) hd (K H locs cells slots hI hS hc hs)
  · split at h9
    · rename_i i hi
      cases h9
      have K' := K H locs cells slots hI hS hc hs
      rw [List.map_cons, show ip_v (ip_ad G) (.ref (1000000000 + i)) = .ref (G.2.2.2.1 i) by show Value.ref (ip_ad G _) = _; rw [ip_ad_str]] at K'
      exact va_ldcS hx hb hown (hWd.2.2.2.2.2.1 _ _ i hi) hd K'
    · cases h9
theorem ip_ldcw_ok (F : ip_Fr G p l R s mid args meth c m d) {idx : Nat} (hd : decode (ip_code m) pc = .ok (.ldc_w idx, 3)) (h9 : ip_ldc (ip_own m) idx st h = some (st', h')) (K : ip_Nx G p l e R s mid args below meth c Q n0 s0 (pc + 3) lsA st' h') : ip_Nx G p l e R s mid args below meth c Q n0 s0 pc lsA st h := by
  obtain ⟨hx, hb, hml, hr, hown, hts, hlk, hin, htb, hWd, hst, hf1, hf2⟩ := F
  intro H locs cells slots hI hS hc hs
  unfold ip_ldc at h9
  split at h9
  · rename_i v hk
    cases h9
    exact lv_ldcw hx hb hown (hts _ (ip_kin_ok hk)) hd (K H locs cells slots hI hS hc hs)
  · split at h9
    · rename_i i hi
      cases h9
      have K' := K H locs cells slots hI hS hc hs
      rw [List.map_cons, show ip_v (ip_ad G) (.ref (1000000000 + i)) = .ref (G.2.2.2.1 i) by show Value.ref (ip_ad G _) = _; rw [ip_ad_str]] at K'
      exact ip_ldcSw hx hb hown (hWd.2.2.2.2.2.1 _ _ i hi) hd K'
    · cases h9
theorem ip_ldc2_ok (F : ip_Fr G p l R s mid args meth c m d) {idx : Nat} {v : Int64} (hd : decode (ip_code m) pc = .ok (.ldc2_w idx, 3)) (hv : ip_kjn (ip_own m) idx = some v) (K : ip_Nx G p l e R s mid args below meth c Q n0 s0 (pc + 3) lsA (.long v :: st) h) : ip_Nx G p l e R s mid args below meth c Q n0 s0 pc lsA st h := by
  obtain ⟨hx, hb, hml, hr, hown, hts, hlk, hin, htb, hWd, hst, hf1, hf2⟩ := F
  intro H locs cells slots hI hS hc hs
  exact lv_ldc2 hx hb hown (hts _ (ip_kjn_ok hv)) hd (K H locs cells slots hI hS hc hs)
theorem ip_gets_ok (F : ip_Fr G p l R s mid args meth c m d) (hd : decode (ip_code m) pc = .ok (.getstatic 24, 3)) (ho : ip_own m = 5) (K : ip_Nx G p l e R s mid args below meth c Q n0 s0 (pc + 3) lsA (.ref 1 :: st) h) : ip_Nx G p l e R s mid args below meth c Q n0 s0 pc lsA st h := by
  obtain ⟨hx, hb, hml, hr, hown, hts, hlk, hin, htb, hWd, hst, hf1, hf2⟩ := F
  intro H locs cells slots hI hS hc hs
  rw [ho] at hown
  exact va_gets hx hb hWd.2.2.2.1 hS hown (hts _ ip_w_named) (fun _ z => z) hd (K H locs cells slots hI hS hc hs)
theorem ip_cat_map (st : List Value) : ((st.map (ip_v (ip_ad G))).map fun v => v.category).sum = ip_cat st := by
  unfold ip_cat
  rw [List.map_map]
  congr 1
  apply List.map_congr_left
  intro v _
  exact ip_v_cat _ v
theorem ip_oi_ok (F : ip_Fr G p l R s mid args meth c m d) (hz : lsA.size = ip_mL m) {idx a : Nat} {r : List Value} (hd : decode (ip_code m) pc = .ok (.invokespecial idx, 3)) (hk : ip_spc (ip_own m) idx = some 0) (hcat : ip_cat r ≤ 8) (K : ip_Nx G p l e R s mid args below meth c Q n0 s0 (pc + 3) lsA r h) : ip_Nx G p l e R s mid args below meth c Q n0 s0 pc lsA (.ref a :: r) h := by
  obtain ⟨hx, hb, hml, hr, hown, hts, hlk, hin, htb, hWd, hst, hf1, hf2⟩ := F
  intro H locs cells slots hI hS hc hs
  refine W.objInit hx hb hown (hts _ (ip_spc_ok hk)) (hts _ ip_w_oi) (hts _ ip_w_oc) rfl (by rw [hml]; exact hz) rfl hd (by omega) ?_ (K H locs cells slots hI hS hc hs)
  show 2 * 0 + ((r.map (ip_v (ip_ad G))).map fun v => v.category).sum + 12 ≤ R.locals
  rw [ip_cat_map]
  omega
theorem ip_min_ok (F : ip_Fr G p l R s mid args meth c m d) (hz : lsA.size = ip_mL m) {idx : Nat} {x y : Int32} {r : List Value} (hd : decode (ip_code m) pc = .ok (.invokestatic idx, 3)) (hk : ip_spc (ip_own m) idx = some 4) (hcat : ip_cat r ≤ 8) (hRc : h.2.2.2.2.1 ≤ R.cells + n0) (hRs : h.2.2.2.2.2.1 ≤ R.slots + s0) (K : ip_Nx G p l e R s mid args below meth c Q n0 s0 (pc + 3) lsA (.int (if y < x then y else x) :: r) h) : ip_Nx G p l e R s mid args below meth c Q n0 s0 pc lsA (.int y :: .int x :: r) h := by
  obtain ⟨hx, hb, hml, hr, hown, hts, hlk, hin, htb, hWd, hst, hf1, hf2⟩ := F
  intro H locs cells slots hI hS hc hs
  refine va_mmin hx hb (by rw [hml]; exact hz.symm) hown (hts _ (ip_spc_ok hk)) (hts _ ip_w_ms) (hts _ ip_w_mi) (hts _ ip_w_mc) (by omega) ?_ (by omega) (by omega) hd (K H locs cells slots hI hS hc hs)
  rw [ip_cat_map]
  omega
end IPM
