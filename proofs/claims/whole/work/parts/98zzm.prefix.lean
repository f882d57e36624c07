/-! THE LAW, up to its loop -/
theorem kl_9_8 : ip_kls 9 8 = some 7 := by decide +kernel
theorem kl_9_115 : ip_kls 9 115 = some 8 := by decide +kernel
theorem nf_7 : ip_nf 7 = 11 := by decide +kernel
theorem nf_8 : ip_nf 8 = 71 := by decide +kernel
section FS
variable {n d m pc idx o b m' q : Nat} {ls : List (Option Value)} {s : List Value} {h : ip_H}
theorem g_nw {ci k : Nat} (hd : okD m pc (.new idx) 3 = true) (how : ip_own m = o) (hk : ip_kls o idx = some ci) (hf : ip_nf ci = k) (h1 : h.2.2.2.2.2.2 = false) (h2 : h.1.length < 600000) : rf d m pc ls s h = rf d m (pc + 3) ls (.ref h.1.length :: s) (ip_mk ci k h) := by
  refine rf_heap (okD_ok hd) rfl ?_
  show (if 3 = 3 then ip_new (ip_own m) idx s h else none) = _
  rw [if_pos rfl, how]
  unfold ip_new
  rw [hk]
  dsimp only
  rw [if_pos ⟨h1, h2⟩, hf]
theorem g_ci (hd : okD m pc (.invokespecial idx) 3 = true) (how : ip_own m = o) (hs : ip_spc o idx = none) (hm : ip_mth o idx = some (2, m', 0)) (hL : ip_mL m' = q) (hq : 1 ≤ q) (hcat : ip_cat s ≤ 8) : rf (d + 1) m pc ls (.ref b :: s) h = rf_k (d + 1) m pc ls s (cf d m' [.ref b] h) := by
  refine rf_call (okD_ok hd) rfl ?_ rfl rfl ?_
  · show (if 3 = 3 then ip_spi m idx [0] (.ref b :: s) h else none) = none
    rw [if_pos rfl]
    unfold ip_spi
    rw [how, hs]
  · unfold ip_inv
    dsimp only
    rw [if_pos rfl, how, hm]
    dsimp only
    rw [if_pos ⟨Or.inl rfl, Nat.succ_pos _, hcat, by rw [hL]; exact hq⟩]
    rfl
theorem g_nl (hd : okD m pc (.newarray .long) 2 = true) (h1 : h.2.2.2.2.2.2 = false) (h2 : h.1.length < 600000) : rf d m pc ls (.int 1 :: s) h = rf d m (pc + 2) ls (.ref h.1.length :: s) (ip_mk 101 1 h) := by
  refine rf_heap (okD_ok hd) rfl ?_
  show (if 2 = 2 then ip_newa .long (.int 1 :: s) h else none) = _
  rw [if_pos rfl]
  unfold ip_newa
  dsimp only
  rw [if_pos ⟨h1, h2, by decide, by decide⟩]
  rfl
variable {l0 l1 l2 l3 l4 l5 l6 : Option Value} {a : Nat} {x : Int32}
theorem e284_0 (h1 : h.2.2.2.2.2.2 = false) (h2 : h.1.length < 600000) : rf d 284 0 ls s h = rf d 284 3 ls (.ref h.1.length :: s) (ip_mk 7 11 h) := g_nw (okL_D (op := 187) (by decide +kernel)) ow284 kl_9_8 nf_7 h1 h2
theorem e284_3 : rf d 284 3 ls (.ref a :: s) h = rf d 284 4 ls (.ref a :: .ref a :: s) h := rf_pure (i := .dup) (len := 1) (okD_ok (okL_D (op := 89) (by decide +kernel))) rfl
theorem e284_4 (hcat : ip_cat s ≤ 8) : rf (d + 1) 284 4 ls (.ref b :: s) h = rf_k (d + 1) 284 4 ls s (cf d 0 [.ref b] h) := g_ci (idx := 114) (okL_D (op := 183) (by decide +kernel)) ow284 ms_9_114 mt_9_114 mL0 (by omega) hcat
theorem e284_7 (hn : ip_nl l0 = true) : rf d 284 7 [l0, l1, l2, l3, l4, l5, l6] (.ref a :: s) h = rf d 284 8 [l0, some (.ref a), l2, l3, l4, l5, l6] s h := by
  cases l0 with
  | none => exact rf_pure (i := .astore_n 1) (len := 1) (okD_ok (okL_D (op := 76) (by decide +kernel))) rfl
  | some v => cases v <;> first | (cases hn; done) | exact rf_pure (i := .astore_n 1) (len := 1) (okD_ok (okL_D (op := 76) (by decide +kernel))) rfl
theorem e284_8 (h1 : h.2.2.2.2.2.2 = false) (h2 : h.1.length < 600000) : rf d 284 8 ls s h = rf d 284 11 ls (.ref h.1.length :: s) (ip_mk 8 71 h) := g_nw (okL_D (op := 187) (by decide +kernel)) ow284 kl_9_115 nf_8 h1 h2
theorem e284_11 : rf d 284 11 ls (.ref a :: s) h = rf d 284 12 ls (.ref a :: .ref a :: s) h := rf_pure (i := .dup) (len := 1) (okD_ok (okL_D (op := 89) (by decide +kernel))) rfl
theorem e284_12 (hcat : ip_cat s ≤ 8) : rf (d + 1) 284 12 ls (.ref b :: s) h = rf_k (d + 1) 284 12 ls s (cf d 183 [.ref b] h) := g_ci (idx := 117) (okL_D (op := 183) (by decide +kernel)) ow284 ms_9_117 mt_9_117 mL183 (by omega) hcat
theorem e284_15 : rf d 284 15 [l0, some (.ref b), l2, l3, l4, l5, l6] (.ref a :: s) h = rf d 284 16 [l0, some (.ref b), some (.ref a), l3, l4, l5, l6] s h := rf_pure (i := .astore_n 2) (len := 1) (okD_ok (okL_D (op := 77) (by decide +kernel))) rfl
theorem e284_16 : rf d 284 16 ls s h = rf d 284 17 ls (.int 1 :: s) h := rf_pure (i := .iconst (1)) (len := 1) (okD_ok (okL_D (op := 4) (by decide +kernel))) rfl
theorem e284_17 (h1 : h.2.2.2.2.2.2 = false) (h2 : h.1.length < 600000) : rf d 284 17 ls (.int 1 :: s) h = rf d 284 19 ls (.ref h.1.length :: s) (ip_mk 101 1 h) := g_nl (okL_D (op := 188) (by decide +kernel)) h1 h2
theorem e284_19 : rf d 284 19 [l0, l1, some (.ref b), l3, l4, l5, l6] (.ref a :: s) h = rf d 284 20 [l0, l1, some (.ref b), some (.ref a), l4, l5, l6] s h := rf_pure (i := .astore_n 3) (len := 1) (okD_ok (okL_D (op := 78) (by decide +kernel))) rfl
theorem e284_20 : rf d 284 20 ls s h = rf d 284 21 ls (.int 0 :: s) h := rf_pure (i := .iconst (0)) (len := 1) (okD_ok (okL_D (op := 3) (by decide +kernel))) rfl
theorem e284_21 : rf d 284 21 [l0, l1, l2, some (.ref b), l4, l5, l6] (.int x :: s) h = rf d 284 23 [l0, l1, l2, some (.ref b), some (.int x), l5, l6] s h := rf_pure (i := .istore 4) (len := 2) (okD_ok (okL_D (op := 54) (by decide +kernel))) rfl
theorem en284 : ip_entry 284 [.ref 0] = [some (.ref 0), none, none, none, none, none, none] := by
  unfold ip_entry
  rw [ip_law_mL]
  rfl
end FS
/-- the law comes to its loop, class and model alike -/
theorem lw_first (n : Nat) (xs : Nat → Int32) : ∃ (J : Nat → Nat → Int32) (L : Nat → Nat → Int64) (R : Nat → Nat → Option Nat) (nc ns : Nat), rf 300 284 0 (ip_entry 284 [.ref 0]) [] (ip_h0 n xs) = rf 300 284 23 [some (.ref 0), some (.ref 2), some (.ref 265), some (.ref 307), some (.int 0), none, none] [] (SH n, J, L, R, nc, ns, false) ∧ REL 16 0 1 0 0 0 J L R ∧ nc ≤ 400 ∧ ns ≤ 20000 := by
  obtain ⟨h, g, I, L, R, nc, ns, ha, hb, hl, hx, hg, n1, n2, r1, r2, r3, r4, r5, r6, r7, i1, i2, i3, i4, l1⟩ := sr_get
  have a1 : ip_run 6000 200 0 0 (ip_entry 0 [.ref 2]) [] (ip_mk 7 11 sr_0) = some (.inl none, h) := fr_ok _ _ _ _ _ _ _ _ ha
  have z1 : (ip_mk 7 11 sr_0).1[0]? = some (107, 0) := rfl
  have k1 := (kp_run _ _ _ _ _ _ _ _ z1 a1).1
  have a2 := ph_run (n := n) (xs := xs) _ _ _ _ _ _ _ _ _ z1 a1
  have a3 : ph n xs (ip_mk 7 11 sr_0) = ip_mk 7 11 (ip_h0 n xs) := (ph_mk (h := sr_0) rfl).symm
  rw [a3] at a2
  have A : cf 299 0 [.ref 2] (ip_mk 7 11 (ip_h0 n xs)) = some (.inl none, ph n xs h) := cf_le (d := 200) (rf_of ⟨_, a2⟩) (by omega)
  have b1 : ip_run 10000 200 183 0 (ip_entry 183 [.ref 265]) [] (ip_mk 8 71 h) = some (.inl none, g) := fr_ok _ _ _ _ _ _ _ _ hb
  have z2 : (ip_mk 8 71 h).1[0]? = some (107, 0) := (kp_mk k1).1
  have k2 := (kp_run _ _ _ _ _ _ _ _ z2 b1).1
  have b2 := ph_run (n := n) (xs := xs) _ _ _ _ _ _ _ _ _ z2 b1
  rw [← ph_mk k1] at b2
  have B : cf 299 183 [.ref 265] (ip_mk 8 71 (ph n xs h)) = some (.inl none, ph n xs g) := cf_le (d := 200) (rf_of ⟨_, b2⟩) (by omega)
  have c1 : ip_mk 101 1 (ph n xs g) = (SH n, (fun a j => if a = 0 then xs j else I a j), L, R, nc, ns, false) := by
    rw [ph_mk k2, hg]; rfl
  have l2 : (ph n xs h).1.length = 265 := ph_len.trans hl
  have l3 : (ph n xs g).1.length = 307 := by
    rw [ph_len]
    have e : g.1 ++ [(101, 1)] = (107, 0) :: SHt := congrArg (fun q => q.1) hg
    have e2 := congrArg List.length e
    rw [List.length_append] at e2
    have e3 : ((107, 0) :: SHt : List (Nat × Nat)).length = 308 := by decide +kernel
    rw [e3] at e2
    have e4 : ([(101, 1)] : List (Nat × Nat)).length = 1 := rfl
    omega
  have x3 : (ph n xs g).2.2.2.2.2.2 = false := by
    have e : (ip_mk 101 1 g).2.2.2.2.2.2 = false := by rw [hg]
    exact e
  refine ⟨(fun a j => if a = 0 then xs j else I a j), L, R, nc, ns, ?_, sr_REL r1 r2 r3 r4 r5 r6 r7 i1 i2 i3 i4 l1, n1, n2⟩
  rw [en284, e284_0 rfl (by show 2 < 600000; omega), show (ip_h0 n xs).1.length = 2 from rfl, e284_3, e284_4 (by decide), A, rk_n, e284_7 nl_r, e284_8 (h := ph n xs h) hx (by rw [l2]; omega), l2, e284_11, e284_12 (by decide), B, rk_n, e284_15, e284_16, e284_17 x3 (by rw [l3]; omega), l3, c1, e284_19, e284_20, e284_21]
