/-! THE PICTURE MACHINE, 10: System.arraycopy -/
section IPY
variable {G : ip_G} {p : Program} {l : Launch} {e : Env} {R : Room} {s : State} {mid : MethodId} {args : Array Value} {below : List Frame} {meth : Method} {c : Code} {Q : State → Prop} {m d n0 s0 : Nat}
variable {pc : Nat} {lsA : Array Slot} {h h' : ip_H}
def ip_W (G : ip_G) (h : ip_H) : va_W := (List.range (h.1.length - 2)).map (fun j => (ip_ad G (j + 2), ip_e G h (j + 2) (h.1.getD (j + 2) (0, 0)).1 (h.1.getD (j + 2) (0, 0)).2))
theorem ip_W_at {a t n : Nat} (hsh : h.1[a]? = some (t, n)) (ha : 2 ≤ a) : (ip_W G h)[a - 2]? = some (ip_ad G a, ip_e G h a t n) := by
  have hl := ip_sh_lt hsh
  unfold ip_W
  rw [ip_rg (by omega), show a - 2 + 2 = a by omega, List.getD_eq_getElem?_getD, hsh]
  rfl
theorem ip_W_of {k : Nat} {q : Nat × va_E} (hk : (ip_W G h)[k]? = some q) : ∃ t n, h.1[k + 2]? = some (t, n) ∧ q = (ip_ad G (k + 2), ip_e G h (k + 2) t n) := by
  have hl : k < (ip_W G h).length := (List.getElem?_eq_some_iff.mp hk).1
  have hl2 : k < h.1.length - 2 := by unfold ip_W at hl; simpa using hl
  unfold ip_W at hk
  rw [ip_rg hl2] at hk
  have hx : h.1[k + 2]? = some (h.1[k + 2]'(by omega)) := List.getElem?_eq_getElem (by omega)
  refine ⟨(h.1[k + 2]'(by omega)).1, (h.1[k + 2]'(by omega)).2, hx, ?_⟩
  rw [List.getD_eq_getElem?_getD, hx] at hk
  exact (Option.some.inj hk).symm
theorem ip_W_P {H : Heap} (hI : ip_Inv G h H) : va_P (ip_D G) ip_classes (ip_W G h) H := by
  intro k q hk
  obtain ⟨t, n, h1, rfl⟩ := ip_W_of hk
  exact hI.1 _ t n h1 (by omega)
theorem ip_W_D {H : Heap} (hI : ip_Inv G h H) : va_D (ip_A G) (ip_W G h) := by
  have hl := hI.2.2.2.1
  refine ⟨fun i j x y hi hj hxy => ?_, fun k q hk => ?_⟩
  · obtain ⟨t, n, h1, rfl⟩ := ip_W_of hi
    obtain ⟨t2, n2, h2, rfl⟩ := ip_W_of hj
    have l1 := ip_sh_lt h1
    have l2 := ip_sh_lt h2
    rcases Nat.decEq i j with hne | he
    · exact absurd hxy (ip_ad_ne (a := i + 2) (b := j + 2) (by omega) (by omega) (by omega) (by omega) (by omega))
    · exact he
  · obtain ⟨t, n, h1, rfl⟩ := ip_W_of hk
    exact ip_adA hI h1 (by omega)
theorem ip_W_set {H H1 : Heap} {a t n : Nat} (hI : ip_Inv G h H) (hsh : h.1[a]? = some (t, n)) (ha : 2 ≤ a) (e1 : h'.1 = h.1) (eI : ∀ x, x ≠ a → h'.2.1 x = h.2.1 x) (eL : ∀ x, x ≠ a → h'.2.2.1 x = h.2.2.1 x) (eR : ∀ x, x ≠ a → h'.2.2.2.1 x = h.2.2.2.1 x) (hx : h'.2.2.2.2.2.2 = true) (hP : va_P (ip_D G) ip_classes ((ip_W G h).set (a - 2) (ip_ad G a, ip_e G h' a t n)) H1) : ip_Inv G h' H1 := by
  obtain ⟨i1, i2, i3, i4, i5, i6, i7, i8⟩ := hI
  have hal := ip_sh_lt hsh
  refine ⟨fun x u k hxs hx2 => ?_, (fun q => by rw [hx] at q; exact nomatch q), by rw [e1]; exact i3, by rw [e1]; exact i4, by rw [e1]; exact i5, by rw [e1]; exact i6, fun j hj => by rw [eI 0 (by omega)]; exact i7 j hj, fun j hj => by rw [eL 1 (by omega)]; exact i8 j hj⟩
  rw [e1] at hxs
  by_cases hxa : x = a
  · subst hxa
    rw [hsh] at hxs
    cases hxs
    refine hP (x - 2) _ ?_
    have hlt := (List.getElem?_eq_some_iff.mp (ip_W_at (G := G) hsh ha)).1
    rw [List.getElem?_set_self hlt]
  · rw [ip_e_row (eI x hxa) (eL x hxa) (eR x hxa)]
    refine hP (x - 2) _ ?_
    rw [List.getElem?_set_ne (by omega)]
    exact ip_W_at hxs hx2
theorem ip_nfw : nativeFrameWords "java/lang/System" "arraycopy" 5 + 11 ≤ 200 := by decide +kernel
theorem ip_copy_ok (F : ip_Fr G p l R s mid args meth c m d) (hz : lsA.size = ip_mL m) {idx a b t la lb : Nat} {n dp sp : Int32} {r st' : List Value} (hd : decode (ip_code m) pc = .ok (.invokestatic idx, 3)) (hk : ip_spc (ip_own m) idx = some 3) (hcat : ip_cat r ≤ 8) (ha2 : 2 ≤ a) (hb2 : 2 ≤ b) (hsa : h.1[a]? = some (t, la)) (hsb : h.1[b]? = some (t, lb)) (h1 : ¬ sp < 0) (h2 : ¬ dp < 0) (h3 : ¬ n < 0) (h4 : sp.toNatClampNeg + n.toNatClampNeg ≤ lb) (h5 : dp.toNatClampNeg + n.toNatClampNeg ≤ la)
    (h9 : ip_cpk t a b sp.toNatClampNeg dp.toNatClampNeg n.toNatClampNeg r h = some (st', h')) (K : ip_Nx G p l e R s mid args below meth c Q n0 s0 (pc + 3) lsA st' h') : ip_Nx G p l e R s mid args below meth c Q n0 s0 pc lsA (.int n :: .int dp :: .ref a :: .int sp :: .ref b :: r) h := by
  obtain ⟨hx, hb, hml, hr, hown, hts, hlk, hin, htb, hWd, hst, hf1, hf2⟩ := F
  intro H locs cells slots hI hS hc hs
  have hroom : ((r.map (ip_v (ip_ad G))).map fun v => v.category).sum + (nativeFrameWords "java/lang/System" "arraycopy" 5 + 11) ≤ R.locals := by
    rw [ip_cat_map]
    have := ip_nfw
    omega
  by_cases t100 : t = 100
  · subst t100
    cases h9
    refine va_copyi (ty := .int) hx hb (by rw [hml]; exact hz.symm) hown (hts _ (ip_spc_ok hk)) (hts _ ip_w_yn) (hts _ ip_w_ys) (hts _ ip_w_yi) hWd.1 (ip_W_P hI) (ip_W_D hI) hS (b - 2) (a - 2) 0 0 (ip_W_at hsb hb2) (ip_W_at hsa ha2) rfl rfl rfl h1 h2 h3 h4 h5 (fun _ _ => rfl) (by omega) hroom hd (fun H1 locs1 hP1 _ hS1 => ?_)
    refine K H1 locs1 cells slots (ip_W_set hI hsa ha2 rfl (fun y hy => ip_row_ne hy) (fun _ _ => rfl) (fun _ _ => rfl) rfl ?_) hS1 hc hs
    rw [show ip_e G (h.1, ip_row h.2.1 a (va_cpy (h.2.1 b) (h.2.1 a) sp.toNatClampNeg dp.toNatClampNeg n.toNatClampNeg), h.2.2.1, h.2.2.2.1, h.2.2.2.2.1, h.2.2.2.2.2.1, true) a 100 la = .inl (ip_dA G 0, la, .inl (ip_row h.2.1 a (va_cpy (h.2.1 b) (h.2.1 a) sp.toNatClampNeg dp.toNatClampNeg n.toNatClampNeg) a)) from rfl, ip_row_eq]
    exact hP1
  by_cases t101 : t = 101
  · subst t101
    cases h9
    refine va_copyl (ty := .long) hx hb (by rw [hml]; exact hz.symm) hown (hts _ (ip_spc_ok hk)) (hts _ ip_w_yn) (hts _ ip_w_ys) (hts _ ip_w_yi) hWd.1 (ip_W_P hI) (ip_W_D hI) hS (b - 2) (a - 2) 1 1 (ip_W_at hsb hb2) (ip_W_at hsa ha2) rfl rfl rfl h1 h2 h3 h4 h5 (fun _ _ => rfl) (by omega) hroom hd (fun H1 locs1 hP1 _ hS1 => ?_)
    refine K H1 locs1 cells slots (ip_W_set hI hsa ha2 rfl (fun _ _ => rfl) (fun y hy => ip_row_ne hy) (fun _ _ => rfl) rfl ?_) hS1 hc hs
    rw [show ip_e G (h.1, h.2.1, ip_row h.2.2.1 a (va_cpy (h.2.2.1 b) (h.2.2.1 a) sp.toNatClampNeg dp.toNatClampNeg n.toNatClampNeg), h.2.2.2.1, h.2.2.2.2.1, h.2.2.2.2.2.1, true) a 101 la = .inl (ip_dA G 1, la, .inr (.inl (ip_row h.2.2.1 a (va_cpy (h.2.2.1 b) (h.2.2.1 a) sp.toNatClampNeg dp.toNatClampNeg n.toNatClampNeg) a))) from rfl, ip_row_eq]
    exact hP1
  unfold ip_cpk at h9
  split at h9
  · exact absurd rfl t100
  · exact absurd rfl t101
  · cases h9
end IPY
