/-! THE PICTURE MACHINE, 8: arrays, and what is made -/
section IPR
variable {G : ip_G} {p : Program} {l : Launch} {e : Env} {R : Room} {s : State} {mid : MethodId} {args : Array Value} {below : List Frame} {meth : Method} {c : Code} {Q : State → Prop} {m d n0 s0 : Nat}
variable {pc : Nat} {lsA : Array Slot} {st st' : List Value} {h h' : ip_H}
theorem ip_adA {H : Heap} {a t n : Nat} (hI : ip_Inv G h H) (hsh : h.1[a]? = some (t, n)) (ha2 : 2 ≤ a) : ip_A G (ip_ad G a) := by
  show G.1 ≤ ip_ad G a
  rw [ip_ad_cell ha2 (by have := ip_sh_lt hsh; have := hI.2.2.2.1; omega)]
  omega
theorem ip_updf {α : Type} (mk : α → Value) (f : Nat → Nat → α) (a k : Nat) (x : α) : updV (fun j => mk (f a j)) k (mk x) = fun j => mk (ip_up f a k x a j) := by
  funext j
  unfold updV
  rw [ip_up_row]
  by_cases hj : j = k
  · rw [if_pos hj, if_pos hj]
  · rw [if_neg hj, if_neg hj]
theorem ip_iald_ok (F : ip_Fr G p l R s mid args meth c m d) (hd : decode (ip_code m) pc = .ok (.iaload, 1)) (h9 : ip_iald st h = some (st', h')) (K : ip_Nx G p l e R s mid args below meth c Q n0 s0 (pc + 1) lsA st' h') : ip_Nx G p l e R s mid args below meth c Q n0 s0 pc lsA st h := by
  obtain ⟨hx, hb, hml, hr, hown, hts, hlk, hin, htb, hWd, hst, hf1, hf2⟩ := F
  intro H locs cells slots hI hS hc hs
  unfold ip_iald at h9
  split at h9
  · rename_i j a r
    split at h9
    · rename_i t n hsh
      obtain ⟨⟨hor, hjn⟩, h8⟩ := ip_if h9
      cases h8
      rcases hor with ⟨rfl, ha2⟩ | ⟨rfl, rfl⟩
      · exact va_iald hx hb hWd.1 (ip_P1 (hI.1 a _ n hsh ha2)) 0 0 rfl rfl hjn hd (K H locs cells slots hI hS hc hs)
      · have h5 := hI.2.2.2.2.1
        rw [h5] at hsh
        cases hsh
        have hbl : G.2.1 < s.heap.size := by have := hWd.2.1.2; have := hWd.2.2.2.2.2.2.2.2.2.2.2.2.2; omega
        have hlt : j.toNatClampNeg < ip_xL G := Nat.not_le.mp fun q => hjn (Or.inr q)
        have K' := K H locs cells slots hI hS hc hs
        rw [hI.2.2.2.2.2.2.1 _ hlt] at K'
        exact va_sld (A := ip_A G) hx hb hWd.2.1.1 hbl (by have := hWd.2.1.2; unfold ip_A; omega) hS hjn hd K'
    · cases h9
  · cases h9
theorem ip_zald_ok (F : ip_Fr G p l R s mid args meth c m d) (hd : decode (ip_code m) pc = .ok (.baload, 1)) (h9 : ip_zald st h = some (st', h')) (K : ip_Nx G p l e R s mid args below meth c Q n0 s0 (pc + 1) lsA st' h') : ip_Nx G p l e R s mid args below meth c Q n0 s0 pc lsA st h := by
  obtain ⟨hx, hb, hml, hr, hown, hts, hlk, hin, htb, hWd, hst, hf1, hf2⟩ := F
  intro H locs cells slots hI hS hc hs
  unfold ip_zald at h9
  split at h9
  · rename_i j a r
    split at h9
    · rename_i t n hsh
      obtain ⟨⟨⟨rfl, ha2⟩, hjn⟩, h8⟩ := ip_if h9
      cases h8
      exact va_zald hx hb hWd.1 (ip_P1 (hI.1 a _ n hsh ha2)) 0 2 rfl rfl hjn hd (K H locs cells slots hI hS hc hs)
    · cases h9
  · cases h9
theorem ip_lald_ok (F : ip_Fr G p l R s mid args meth c m d) (hd : decode (ip_code m) pc = .ok (.laload, 1)) (h9 : ip_lald st h = some (st', h')) (K : ip_Nx G p l e R s mid args below meth c Q n0 s0 (pc + 1) lsA st' h') : ip_Nx G p l e R s mid args below meth c Q n0 s0 pc lsA st h := by
  obtain ⟨hx, hb, hml, hr, hown, hts, hlk, hin, htb, hWd, hst, hf1, hf2⟩ := F
  intro H locs cells slots hI hS hc hs
  unfold ip_lald at h9
  split at h9
  · rename_i j a r
    split at h9
    · rename_i t n hsh
      obtain ⟨⟨hor, hjn⟩, h8⟩ := ip_if h9
      cases h8
      rcases hor with ⟨rfl, ha2⟩ | ⟨rfl, rfl⟩
      · exact va_lald hx hb hWd.1 (ip_P1 (hI.1 a _ n hsh ha2)) 0 1 rfl rfl hjn hd (K H locs cells slots hI hS hc hs)
      · have h5 := hI.2.2.2.2.2.1
        rw [h5] at hsh
        cases hsh
        have hlt : j.toNatClampNeg < 6 := Nat.not_le.mp fun q => hjn (Or.inr q)
        have K' := K H locs cells slots hI hS hc hs
        rw [hI.2.2.2.2.2.2.2 _ hlt] at K'
        exact va_tl hx hb hWd.2.2.1 hS hjn rfl hd K'
    · cases h9
  · cases h9
theorem ip_rf_v (o : Option Nat) : ip_v (ip_ad G) (ip_rf o) = va_rf (o.map (ip_ad G)) := by cases o <;> rfl
theorem ip_aald_ok (F : ip_Fr G p l R s mid args meth c m d) (hd : decode (ip_code m) pc = .ok (.aaload, 1)) (h9 : ip_aald st h = some (st', h')) (K : ip_Nx G p l e R s mid args below meth c Q n0 s0 (pc + 1) lsA st' h') : ip_Nx G p l e R s mid args below meth c Q n0 s0 pc lsA st h := by
  obtain ⟨hx, hb, hml, hr, hown, hts, hlk, hin, htb, hWd, hst, hf1, hf2⟩ := F
  intro H locs cells slots hI hS hc hs
  unfold ip_aald at h9
  split at h9
  · rename_i j a r
    split at h9
    · rename_i t n hsh
      obtain ⟨⟨⟨rfl, ha2⟩, hjn⟩, h8⟩ := ip_if h9
      cases h8
      have K' := K H locs cells slots hI hS hc hs
      rw [List.map_cons, ip_rf_v] at K'
      exact va_aldq hx hb hWd.1 (ip_P1 (hI.1 a _ n hsh ha2)) 0 3 rfl rfl hjn hd K'
    · cases h9
  · cases h9
theorem ip_iast_ok (F : ip_Fr G p l R s mid args meth c m d) (hd : decode (ip_code m) pc = .ok (.iastore, 1)) (h9 : ip_iast st h = some (st', h')) (K : ip_Nx G p l e R s mid args below meth c Q n0 s0 (pc + 1) lsA st' h') : ip_Nx G p l e R s mid args below meth c Q n0 s0 pc lsA st h := by
  obtain ⟨hx, hb, hml, hr, hown, hts, hlk, hin, htb, hWd, hst, hf1, hf2⟩ := F
  intro H locs cells slots hI hS hc hs
  unfold ip_iast at h9
  split at h9
  · rename_i x j a r
    split at h9
    · rename_i t n hsh
      obtain ⟨⟨⟨rfl, ha2⟩, hjn⟩, h8⟩ := ip_if h9
      cases h8
      have hat : H[ip_ad G a]? = some (arrV (ip_dA G 0) n (fun j => .int (h.2.1 a j))) := hI.1 a _ n hsh ha2
      refine W.iast hx hb hat ((hWd.1.2 0 _ rfl).1 n (fun j => .int (h.2.1 a j))) (fun q => by cases q) (by rw [arrV_size]; exact hjn) rfl rfl hd fun H1 e1 z oq => ?_
      refine K H1 _ cells slots (ip_Inv_set hI hsh ha2 rfl (fun y hy => ip_up_ne hy) (fun _ _ => rfl) (fun _ _ => rfl) id ?_ z oq) (hS.put z oq (ip_adA hI hsh ha2)) hc hs
      show H1[ip_ad G a]? = some (arrV (ip_dA G 0) n (fun y => .int (ip_up h.2.1 a j.toNatClampNeg x a y)))
      rw [e1, arrV_store, ip_updf Value.int]
    · cases h9
  · cases h9
theorem ip_zast_ok (F : ip_Fr G p l R s mid args meth c m d) (hd : decode (ip_code m) pc = .ok (.bastore, 1)) (h9 : ip_zast st h = some (st', h')) (K : ip_Nx G p l e R s mid args below meth c Q n0 s0 (pc + 1) lsA st' h') : ip_Nx G p l e R s mid args below meth c Q n0 s0 pc lsA st h := by
  obtain ⟨hx, hb, hml, hr, hown, hts, hlk, hin, htb, hWd, hst, hf1, hf2⟩ := F
  intro H locs cells slots hI hS hc hs
  unfold ip_zast at h9
  split at h9
  · rename_i x j a r
    split at h9
    · rename_i t n hsh
      obtain ⟨⟨⟨rfl, ha2⟩, hjn, hx01⟩, h8⟩ := ip_if h9
      cases h8
      have hat : H[ip_ad G a]? = some (arrV (ip_dA G 2) n (fun j => .int (h.2.1 a j))) := hI.1 a _ n hsh ha2
      have hnar : narrow .boolean (.int x) = .int x := by rcases hx01 with rfl | rfl <;> rfl
      refine W.zast hx hb hat ((hWd.1.2 2 _ rfl).1 n (fun j => .int (h.2.1 a j))) (fun q => by cases q) (by rw [arrV_size]; exact hjn) rfl rfl hd fun H1 e1 z oq => ?_
      refine K H1 _ cells slots (ip_Inv_set hI hsh ha2 rfl (fun y hy => ip_up_ne hy) (fun _ _ => rfl) (fun _ _ => rfl) id ?_ z oq) (hS.put z oq (ip_adA hI hsh ha2)) hc hs
      show H1[ip_ad G a]? = some (arrV (ip_dA G 2) n (fun y => .int (ip_up h.2.1 a j.toNatClampNeg x a y)))
      rw [e1, hnar, arrV_store, ip_updf Value.int]
    · cases h9
  · cases h9
theorem ip_last_ok (F : ip_Fr G p l R s mid args meth c m d) (hd : decode (ip_code m) pc = .ok (.lastore, 1)) (h9 : ip_last st h = some (st', h')) (K : ip_Nx G p l e R s mid args below meth c Q n0 s0 (pc + 1) lsA st' h') : ip_Nx G p l e R s mid args below meth c Q n0 s0 pc lsA st h := by
  obtain ⟨hx, hb, hml, hr, hown, hts, hlk, hin, htb, hWd, hst, hf1, hf2⟩ := F
  intro H locs cells slots hI hS hc hs
  unfold ip_last at h9
  split at h9
  · rename_i x j a r
    split at h9
    · rename_i t n hsh
      obtain ⟨⟨⟨rfl, ha2⟩, hjn⟩, h8⟩ := ip_if h9
      cases h8
      have hat : H[ip_ad G a]? = some (arrV (ip_dA G 1) n (fun j => .long (h.2.2.1 a j))) := hI.1 a _ n hsh ha2
      refine W.last hx hb hat ((hWd.1.2 1 _ rfl).1 n (fun j => .long (h.2.2.1 a j))) (fun q => by cases q) (by rw [arrV_size]; exact hjn) rfl rfl hd fun H1 e1 z oq => ?_
      refine K H1 _ cells slots (ip_Inv_set hI hsh ha2 rfl (fun _ _ => rfl) (fun y hy => ip_up_ne hy) (fun _ _ => rfl) id ?_ z oq) (hS.put z oq (ip_adA hI hsh ha2)) hc hs
      show H1[ip_ad G a]? = some (arrV (ip_dA G 1) n (fun y => .long (ip_up h.2.2.1 a j.toNatClampNeg x a y)))
      rw [e1, arrV_store, ip_updf Value.long]
    · cases h9
  · cases h9
theorem ip_aast_ok (F : ip_Fr G p l R s mid args meth c m d) (hd : decode (ip_code m) pc = .ok (.aastore, 1)) (h9 : ip_aast st h = some (st', h')) (K : ip_Nx G p l e R s mid args below meth c Q n0 s0 (pc + 1) lsA st' h') : ip_Nx G p l e R s mid args below meth c Q n0 s0 pc lsA st h := by
  obtain ⟨hx, hb, hml, hr, hown, hts, hlk, hin, htb, hWd, hst, hf1, hf2⟩ := F
  intro H locs cells slots hI hS hc hs
  unfold ip_aast at h9
  split at h9
  · rename_i b j a r
    split at h9
    · rename_i t n u k hsh hsb
      obtain ⟨⟨⟨rfl, ha2⟩, ⟨rfl, hb2⟩, hjn⟩, h8⟩ := ip_if h9
      cases h8
      have hat : H[ip_ad G a]? = some (arrV (ip_dA G 3) n (fun j => va_rf ((h.2.2.2.1 a j).map (ip_ad G)))) := hI.1 a _ n hsh ha2
      have hbt := hI.1 b _ k hsb hb2
      rw [ip_e_obj (by decide)] at hbt
      obtain ⟨r9, hr9, cellV, g1, g2, g3, -⟩ := hbt
      have hcl : (ip_classes)[1]? = some (ip_cn.getD 1 "", ip_T 1, ip_nf 1) := ip_cls_at (by decide)
      have hcls := (hWd.1.1 1 _ hcl).2
      obtain ⟨kA, comp, k1, k2, k3, -⟩ := (hWd.1.2 3 _ rfl).2
      have hcomp : comp = (ip_D G).1 1 := Option.some.inj (k3.symm.trans hcls.1)
      subst hcomp
      obtain ⟨kC, hkC, hkk⟩ := hcls.2
      have hlt : j.toNatClampNeg < n := Nat.not_le.mp fun q => hjn (Or.inr q)
      refine W.aast hx hb hat (fun q h => by cases h) (fun h => by cases h) k1 k2 rfl hkC ⟨fun q => hjn (Or.inl q), by rw [arrV_size]; exact hlt⟩ g1 (fun q h => by rw [g3] at h; cases h) (by rw [g2]; exact hkC) (by rw [g2]; exact va_assign hcls) rfl rfl hd fun H1 e1 z oq => ?_
      refine K H1 _ cells slots (ip_Inv_set hI hsh ha2 rfl (fun _ _ => rfl) (fun _ _ => rfl) (fun y hy => ip_up_ne hy) id ?_ z oq) (hS.put z oq (ip_adA hI hsh ha2)) hc hs
      show H1[ip_ad G a]? = some (arrV (ip_dA G 3) n (fun y => va_rf ((ip_up h.2.2.2.1 a j.toNatClampNeg (some b) a y).map (ip_ad G))))
      rw [e1, arrV_store]
      exact congrArg (fun z => some (arrV (ip_dA G 3) n z)) (ip_updf (fun o : Option Nat => va_rf (o.map (ip_ad G))) h.2.2.2.1 a j.toNatClampNeg (some b))
    · cases h9
  · cases h9
theorem ip_alen_ok (F : ip_Fr G p l R s mid args meth c m d) (hd : decode (ip_code m) pc = .ok (.arraylength, 1)) (h9 : ip_alen st h = some (st', h')) (K : ip_Nx G p l e R s mid args below meth c Q n0 s0 (pc + 1) lsA st' h') : ip_Nx G p l e R s mid args below meth c Q n0 s0 pc lsA st h := by
  obtain ⟨hx, hb, hml, hr, hown, hts, hlk, hin, htb, hWd, hst, hf1, hf2⟩ := F
  intro H locs cells slots hI hS hc hs
  unfold ip_alen at h9
  split at h9
  · rename_i a r
    split at h9
    · rename_i t n hsh
      obtain ⟨hor, h8⟩ := ip_if h9
      cases h8
      rcases hor with ⟨ht, ha2⟩ | ⟨rfl, rfl⟩
      · rcases ht with rfl | rfl | rfl | rfl
        · exact va_alen hx hb hWd.1 (ip_P1 (hI.1 a _ n hsh ha2)) 0 0 rfl rfl rfl hd (K H locs cells slots hI hS hc hs)
        · exact va_alen hx hb hWd.1 (ip_P1 (hI.1 a _ n hsh ha2)) 0 1 rfl rfl rfl hd (K H locs cells slots hI hS hc hs)
        · exact va_alen hx hb hWd.1 (ip_P1 (hI.1 a _ n hsh ha2)) 0 2 rfl rfl rfl hd (K H locs cells slots hI hS hc hs)
        · exact va_alen hx hb hWd.1 (ip_P1 (hI.1 a _ n hsh ha2)) 0 3 rfl rfl rfl hd (K H locs cells slots hI hS hc hs)
      · have h5 := hI.2.2.2.2.1
        rw [h5] at hsh
        cases hsh
        have hbl : G.2.1 < s.heap.size := by have := hWd.2.1.2; have := hWd.2.2.2.2.2.2.2.2.2.2.2.2.2; omega
        have hbA : ¬ ip_A G G.2.1 := by have := hWd.2.1.2; unfold ip_A; omega
        exact va_slen (A := ip_A G) (b := G.2.1) hx hb hWd.2.1.1 hbl hbA hS hd (K H locs cells slots hI hS hc hs)
    · cases h9
  · cases h9
/-- a new cell behind all others -/
theorem ip_Inv_mk {H H1 : Heap} {t n : Nat} (hI : ip_Inv G h H) (hx : h.2.2.2.2.2.2 = false) (hl : h.1.length < 600000) (z : H1.size = H.size + 1) (oq : ∀ q : Nat, q < H.size → H1[q]? = H[q]?) (hat : va_at (ip_D G) ip_classes (H.size, ip_e G (ip_mk t n h) h.1.length t n) H1) : ip_Inv G (ip_mk t n h) H1 := by
  obtain ⟨i1, i2, i3, i4, i5, i6, i7, i8⟩ := hI
  have hz := i2 hx
  have hlen : (ip_mk t n h).1.length = h.1.length + 1 := by simp [ip_mk]
  refine ⟨fun x u k hxs hx2 => ?_, fun _ => by rw [z, hlen]; omega, by omega, by omega, ?_, ?_, fun j hj => ?_, fun j hj => ?_⟩
  · by_cases hxl : x < h.1.length
    · have hxs' : h.1[x]? = some (u, k) := by
        have : (h.1 ++ [(t, n)])[x]? = some (u, k) := hxs
        rw [List.getElem?_append_left hxl] at this
        exact this
      rw [ip_e_row (h := h) (ip_row_ne (by omega)) (ip_row_ne (by omega)) (ip_row_ne (by omega))]
      have h1 := i1 x u k hxs' hx2
      exact h1.kept (oq _ h1.lt)
    · have hxs' : (h.1 ++ [(t, n)])[x]? = some (u, k) := hxs
      rw [List.getElem?_append_right (by omega)] at hxs'
      have hz1 : x - h.1.length < 1 := (List.getElem?_eq_some_iff.mp hxs').1
      have hxe : x = h.1.length := by omega
      subst hxe
      rw [Nat.sub_self] at hxs'
      cases hxs'
      rw [ip_ad_cell hx2 (by omega), ← hz]
      exact hat
  · show (h.1 ++ [(t, n)])[0]? = _
    rw [List.getElem?_append_left (by omega)]; exact i5
  · show (h.1 ++ [(t, n)])[1]? = _
    rw [List.getElem?_append_left (by omega)]; exact i6
  · have e : (ip_mk t n h).2.1 0 = h.2.1 0 := ip_row_ne (by omega)
    rw [e]; exact i7 j hj
  · have e : (ip_mk t n h).2.2.1 1 = h.2.2.1 1 := ip_row_ne (by omega)
    rw [e]; exact i8 j hj
theorem ip_ad_end {H : Heap} (hI : ip_Inv G h H) (hx : h.2.2.2.2.2.2 = false) (hl : h.1.length < 600000) : ip_ad G h.1.length = H.size := by
  rw [ip_ad_cell hI.2.2.1 (by omega), hI.2.1 hx]
theorem ip_S_new {H H1 : Heap} {locs : List Loc} (hS : va_S (ip_A G) s.heap H locs) (z : H1.size = H.size + 1) (oq : ∀ q : Nat, q < H.size → H1[q]? = H[q]?) : va_S (ip_A G) s.heap H1 locs :=
  ⟨Nat.le_trans hS.1 (by omega), fun x h1 h2 => (oq x (Nat.lt_of_lt_of_le h1 hS.1)).trans (hS.2.1 x h1 h2), hS.2.2⟩
theorem ip_new_ok (F : ip_Fr G p l R s mid args meth c m d) {idx : Nat} (hd : decode (ip_code m) pc = .ok (.new idx, 3)) (h9 : ip_new (ip_own m) idx st h = some (st', h')) (hRc : h'.2.2.2.2.1 ≤ R.cells + n0) (hRs : h'.2.2.2.2.2.1 ≤ R.slots + s0) (K : ip_Nx G p l e R s mid args below meth c Q n0 s0 (pc + 3) lsA st' h') : ip_Nx G p l e R s mid args below meth c Q n0 s0 pc lsA st h := by
  obtain ⟨hx, hb, hml, hr, hown, hts, hlk, hin, htb, hWd, hst, hf1, hf2⟩ := F
  intro H locs cells slots hI hS hc hs
  unfold ip_new at h9
  split at h9
  · rename_i ci hk
    obtain ⟨⟨hnx, hl⟩, h8⟩ := ip_if h9
    cases h8
    obtain ⟨hci, hlink, hins, hini⟩ := ip_kls_ok hk
    have hKn := hWd.1.1 ci _ (ip_cls_at hci)
    have e1 : h.2.2.2.2.1 + 1 ≤ R.cells + n0 := hRc
    have e2 : h.2.2.2.2.2.1 + ip_nf ci ≤ R.slots + s0 := hRs
    refine W.newcK hx hb hown (hts _ hlink) (hts _ hins) (hts _ hini) rfl hd (by omega) (by omega) hKn.2.1 rfl fun H1 kC hkC f1 z oq => ?_
    have K' := K H1 locs (cells + 1) (slots + ip_nf ci) (ip_Inv_mk hI hnx hl z oq ?_) (ip_S_new hS z oq) (by show _ = h.2.2.2.2.1 + 1; omega) (by show _ = h.2.2.2.2.2.1 + ip_nf ci; omega)
    · rw [List.map_cons, show ip_v (ip_ad G) (.ref h.1.length) = .ref H.size by show Value.ref (ip_ad G h.1.length) = _; rw [ip_ad_end hI hnx hl]] at K'
      exact K'
    · rw [ip_e_obj hci]
      refine ⟨_, ip_cls_at hci, (u_born (ip_fty ci) hts (ip_lay_in hci) hKn hkC f1 (fun _ z => ip_fty_p hci z)).to (fun j hj => ?_)⟩
      unfold vp_V
      rw [List.getD_eq_getElem?_getD, ip_rg hj]
      have hty := ip_fty_ok hci hj
      unfold ip_fty_c at hty
      rw [Bool.and_eq_true] at hty
      have hty := hty.2
      show defaultValue (ip_fty ci j) = ip_v (ip_ad G) (ip_rd (ip_mk ci (ip_nf ci) h) ci h.1.length j)
      unfold ip_rd ip_mk
      dsimp only
      rw [ip_row_eq, ip_row_eq, ip_row_eq]
      split at hty
      · rename_i q; rw [of_decide_eq_true hty, q]; rfl
      · rename_i q; rw [of_decide_eq_true hty, q]; rfl
      · rename_i q; rw [of_decide_eq_true hty, q]; rfl
      · rename_i q
        rw [q]
        cases hz : ip_fty ci j with
        | object C => rfl
        | array t => rfl
        | _ => rw [hz] at hty; exact nomatch hty
      · cases hty
  · cases h9
end IPR
