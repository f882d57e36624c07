/-! THE PICTURE MACHINE, 7: what reads and writes the heap -/
section IPH
variable {G : ip_G} {p : Program} {l : Launch} {e : Env} {R : Room} {s : State} {mid : MethodId} {args : Array Value} {below : List Frame} {meth : Method} {c : Code} {Q : State → Prop} {m d n0 s0 : Nat}
/-- from every heap that holds the picture: the machine goes on from here to Q -/
def ip_Nx (G : ip_G) (p : Program) (l : Launch) (e : Env) (R : Room) (s : State) (mid : MethodId) (args : Array Value) (below : List Frame) (meth : Method) (c : Code) (Q : State → Prop) (n0 s0 pc : Nat) (lsA : Array Slot) (st : List Value) (h : ip_H) : Prop :=
  ∀ (H : Heap) (locs : List Loc) (cells slots : Nat), ip_Inv G h H → va_S (ip_A G) s.heap H locs → cells + n0 = h.2.2.2.2.1 → slots + s0 = h.2.2.2.2.2.1 → W p l e R s mid args below meth c H locs cells slots Q (F0 mid pc lsA (st.map (ip_v (ip_ad G))))
variable {pc : Nat} {lsA : Array Slot} {st st' : List Value} {h h' : ip_H}
theorem ip_e_obj {a ci n : Nat} (hci : ci < 9) : ip_e G h a ci n = .inr (ci, (List.range (ip_nf ci)).map (fun k => ip_v (ip_ad G) (ip_rd h ci a k))) := by
  unfold ip_e
  rw [if_pos hci]
theorem ip_rg {α : Type} {f : Nat → α} {n k : Nat} (h : k < n) : ((List.range n).map f)[k]? = some (f k) := by
  rw [List.getElem?_map, List.getElem?_range h]
  rfl
theorem ip_getf_ok (F : ip_Fr G p l R s mid args meth c m d) {idx : Nat} (hd : decode (ip_code m) pc = .ok (.getfield idx, 3)) (h9 : ip_getf (ip_own m) idx st h = some (st', h')) (K : ip_Nx G p l e R s mid args below meth c Q n0 s0 (pc + 3) lsA st' h') : ip_Nx G p l e R s mid args below meth c Q n0 s0 pc lsA st h := by
  obtain ⟨hx, hb, hml, hr, hown, hts, hlk, hin, htb, hWd, hst, hf1, hf2⟩ := F
  intro H locs cells slots hI hS hc hs
  unfold ip_getf at h9
  split at h9
  · rename_i a r ci k hf
    obtain ⟨hci, hk, hlink⟩ := ip_fld_ok hf
    split at h9
    · rename_i t n hsh
      obtain ⟨⟨rfl, ha2⟩, h9⟩ := ip_if h9
      cases h9
      have hat := hI.1 a _ n hsh ha2
      rw [ip_e_obj hci] at hat
      exact va_get (D := ip_D G) (cl := ip_classes) hx hb hts (ip_lay_in hci) hown hWd.1 (ip_P1 hat) 0 rfl (ip_cls_at hci) k hk (hts _ hlink) (fun _ z => z) (ip_rg hk) hd (K H locs cells slots hI hS hc hs)
    · cases h9
  · cases h9
/-- putfield into an object -/
theorem ip_put0 (F : ip_Fr G p l R s mid args meth c m d) {idx ci k : Nat} (hci : ci < 9) (hk : k < ip_nf ci) (hlink : Cond.fieldLink (ip_cn.getD (ip_own m) "") idx (ip_T ci k).1 (ip_T ci k).2.1 (ip_T ci k).2.2.1 ∈ ip_tbl) (hfin : (ip_T ci k).2.2.2 = true → (ip_y m).name = "<init>" ∧ ci = ip_own m) {v : Value} (hn : narrow (ip_fty ci k) v = v) (hf : fits (ip_fty ci k) v = true) {A : Nat} {V : Nat → Value} {H : Heap} (hat : t_OB A ((ip_D G).1 ci) (ip_nf ci) ((ip_D G).2 ci) H V) {rest : List Value} {locs : List Loc} {cells slots : Nat}
    (hd : decode (ip_code m) pc = .ok (.putfield idx, 3)) (kk : ∀ (H1 : Heap) (sl : Nat), t_OB A ((ip_D G).1 ci) (ip_nf ci) ((ip_D G).2 ci) H1 (updV V k v) → H1.size = H.size → (∀ q : Nat, q ≠ A → H1[q]? = H[q]?) → W p l e R s mid args below meth c H1 (locs ++ [⟨A, sl⟩]) cells slots Q (F0 mid (pc + 3) lsA rest)) : W p l e R s mid args below meth c H locs cells slots Q (F0 mid pc lsA (v :: .ref A :: rest)) := by
  obtain ⟨hx, hb, hml, hr, hown, hts, hlk, hin, htb, hWd, hst, hf1, hf2⟩ := F
  have hc9 := ip_cls_at hci
  have hap := va_apart (own := "") (D := ip_D G) (cl := ip_classes) (tys := ip_tys G) hts (ip_lay_in hci) (ip_fty ci) (fun _ z => ip_fty_p hci z) (ip_nm_ok hci) hWd.1 hc9
  obtain ⟨cell, q1, q2, q3, q4⟩ := hat
  obtain ⟨hS, hfc, kC, hkC, hkind⟩ := hWd.1.1 ci _ hc9
  obtain ⟨cf, kf, fi, f, hi, hsl⟩ := hS k hk
  have hlay := hts _ (ip_lay_in hci _ (u_in_lay hk))
  have hst1 := (u_facts hfc hkC (u_lays hts (ip_lay_in hci) hk) hi).1
  by_cases hq : (ip_T ci k).2.2.2 = true
  · obtain ⟨hi1, hi2⟩ := hfin hq
    subst hi2
    unfold u_lay at hlay
    rw [if_pos hq] at hlay
    have hcf : mid.cls = cf := by
      obtain ⟨_, _, c', _, _, _, -, -, hf', -, -, -, hown2, -⟩ := Cond.laysFinal_spec hlay
      have e1 : c' = cf := by have := hi.symm.trans hf'; simp at this; exact this.1.symm
      rw [← e1]; exact Option.some.inj (hown.symm.trans hown2)
    have h6 := u_fits hfc hkC hkind (Or.inr hlay) hi (ip_fty_p hci hk) hn hf
    refine W.putFinK hx hb hown (hts _ hlink) hi hst1 hcf (hin hi1) (by rw [q2]; exact h6) q1 q3 (by rw [hsl]; exact k2_hasslot (q4 k hk)) rfl rfl hd fun H' e1 e2 e3 => ?_
    rw [hsl] at e1 ⊢
    exact kk H' _ ⟨_, e1, q2, q3, t_set q4 hap hk v⟩ e2 e3
  · unfold u_lay at hlay
    rw [if_neg hq] at hlay
    have h6 := u_store hfc hkC hkind hlay hi (ip_fty_p hci hk) hn hf
    refine W.putK hx hb (f := f) ⟨hown, hts _ hlink, ⟨_, _, _, hi⟩, hst1⟩ (by rw [q2]; exact h6) q1 q3 (by rw [hsl]; exact k2_hasslot (q4 k hk)) rfl rfl hd fun H' e1 e2 e3 => ?_
    rw [hsl] at e1 ⊢
    exact kk H' _ ⟨_, e1, q2, q3, t_set q4 hap hk v⟩ e2 e3
/-- what a write into a field leaves -/
theorem ip_wr_ok {ci a k : Nat} {v : Value} (hci : ci < 9) (hk : k < ip_nf ci) (h9 : ip_wr h ci a k v = some h') : (narrow (ip_fty ci k) (ip_v (ip_ad G) v) = ip_v (ip_ad G) v ∧ fits (ip_fty ci k) (ip_v (ip_ad G) v) = true) ∧ h'.1 = h.1 ∧ h'.2.2.2.2 = h.2.2.2.2 ∧ (∀ x, x ≠ a → h'.2.1 x = h.2.1 x ∧ h'.2.2.1 x = h.2.2.1 x ∧ h'.2.2.2.1 x = h.2.2.2.1 x) ∧ ∀ j, ip_rd h' ci a j = if j = k then v else ip_rd h ci a j := by
  have hty := ip_fty_ok hci hk
  unfold ip_fty_c at hty
  rw [Bool.and_eq_true] at hty
  have hty := hty.2
  unfold ip_wr at h9
  split at h9
  · rename_i x h0
    rw [h0] at hty
    have e : ip_fty ci k = .int := of_decide_eq_true hty
    cases h9
    refine ⟨by rw [e]; exact ⟨rfl, rfl⟩, rfl, rfl, fun y hy => ⟨ip_up_ne hy, rfl, rfl⟩, fun j => ?_⟩
    unfold ip_rd
    dsimp only
    rw [ip_up_row]
    by_cases hj : j = k
    · subst hj
      rw [h0, if_pos rfl, if_pos rfl]
      rfl
    · rw [if_neg hj, if_neg hj]
  · rename_i x h0
    obtain ⟨hnar, h9⟩ := ip_if h9
    rw [h0] at hty
    have e : ip_fty ci k = .boolean := of_decide_eq_true hty
    cases h9
    refine ⟨by rw [e]; rcases hnar with rfl | rfl <;> exact ⟨rfl, rfl⟩, rfl, rfl, fun y hy => ⟨ip_up_ne hy, rfl, rfl⟩, fun j => ?_⟩
    unfold ip_rd
    dsimp only
    rw [ip_up_row]
    by_cases hj : j = k
    · subst hj
      rw [h0, if_pos rfl, if_pos rfl]
      rfl
    · rw [if_neg hj, if_neg hj]
  · rename_i x h0
    rw [h0] at hty
    have e : ip_fty ci k = .long := of_decide_eq_true hty
    cases h9
    refine ⟨by rw [e]; exact ⟨rfl, rfl⟩, rfl, rfl, fun y hy => ⟨rfl, ip_up_ne hy, rfl⟩, fun j => ?_⟩
    unfold ip_rd
    dsimp only
    rw [ip_up_row]
    by_cases hj : j = k
    · subst hj
      rw [h0, if_pos rfl, if_pos rfl]
      rfl
    · rw [if_neg hj, if_neg hj]
  · rename_i b h0
    rw [h0] at hty
    cases h9
    refine ⟨?_, rfl, rfl, fun y hy => ⟨rfl, rfl, ip_up_ne hy⟩, fun j => ?_⟩
    · cases hz : ip_fty ci k with
      | object C => exact ⟨rfl, rfl⟩
      | array t => exact ⟨rfl, rfl⟩
      | _ => rw [hz] at hty; exact nomatch hty
    · unfold ip_rd
      dsimp only
      rw [ip_up_row]
      by_cases hj : j = k
      · subst hj
        rw [h0, if_pos rfl, if_pos rfl]
        rfl
      · rw [if_neg hj, if_neg hj]
  · cases h9
theorem ip_putf_ok (F : ip_Fr G p l R s mid args meth c m d) {idx : Nat} (hd : decode (ip_code m) pc = .ok (.putfield idx, 3)) (h9 : ip_putf m (ip_own m) idx st h = some (st', h')) (K : ip_Nx G p l e R s mid args below meth c Q n0 s0 (pc + 3) lsA st' h') : ip_Nx G p l e R s mid args below meth c Q n0 s0 pc lsA st h := by
  intro H locs cells slots hI hS hc hs
  unfold ip_putf at h9
  split at h9
  · rename_i v a r ci k hf
    obtain ⟨hci, hk, hlink⟩ := ip_fld_ok hf
    split at h9
    · rename_i t n hsh
      obtain ⟨⟨rfl, ha2, hfin⟩, h9⟩ := ip_if h9
      obtain ⟨h2, hw, e2⟩ := ip_map_ok h9
      cases e2
      obtain ⟨⟨hn, hfit⟩, e1, e4, e5, e6⟩ := ip_wr_ok (G := G) hci hk hw
      have hat := hI.1 a _ n hsh ha2
      rw [ip_e_obj hci] at hat
      obtain ⟨q, hq1, hOB⟩ := hat
      cases Option.some.inj ((ip_cls_at hci).symm.trans hq1)
      refine ip_put0 F hci hk hlink hfin hn hfit hOB hd (fun H1 sl o1 z oq => ?_)
      refine K H1 _ cells slots (ip_Inv_set (n := n) hI hsh ha2 e1 (fun x hx => (e5 x hx).1) (fun x hx => (e5 x hx).2.1) (fun x hx => (e5 x hx).2.2) (fun q => by rw [e4] at q; exact q) ?_ z oq) (hS.put z oq ?_) (by rw [e4]; exact hc) (by rw [e4]; exact hs)
      · rw [ip_e_obj hci]
        refine ⟨_, ip_cls_at hci, o1.to (fun j hj => ?_)⟩
        unfold updV vp_V
        rw [List.getD_eq_getElem?_getD, List.getD_eq_getElem?_getD, ip_rg hj, ip_rg hj, e6 j]
        by_cases hjk : j = k
        · rw [if_pos hjk, if_pos hjk]; rfl
        · rw [if_neg hjk, if_neg hjk]
      · show G.1 ≤ ip_ad G a
        rw [ip_ad_cell ha2 (by have := ip_sh_lt hsh; have := hI.2.2.2.1; omega)]
        omega
    · cases h9
  · cases h9
end IPH
