/-! THE PICTURE MACHINE, 5: the machine's heap holds a picture. ip_G: where our cells begin, the script's cell, the static array's cell, the texts' cells and their byte arrays, class numbers, slots, array classes, the script's length and values. -/
abbrev ip_G : Type := Nat × Nat × Nat × (Nat → Nat) × (Nat → Nat) × (Nat → ClassId) × (Nat → Nat → Nat) × (Nat → ClassId) × Nat × (Nat → Int32)
def ip_ad (G : ip_G) (k : Nat) : Nat := if k = 0 then G.2.1 else if k = 1 then G.2.2.1 else if k < 1000000000 then G.1 + (k - 2) else G.2.2.2.1 (k - 1000000000)
abbrev ip_D (G : ip_G) : va_G := (G.2.2.2.2.2.1, G.2.2.2.2.2.2.1)
def ip_dA (G : ip_G) (t : Nat) : ClassId := G.2.2.2.2.2.2.2.1 t
abbrev ip_xL (G : ip_G) : Nat := G.2.2.2.2.2.2.2.2.1
abbrev ip_xs (G : ip_G) : Nat → Int32 := G.2.2.2.2.2.2.2.2.2
def ip_tys (G : ip_G) : List (ClassId × FieldType) := [(ip_dA G 0, .int), (ip_dA G 1, .long), (ip_dA G 2, .boolean), (ip_dA G 3, .object "RemandTree$Node")]
def ip_A (G : ip_G) : Nat → Prop := fun q => G.1 ≤ q
def ip_nm (j : Nat) : Int64 := ([-6148914691236517206, -3689348814741910324, -1085102592571150096, -71777214294589696, -281470681808896, -4294967296] : List Int64).getD j 0
/-- the cell at a place -/
def ip_e (G : ip_G) (h : ip_H) (a t n : Nat) : va_E :=
  if t < 9 then .inr (t, (List.range (ip_nf t)).map (fun k => ip_v (ip_ad G) (ip_rd h t a k)))
  else if t = 101 then .inl (ip_dA G 1, n, .inr (.inl (h.2.2.1 a)))
  else if t = 102 then .inl (ip_dA G 2, n, .inl (h.2.1 a))
  else if t = 103 then .inl (ip_dA G 3, n, .inr (.inr (.inr (.inr (fun j => (h.2.2.2.1 a j).map (ip_ad G))))))
  else .inl (ip_dA G 0, n, .inl (h.2.1 a))
def ip_Inv (G : ip_G) (h : ip_H) (H : Heap) : Prop :=
  (∀ a t n, h.1[a]? = some (t, n) → 2 ≤ a → va_at (ip_D G) ip_classes (ip_ad G a, ip_e G h a t n) H) ∧
  (h.2.2.2.2.2.2 = false → H.size = G.1 + (h.1.length - 2)) ∧ 2 ≤ h.1.length ∧ h.1.length ≤ 600000 ∧
  h.1[0]? = some (105, ip_xL G) ∧ h.1[1]? = some (106, 6) ∧ (∀ j, j < ip_xL G → h.2.1 0 j = ip_xs G j) ∧ ∀ j, j < 6 → h.2.2.1 1 j = ip_nm j
theorem ip_ad_cell {G : ip_G} {a : Nat} (h2 : 2 ≤ a) (h : a < 1000000000) : ip_ad G a = G.1 + (a - 2) := by
  unfold ip_ad
  rw [if_neg (by omega), if_neg (by omega), if_pos h]
theorem ip_ad_ne {G : ip_G} {a b : Nat} (ha : 2 ≤ a) (ha' : a < 1000000000) (hb : 2 ≤ b) (hb' : b < 1000000000) (h : a ≠ b) : ip_ad G a ≠ ip_ad G b := by
  rw [ip_ad_cell ha ha', ip_ad_cell hb hb']
  omega
theorem ip_e_row {G : ip_G} {h h' : ip_H} {a t n : Nat} (h1 : h'.2.1 a = h.2.1 a) (h2 : h'.2.2.1 a = h.2.2.1 a) (h3 : h'.2.2.2.1 a = h.2.2.2.1 a) : ip_e G h' a t n = ip_e G h a t n := by
  have hr : ∀ k, ip_rd h' t a k = ip_rd h t a k := fun k => by unfold ip_rd; rw [h1, h2, h3]
  unfold ip_e
  simp only [hr, h1, h2, h3]
theorem ip_sh_lt {h : ip_H} {a t n : Nat} (hs : h.1[a]? = some (t, n)) : a < h.1.length := (List.getElem?_eq_some_iff.mp hs).1
/-- one cell has changed, as the picture says -/
theorem ip_Inv_set {G : ip_G} {h h' : ip_H} {H H1 : Heap} {a t n : Nat} (hI : ip_Inv G h H) (hs : h.1[a]? = some (t, n)) (ha : 2 ≤ a) (e1 : h'.1 = h.1) (eI : ∀ x, x ≠ a → h'.2.1 x = h.2.1 x) (eL : ∀ x, x ≠ a → h'.2.2.1 x = h.2.2.1 x) (eR : ∀ x, x ≠ a → h'.2.2.2.1 x = h.2.2.2.1 x)
    (hx : h'.2.2.2.2.2.2 = false → h.2.2.2.2.2.2 = false) (hat : va_at (ip_D G) ip_classes (ip_ad G a, ip_e G h' a t n) H1) (z : H1.size = H.size) (oq : ∀ q : Nat, q ≠ ip_ad G a → H1[q]? = H[q]?) : ip_Inv G h' H1 := by
  obtain ⟨i1, i2, i3, i4, i5, i6, i7, i8⟩ := hI
  have hal := ip_sh_lt hs
  refine ⟨fun x u k hxs hx2 => ?_, fun q => by rw [z, e1]; exact i2 (hx q), by rw [e1]; exact i3, by rw [e1]; exact i4, by rw [e1]; exact i5, by rw [e1]; exact i6, fun j hj => by rw [eI 0 (by omega)]; exact i7 j hj, fun j hj => by rw [eL 1 (by omega)]; exact i8 j hj⟩
  rw [e1] at hxs
  by_cases hxa : x = a
  · subst hxa
    rw [hs] at hxs
    cases hxs
    exact hat
  · have hxl := ip_sh_lt hxs
    rw [ip_e_row (eI x hxa) (eL x hxa) (eR x hxa)]
    exact (i1 x u k hxs hx2).kept (oq _ (ip_ad_ne hx2 (by omega) ha (by omega) hxa))
theorem ip_up_ne {α : Type} {f : Nat → Nat → α} {a k x : Nat} {v : α} (h : x ≠ a) : ip_up f a k v x = f x := by
  funext j
  unfold ip_up
  rw [if_neg h]
theorem ip_up_row {α : Type} {f : Nat → Nat → α} {a k j : Nat} {v : α} : ip_up f a k v a j = if j = k then v else f a j := by
  unfold ip_up
  rw [if_pos rfl]
theorem ip_row_ne {α : Type} {f : Nat → Nat → α} {a x : Nat} {g : Nat → α} (h : x ≠ a) : ip_row f a g x = f x := by
  funext j
  unfold ip_row
  rw [if_neg h]
theorem ip_row_eq {α : Type} {f : Nat → Nat → α} {a : Nat} {g : Nat → α} : ip_row f a g a = g := by
  funext j
  unfold ip_row
  rw [if_pos rfl]
theorem ip_P1 {D : va_G} {cl : List vw_C} {q : Nat × va_E} {H : Heap} (h : va_at D cl q H) : va_P D cl [q] H := by
  intro k x hk
  cases k with
  | zero => cases hk; exact h
  | succ k => cases hk
/-! what the tables give -/
theorem ip_find_ok {α : Type} {l : List α} {f : α → Bool} {e : α} {P : α → Bool} (h : l.find? f = some e) (hP : l.all P = true) : f e = true ∧ P e = true := ⟨List.find?_some h, List.all_eq_true.mp hP e (List.mem_of_find?_eq_some h)⟩
theorem ip_fld_ok {own idx ci k : Nat} (h : ip_fld own idx = some (ci, k)) : ci < 9 ∧ k < ip_nf ci ∧ Cond.fieldLink (ip_cn.getD own "") idx (ip_T ci k).1 (ip_T ci k).2.1 (ip_T ci k).2.2.1 ∈ ip_tbl := by
  unfold ip_fld at h
  obtain ⟨⟨o, i, c, k', pl⟩, he, e2⟩ := ip_map_ok h
  cases e2
  obtain ⟨h1, h2⟩ := ip_find_ok he ip_fl_ok
  simp only [Bool.and_eq_true, beq_iff_eq] at h1
  obtain ⟨rfl, rfl⟩ := h1
  simp only [ip_fl_c, Bool.and_eq_true, decide_eq_true_eq] at h2
  exact ⟨h2.1.1, h2.1.2, ip_at_in h2.2⟩
theorem ip_kls_ok {own idx ci : Nat} (h : ip_kls own idx = some ci) : ci < 9 ∧ Cond.classLink (ip_cn.getD own "") idx (ip_cn.getD ci "") ∈ ip_tbl ∧ Cond.instantiable (ip_cn.getD ci "") (ip_nf ci) ∈ ip_tbl ∧ Cond.initialized (ip_cn.getD ci "") ∈ ip_tbl := by
  unfold ip_kls at h
  obtain ⟨⟨o, i, c, p1, p2, p3⟩, he, e2⟩ := ip_map_ok h
  cases e2
  obtain ⟨h1, h2⟩ := ip_find_ok he ip_kl_ok
  simp only [Bool.and_eq_true, beq_iff_eq] at h1
  obtain ⟨rfl, rfl⟩ := h1
  simp only [ip_kl_c, Bool.and_eq_true, decide_eq_true_eq] at h2
  exact ⟨h2.1.1.1, ip_at_in h2.1.1.2, ip_at_in h2.1.2, ip_at_in h2.2⟩
theorem ip_kin_ok {own idx : Nat} {v : Int32} (h : ip_kin own idx = some v) : Cond.constant (ip_cn.getD own "") idx v ∈ ip_tbl := by
  unfold ip_kin at h
  obtain ⟨⟨o, i, c, p1⟩, he, e2⟩ := ip_map_ok h
  cases e2
  obtain ⟨h1, h2⟩ := ip_find_ok he ip_ki_ok
  simp only [Bool.and_eq_true, beq_iff_eq] at h1
  obtain ⟨rfl, rfl⟩ := h1
  exact ip_at_in h2
theorem ip_kjn_ok {own idx : Nat} {v : Int64} (h : ip_kjn own idx = some v) : Cond.constantLong (ip_cn.getD own "") idx v ∈ ip_tbl := by
  unfold ip_kjn at h
  obtain ⟨⟨o, i, c, p1⟩, he, e2⟩ := ip_map_ok h
  cases e2
  obtain ⟨h1, h2⟩ := ip_find_ok he ip_kj_ok
  simp only [Bool.and_eq_true, beq_iff_eq] at h1
  obtain ⟨rfl, rfl⟩ := h1
  exact ip_at_in h2
theorem ip_spc_ok {own idx k : Nat} (h : ip_spc own idx = some k) : Cond.methodLink (ip_cn.getD own "") idx (ip_sp_w k) ∈ ip_tbl := by
  unfold ip_spc at h
  obtain ⟨⟨o, i, c, p1⟩, he, e2⟩ := ip_map_ok h
  cases e2
  obtain ⟨h1, h2⟩ := ip_find_ok he ip_sp_ok
  simp only [Bool.and_eq_true, beq_iff_eq] at h1 h2
  obtain ⟨rfl, rfl⟩ := h1
  exact ip_at_in h2.1
theorem ip_str_lt {own idx i : Nat} (h : ip_str own idx = some i) : i < 39 := by
  unfold ip_str at h
  obtain ⟨⟨o, x, c, p1⟩, he, e2⟩ := ip_map_ok h
  cases e2
  obtain ⟨h1, h2⟩ := ip_find_ok he ip_sl_ok
  simp only [Bool.and_eq_true, decide_eq_true_eq] at h2
  exact h2.2
theorem ip_cls_at {ci : Nat} (h : ci < 9) : ip_classes[ci]? = some (ip_cn.getD ci "", ip_T ci, ip_nf ci) := by
  unfold ip_classes
  rw [List.getElem?_map, List.getElem?_range h]
  rfl
theorem ip_lay_in {ci : Nat} (h : ci < 9) : ∀ w ∈ u_ws (ip_cn.getD ci "") (ip_T ci) (ip_nf ci), w ∈ ip_tbl := by
  intro w hw
  obtain ⟨k, hk, rfl⟩ := List.mem_map.mp hw
  have h1 := List.all_eq_true.mp ip_LP_ok ci (List.mem_range.mpr h)
  exact ip_at_in (List.all_eq_true.mp h1 k hk)
/-- descriptors by their kinds -/
def ip_fty (ci k : Nat) : FieldType := (parseFieldDescriptor (ip_T ci k).2.2.1).getD .int
def ip_fty_c (ci k : Nat) : Bool := decide (parseFieldDescriptor (ip_T ci k).2.2.1 = some (ip_fty ci k)) && (match ip_ft ci k with
  | 0 => decide (ip_fty ci k = .int)
  | 1 => decide (ip_fty ci k = .boolean)
  | 2 => decide (ip_fty ci k = .long)
  | 3 => (ip_fty ci k).isReference
  | _ => false)
set_option maxRecDepth 100000 in
theorem ip_fty_ok0 : (List.range 9).all (fun ci => (List.range (ip_nf ci)).all (ip_fty_c ci)) = true := by decide +kernel
theorem ip_fty_ok {ci k : Nat} (h : ci < 9) (hk : k < ip_nf ci) : ip_fty_c ci k = true := List.all_eq_true.mp (List.all_eq_true.mp ip_fty_ok0 ci (List.mem_range.mpr h)) k (List.mem_range.mpr hk)
theorem ip_fty_p {ci k : Nat} (h : ci < 9) (hk : k < ip_nf ci) : parseFieldDescriptor (ip_T ci k).2.2.1 = some (ip_fty ci k) := by
  have h1 := ip_fty_ok h hk
  simp only [ip_fty_c, Bool.and_eq_true, decide_eq_true_eq] at h1
  exact h1.1
set_option maxRecDepth 100000 in
theorem ip_nm_ok0 : (List.range 9).all (fun ci => (List.range (ip_nf ci)).all (fun a => (List.range (ip_nf ci)).all (fun b => decide (a = b) || decide ((ip_T ci a).2.1 ≠ (ip_T ci b).2.1)))) = true := by decide +kernel
theorem ip_nm_ok {ci : Nat} (h : ci < 9) : ∀ a, a < ip_nf ci → ∀ b, b < ip_nf ci → a ≠ b → (ip_T ci a).2.1 ≠ (ip_T ci b).2.1 := by
  intro a ha b hb hne
  have h1 := List.all_eq_true.mp (List.all_eq_true.mp (List.all_eq_true.mp ip_nm_ok0 ci (List.mem_range.mpr h)) a (List.mem_range.mpr ha)) b (List.mem_range.mpr hb)
  simp only [Bool.or_eq_true, decide_eq_true_eq] at h1
  exact h1.resolve_left hne
theorem ip_T_cls {ci k : Nat} : (ip_T ci k).1 = ip_cn.getD ci "" := rfl
