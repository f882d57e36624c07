/-! THE PICTURE MACHINE, 16: a throw, a catch, a return -/
theorem ip_xi_a : Cond.initialized "java/lang/IllegalArgumentException" ∈ ip_tbl := ip_mem 1 19 rfl rfl
theorem ip_xi_i : Cond.initialized "java/lang/IndexOutOfBoundsException" ∈ ip_tbl := ip_mem 1 20 rfl rfl
theorem ip_xi_n : Cond.initialized "java/util/NoSuchElementException" ∈ ip_tbl := ip_mem 1 21 rfl rfl
theorem ip_xi_s : Cond.initialized "java/lang/IllegalStateException" ∈ ip_tbl := ip_mem 1 22 rfl rfl
theorem ip_exn_ok {own idx : Nat} {E : String} (h : ip_exn own idx = some E) : Cond.classLink (ip_cn.getD own "") idx E ∈ ip_tbl := by
  unfold ip_exn at h
  obtain ⟨⟨o, i, c, p1⟩, he, e2⟩ := ip_map_ok h
  cases e2
  obtain ⟨h1, h2⟩ := ip_find_ok he ip_ex_ok
  simp only [Bool.and_eq_true, beq_iff_eq] at h1
  obtain ⟨rfl, rfl⟩ := h1
  exact ip_at_in h2
theorem ip_ctn_ok {own idx : Nat} {E : String} (h : ip_ctn own idx = some E) : Cond.classLink (ip_cn.getD own "") idx E ∈ ip_tbl := by
  unfold ip_ctn at h
  obtain ⟨⟨o, i, c, p1⟩, he, e2⟩ := ip_map_ok h
  cases e2
  obtain ⟨h1, h2⟩ := ip_find_ok he ip_ct_ok
  simp only [Bool.and_eq_true, beq_iff_eq] at h1
  obtain ⟨rfl, rfl⟩ := h1
  exact ip_at_in h2
/-- the heap behind a throw -/
def ip_hx (h : ip_H) : ip_H := (h.1, h.2.1, h.2.2.1, h.2.2.2.1, h.2.2.2.2.1 + 1, h.2.2.2.2.2.1 + 6, true)
theorem ip_hx_Inv {G : ip_G} {h : ip_H} {H H1 : Heap} (hI : ip_Inv G h H) (oq : ∀ q : Nat, q < H.size → H1[q]? = H[q]?) : ip_Inv G (ip_hx h) H1 := by
  obtain ⟨i1, i2, i3, i4, i5, i6, i7, i8⟩ := hI
  refine ⟨fun x u k hxs hx2 => ?_, (fun q => nomatch q), i3, i4, i5, i6, i7, i8⟩
  have h1 := i1 x u k hxs hx2
  rw [ip_e_row (h := h) (h' := ip_hx h) rfl rfl rfl]
  exact h1.kept (oq _ h1.lt)
/-- what ip_thr found -/
theorem ip_thr_is {m pc len : Nat} {i : Instr} {st : List Value} {E : String} (h9 : ip_thr m pc i len st = some E) : ∃ ik is ic si, i = .new ik ∧ len = 3 ∧ st = [] ∧ ip_hnd m = [] ∧ ip_exn (ip_own m) ik = some E ∧ ip_str (ip_own m) is = some si ∧ (ip_own m, ic, E) ∈ ip_xl ∧ decode (ip_code m) (pc + 3) = .ok (.dup, 1) ∧
    ((decode (ip_code m) (pc + 4) = .ok (.ldc is, 2) ∧ decode (ip_code m) (pc + 6) = .ok (.invokespecial ic, 3) ∧ decode (ip_code m) (pc + 9) = .ok (.athrow, 1)) ∨ (decode (ip_code m) (pc + 4) = .ok (.ldc_w is, 3) ∧ decode (ip_code m) (pc + 7) = .ok (.invokespecial ic, 3) ∧ decode (ip_code m) (pc + 10) = .ok (.athrow, 1))) := by
  unfold ip_thr at h9
  split at h9
  · rename_i ik
    obtain ⟨⟨rfl, hh⟩, h8⟩ := ip_if h9
    split at h8
    · rename_i E2 hE
      split at h8
      · rename_i is d3 d4
        split at h8
        · rename_i si ic hs d6 d9
          obtain ⟨hx, h7⟩ := ip_if h8
          cases h7
          exact ⟨ik, is, ic, si, rfl, rfl, rfl, hh, hE, hs, of_decide_eq_true hx, d3, Or.inl ⟨d4, d6, d9⟩⟩
        · cases h8
      · rename_i is d3 d4
        split at h8
        · rename_i si ic hs d6 d9
          obtain ⟨hx, h7⟩ := ip_if h8
          cases h7
          exact ⟨ik, is, ic, si, rfl, rfl, rfl, hh, hE, hs, of_decide_eq_true hx, d3, Or.inr ⟨d4, d6, d9⟩⟩
        · cases h8
      · cases h8
    · cases h8
  · cases h9
section IPT
variable {G : ip_G} {p : Program} {l : Launch} {e : Env} {R : Room} {s : State} {mid : MethodId} {args : Array Value} {below : List Frame} {meth : Method} {c : Code} {m d n0 s0 : Nat}
variable {pc : Nat} {lsA : Array Slot} {h : ip_H}
theorem ip_ng_ok {X : String} (hX : X ∈ ip_xn) (hts : ∀ w ∈ ip_tbl, w.before args s = true) (hWd : ip_Wd G s) {L : List Cond} (hL : ∀ w ∈ L, w ∈ ip_tbl ∨ w ∈ ip_ng X) : ∀ w ∈ L, w.before args s = true := by
  intro w hw
  rcases hL w hw with q | q
  · exact hts w q
  · have h13 := hWd.2.2.2.2.2.2.2.2.2.2.2.2.1
    simp only [ip_ng, List.mem_cons, List.not_mem_nil, or_false] at q
    rcases q with rfl | rfl | rfl | rfl
    · exact va_Nw.use rfl (h13.1 X hX)
    · exact va_Nw.use rfl (h13.2 _ (List.mem_of_getElem? (i := 0) rfl))
    · exact va_Nw.use rfl (h13.2 _ (List.mem_of_getElem? (i := 1) rfl))
    · exact va_Nw.use rfl (h13.2 _ (List.mem_of_getElem? (i := 2) rfl))
theorem ip_ot {X : String} {L : List Cond} (hL : ∀ w ∈ L, w ∈ ip_tbl ∨ w ∈ ip_ng X) : ∀ w ∈ L, vx_ot w = true := by
  intro w hw
  rcases hL w hw with q | q
  · unfold vx_ot
    rw [ip_good q, Bool.or_true]
  · simp only [ip_ng, List.mem_cons, List.not_mem_nil, or_false] at q
    rcases q with rfl | rfl | rfl | rfl <;> rfl
/-- one of the three whose constructors are of the common form -/
theorem ip_thr_one (F : ip_Fr G p l R s mid args meth c m d) (hz : lsA.size = ip_mL m) {E : String} {ik is ic si : Nat} (hne : m ≠ 284) (hh : ip_hnd m = []) (hE : ip_exn (ip_own m) ik = some E) (hs : ip_str (ip_own m) is = some si) (hEx : E ∈ ip_xn) (hfit : Bundle.fit E = true) (hini : Cond.initialized E ∈ ip_tbl) (hat : ∀ w ∈ vx_atS (ip_cn.getD (ip_own m) "") ic E ip_names, w ∈ ip_tbl ∨ w ∈ ip_ng E) {Qc : Array Value → State → Outcome → State → Prop} {XC : String → State → State → Prop} {mc ms cells slots : Nat} {H : Heap} {locs : List Loc}
    (d0 : decode (ip_code m) pc = .ok (.new ik, 3)) (d3 : decode (ip_code m) (pc + 3) = .ok (.dup, 1)) (d4 : (decode (ip_code m) (pc + 4) = .ok (.ldc is, 2) ∧ decode (ip_code m) (pc + 6) = .ok (.invokespecial ic, 3) ∧ decode (ip_code m) (pc + 9) = .ok (.athrow, 1)) ∨ (decode (ip_code m) (pc + 4) = .ok (.ldc_w is, 3) ∧ decode (ip_code m) (pc + 7) = .ok (.invokespecial ic, 3) ∧ decode (ip_code m) (pc + 10) = .ok (.athrow, 1)))
    (hS : va_S (ip_A G) s.heap H locs) (hRc : cells + 1 ≤ R.cells) (hRs : slots + 6 ≤ R.slots) (hx : ∀ t : State, s.vm.Alike t.vm → H.size ≤ t.heap.size → (∀ q : Nat, q < H.size → t.heap[q]? = H[q]?) → XC E s t) (hc : cells + 1 ≤ mc) (hs2 : slots + 6 ≤ ms) :
    W p l e R s mid args below meth c H locs cells slots (vx_MQ below Qc XC args s mc ms (ip_A G)) (F0 mid pc lsA []) := by
  obtain ⟨hx0, hb, hml, hr, hown, hts, hlk, hin, htb, hWd, hst, hf1, hf2⟩ := F
  have hout : ∀ (k : Nat), ∀ x ∈ c.exceptionTable.toList, covers x k = false := by
    rw [htb hne, hh]
    exact fun k x q => nomatch q
  have hlink := ip_exn_ok hE
  have hgood : ∀ w ∈ Cond.classLink (ip_cn.getD (ip_own m) "") ik E :: Cond.initialized E :: vx_atS (ip_cn.getD (ip_own m) "") ic E ip_names, vx_ot w = true := by
    refine ip_ot (X := E) (fun w hw => ?_)
    rcases List.mem_cons.mp hw with rfl | hw
    · exact Or.inl hlink
    · rcases List.mem_cons.mp hw with rfl | hw
      · exact Or.inl hini
      · exact hat w hw
  have hnames : ∀ n ∈ ip_names, Bundle.fit n = true := by decide +kernel
  rcases d4 with ⟨d4, d6, d9⟩ | ⟨d4, d6, d9⟩
  · exact vx_throwS (names := ip_names) hx0 hb hst hown hfit hnames (hts _ hlink) (hts _ hini) (hWd.2.2.2.2.2.1 _ _ si hs) (ip_ng_ok hEx hts hWd hat) hgood hWd.2.2.2.2.2.2.2.1 hWd.2.2.2.2.2.2.2.2.1 hS (by rw [hml]; exact hz) d0 d3 d4 d6 d9 (hout _) (by show 2 + 3 < R.frames; omega) (by show 0 + (13 * 3 + 43) ≤ R.locals; omega) hRc hRs hlk hx hS.2.2 hc hs2
  · exact vx_throwSW (names := ip_names) hx0 hb hst hown hfit hnames (hts _ hlink) (hts _ hini) (hWd.2.2.2.2.2.1 _ _ si hs) (ip_ng_ok hEx hts hWd hat) hgood hWd.2.2.2.2.2.2.2.1 hWd.2.2.2.2.2.2.2.2.1 hS (by rw [hml]; exact hz) d0 d3 d4 d6 d9 (hout _) (by show 2 + 3 < R.frames; omega) (by show 0 + (13 * 3 + 43) ≤ R.locals; omega) hRc hRs hlk hx hS.2.2 hc hs2
end IPT
