/-! THE CLAIM OUT OF ONE WALK OF THE LAW'S BODY. Your part is whole_start (and what it stands on); all else here is the same for every law, but numbers. -/
def R_law : String := "RemandTreeLaw"
def lw_P (b : Addr) (xs : List Int32) (args : Array Value) (s : State) : Prop := args = #[.ref b] ∧ s.IntsAt b xs ∧ xs.length ≤ 3072 ∧ (Jvm.Cond.and given_1 narrow_1).before args s = true
def lw_Q (_ : Array Value) (s : State) (o : Outcome) (t : State) : Prop := o = .returned (some (.int 1)) ∧ Framed s o t [] 601024 7293034
def lw_Z (below : List Frame) (a : Array Value) (s : State) : State → Prop := fun t => ∃ o, t.status = .running ∧ Ended t below o ∧ lw_Q a s o t
/-- the law's own end, with 1 on the stack, nothing written that was there before, its room as the claim has it -/
theorem lw_ret {p : Program} {l : Launch} {e : Env} {s : State} {m : MethodId} {below : List Frame} {meth : Method} {c : Code} {b : Nat} (hx : p.tables.exec = Jvm.exec) (hb : c.code = code) (hr : meth.sig.returnType = ret) (hlocks : meth.locks = false) {pc : Nat} {H : Heap} {ls : Array Slot} (hdg : decode code pc = .ok (.ireturn, 1)) : W p l e room_1 s m #[Value.ref b] below meth c H [] 601024 7293034 (lw_Z below #[Value.ref b] s) (F0 m pc ls [.int 1]) := by
  intro T hT X
  obtain ⟨fs, hret, hrun, hended, hW, hframe⟩ := X.leave (v := some (.int 1)) (hlocks := hlocks) (fun h => by rw [hr] at h; cases h)
  have hmeth' : T.vm.method? m = some meth := X.method'
  refine ⟨T.setFrames fs, ?_, .returned (some (.int 1)), hrun, hended, rfl, ⟨_, rfl⟩, hW, hframe⟩
  jvm_step X.here [X.here.top, hx, hb, hdg, hmeth', hr, ret, narrow_b1]
  (try refine ⟨rfl, ?_⟩); (try refine ⟨rfl, ?_⟩)
  first | (intro acts; rw [hret _ acts rfl rfl rfl]) | rw [hret _ _ rfl rfl rfl]
  exact Steps.refl _
/-- what holds at the law's entry: the machine, the code, the tables' words (any of lw_tbl by 'hts w (by decide +kernel)'), the script of L ints xs at the cell b, what the Statement gives of the start (any of its parts by flat_of_before) -/
def lw_At (p : Program) (s : State) (m : MethodId) (meth : Method) (c : Code) (b L : Nat) (xs : Nat → Int32) : Prop :=
  p.tables.exec = Jvm.exec ∧ c.code = code ∧ meth.sig.returnType = ret ∧ c.maxLocals = 7 ∧ s.vm.findClass R_law = some m.cls ∧ (∀ w ∈ lw_tbl, w.before #[Value.ref b] s = true) ∧ va_X b L xs s s.heap ∧ b < s.heap.size ∧ meth.locks = false ∧ (Jvm.Cond.and given_1 narrow_1).before #[Value.ref b] s = true
/-! what is left: the picture machine runs the law to 1 on every script -/
def ip_h0 (L : Nat) (xs : Nat → Int32) : ip_H := ([(105, L), (106, 6)], fun a j => if a = 0 then xs j else 0, fun a j => if a = 1 then ip_nm j else 0, fun _ _ => none, 0, 0, false)
def ip_Goal : Prop := ∀ (L : Nat) (xs : Nat → Int32), L ≤ 3072 → ∃ (n : Nat) (h' : ip_H), ip_run n 300 284 0 (ip_entry 284 [.ref 0]) [] (ip_h0 L xs) = some (.inl (some (.int 1)), h') ∧ h'.2.2.2.2.1 ≤ 601024 ∧ h'.2.2.2.2.2.1 ≤ 7293034
theorem ip_law_at : ip_ML.getD 284 ip_dm = ip_dm := by
  rw [ip_MLq_eq, List.getD_eq_getElem?_getD, List.getElem?_append_right (by rw [ip_MLq_len]; exact Nat.le_refl _), ip_MLq_len]
  rfl
theorem ip_law_code : ip_code 284 = code := by unfold ip_code; rw [ip_law_at]; rfl
theorem ip_law_mL : ip_mL 284 = 7 := by unfold ip_mL; rw [ip_law_at]; rfl
theorem ip_law_ret : ip_ret 284 = ret := by unfold ip_ret; rw [ip_law_at]; rfl
theorem ip_law_own : ip_own 284 = 9 := by unfold ip_own; rw [ip_law_at]; rfl
theorem ip_law_y : ip_y 284 = x := by unfold ip_y; rw [ip_law_at]; rfl
theorem ip_end_int {m len : Nat} {i : Instr} {st : List Value} {v : Int32} (h9 : ip_end m i len st = some (some (.int v))) : i = .ireturn ∧ len = 1 ∧ st = [.int v] := by
  unfold ip_end at h9
  split at h9
  · obtain ⟨rfl, h8⟩ := ip_if h9
    split at h8
    · obtain ⟨-, h7⟩ := ip_if h8
      cases h7
      exact ⟨rfl, rfl, rfl⟩
    · cases h8
  · obtain ⟨-, h8⟩ := ip_if h9
    cases h8
  · obtain ⟨-, h8⟩ := ip_if h9
    split at h8 <;> cases h8
  · obtain ⟨-, h8⟩ := ip_if h9
    cases h8
  · cases h9
theorem ip_h0_Inv {G : ip_G} {s : State} (h : G.1 = s.heap.size) : ip_Inv G (ip_h0 (ip_xL G) (ip_xs G)) s.heap := by
  refine ⟨fun a t n hs ha => ?_, fun _ => by rw [h]; rfl, by show 2 ≤ 2; omega, by show 2 ≤ 600000; omega, rfl, rfl, fun j _ => rfl, fun j _ => rfl⟩
  have := ip_sh_lt hs
  have h2 : (ip_h0 (ip_xL G) (ip_xs G)).1.length = 2 := rfl
  omega
set_option maxHeartbeats 4000000 in
/-- THE LAW, from its entry, out of the picture machine's run of it -/
theorem whole_start_of (hg : ip_Goal) {p : Program} {e : Env} {s : State} {m : MethodId} {below : List Frame} {meth : Method} {c : Code} (l : Launch) (hflags : l.flags = flags0) {b L : Nat} {xs : Nat → Int32} (hL : L ≤ 3072) (C0 : lw_At p s m meth c b L xs) : W p l e room_1 s m #[Value.ref b] below meth c s.heap [] 0 0 (lw_Z below #[Value.ref b] s) (entryFrame m ([Value.ref b] : List Value).toArray 7) := by
  obtain ⟨hx, hb, hr, hml, hown, hts, hX, hbl, hlocks, hgv⟩ := C0
  have hn : ∀ w ∈ flatC narrow_1, w.before #[Value.ref b] s = true := by
    rw [Cond.before_and, Bool.and_eq_true] at hgv
    exact flat_of_before _ hgv.2
  have hst : l.stackTraces = false := by
    unfold Launch.stackTraces
    rw [hflags]
    decide +kernel
  obtain ⟨G, g1, g2, g3, g4, hWd⟩ := ip_start hts hn hX hbl
  obtain ⟨n, h', hrun, hb1, hb2⟩ := hg L xs hL
  have F : ip_Fr G p l room_1 s m #[Value.ref b] meth c 284 300 := ⟨hx, by rw [ip_law_code]; exact hb, by rw [ip_law_mL]; exact hml, by rw [ip_law_ret]; exact hr, by rw [ip_law_own]; exact hown, fun w hw => hts w (ip_tbl_sub hw), hlocks, fun q => by rw [ip_law_y] at q; exact absurd q (by decide), fun q => absurd rfl q, hWd, hst, Nat.le_of_ble_eq_true rfl, Nat.le_of_ble_eq_true rfl⟩
  have hal : (ip_args [Value.ref 0]).length ≤ ip_mL 284 := by rw [ip_law_mL]; exact Nat.le_of_ble_eq_true rfl
  subst g3
  subst g4
  have K := ip_sound (G := G) hst n p e room_1 s m #[Value.ref b] below meth c (lw_Z below #[Value.ref b] s) 284 300 0 0 (.inl (some (.int 1))) h' F
    (fun v i len pc lsA st ho hd he H locs cells slots hI hS hc hs => by
      cases ho
      obtain ⟨rfl, rfl, rfl⟩ := ip_end_int he
      refine va_forget (fun q hq => ?_) ?_
      · have := hS.2.2 q hq
        rw [← g1]
        exact this
      · refine W.widen (k := 601024) (n := 7293034) (by omega) (by omega) ?_
        rw [ip_law_code] at hd
        exact lw_ret hx hb hr hlocks hd)
    (fun E i len pc lsA st h ho => nomatch ho) (fun E ho => nomatch ho) (by show h'.2.2.2.2.1 ≤ 601024 + 0; omega) (by show h'.2.2.2.2.2.1 ≤ 7293034 + 0; omega)
    0 (ip_entry 284 [.ref 0]) [] (ip_h0 (ip_xL G) (ip_xs G)) _ hrun (ip_entry_lv hal) (ip_entry_len hal)
  have K2 := K s.heap [] 0 0 (ip_h0_Inv g1) va_S.rf rfl rfl
  have hv0 : ([Value.ref 0] : List Value).map (ip_v (ip_ad G)) = [Value.ref b] := by
    show [Value.ref (ip_ad G 0)] = [Value.ref b]
    rw [← g2]
    rfl
  rw [lg_entry_eq]
  rw [hv0, ip_law_mL] at K2
  exact K2
