/-! THE PICTURE MACHINE, 6: what stands around it, and goes with every call -/
def ip_len : List Nat := ip_tb.map List.length
def ip_byt : List (List Int32) := ip_tb.map (fun l => l.map Int32.ofNat)
def ip_dc : List MethodName := [Bundle.initS "java/lang/RuntimeException", Bundle.initS "java/lang/Exception", Bundle.initS Bundle.tN]
/-- the texts: Strings of one byte a sign -/
def ip_SS (G : ip_G) (U : State) (H : Heap) : Prop := ∀ i : Nat, i < 39 → va_O "java/lang/String" (G.2.2.2.1 i) (ip_A G) U H ∧ va_OF "java/lang/String" "coder" "B" (.int 0) (G.2.2.2.1 i) (ip_A G) U H ∧ va_OF "java/lang/String" "value" "[B" (.ref (G.2.2.2.2.1 i)) (G.2.2.2.1 i) (ip_A G) U H ∧ va_T .byte (G.2.2.2.2.1 i) (ip_len.getD i 0) (fun j => .int ((ip_byt.getD i []).getD j 0)) (ip_A G) U H
theorem ip_SS.moved {G : ip_G} {u U : State} {H : Heap} (hvm : u.vm.Alike U.vm) (h : ip_SS G u H) : ip_SS G U H := fun i hi => ⟨va_O.moved hvm (h i hi).1, va_OF.moved hvm (h i hi).2.1, va_OF.moved hvm (h i hi).2.2.1, va_T.moved hvm (h i hi).2.2.2⟩
theorem ip_SS.kept {G : ip_G} {U : State} {H H1 : Heap} (h : ip_SS G U H) (hq : ∀ a : Nat, a < H.size → ¬ ip_A G a → H1[a]? = H[a]?) : ip_SS G U H1 := fun i hi => ⟨(h i hi).1.kept hq, (h i hi).2.1.kept hq, (h i hi).2.2.1.kept hq, (h i hi).2.2.2.kept hq⟩
theorem ip_SS.recv {G : ip_G} {s : State} {H : Heap} {locs : List Loc} {i : Nat} (hE : ip_SS G s s.heap) (hi : i < 39) (hS : va_S (ip_A G) s.heap H locs) : ∃ cell : Cell, H[G.2.2.2.1 i]? = some cell ∧ cell.vm.isStatics = false ∧ s.vm.findClass "java/lang/String" = some cell.cls := by
  obtain ⟨cell, h1, h2, h3, -⟩ := (hE i hi).1.kept hS.2.1
  exact ⟨cell, h1, h2, h3⟩
def ip_Wd (G : ip_G) (U : State) : Prop :=
  va_K (ip_D G) ip_classes (ip_tys G) U ∧ (va_X G.2.1 (ip_xL G) (ip_xs G) U U.heap ∧ G.2.1 < G.1) ∧
  va_T .long G.2.2.1 6 (fun j => .long (ip_nm j)) (ip_A G) U U.heap ∧ va_Z "RemandTree$Tables" "NAMED" "[J" (.ref G.2.2.1) (ip_A G) U U.heap ∧
  ip_SS G U U.heap ∧ (∀ own idx i, ip_str own idx = some i → vk_R (ip_cn.getD own "") idx (ip_tx.getD i "") (G.2.2.2.1 i) U) ∧
  (va_Z "java/lang/String" "COMPACT_STRINGS" "Z" (.int 1) (ip_A G) U U.heap ∧ va_Zq "jdk/internal/util/Preconditions" "SIOOBE_FORMATTER" "Ljava/util/function/BiFunction;" (ip_A G) U U.heap) ∧
  vx_Zq Bundle.tN "UNASSIGNED_STACK" Bundle.steD (ip_A G) U U.heap ∧ vx_Zq Bundle.tN "SUPPRESSED_SENTINEL" Bundle.listD (ip_A G) U U.heap ∧
  (∀ own idx y, Cond.methodLinkNest own idx y "RemandTree" ∈ lw_tbl → va_Nw (.methodLinkNest own idx y "RemandTree") U) ∧ va_AO "RemandTree$Node" U ∧
  (∀ E nm, E ∈ ip_xn → nm ∈ ip_xn → E ≠ nm → va_Nc E nm U) ∧ ((∀ E, E ∈ ip_xn → va_Nw (.castable E E) U) ∧ ∀ y, y ∈ ip_dc → va_Nw (.declares y) U) ∧ G.1 ≤ U.heap.size
theorem ip_Wd_to {G : ip_G} {s U : State} (h : ip_Wd G s) (hW : s.WarmedH U.vm) (hz : s.heap.size ≤ U.heap.size) (hq : ∀ q : Nat, q < s.heap.size → ¬ ip_A G q → U.heap[q]? = s.heap[q]?) : ip_Wd G U := by
  obtain ⟨h1, ⟨h2, h2b⟩, h3, h4, h5, h6, h7, h8, h9, h10, h11, h12, h13, h14⟩ := h
  refine ⟨va_K.moved hW.alike h1, ⟨va_X.moved hW.alike (h2.kept (hq _ (by omega) (by unfold ip_A; omega))), h2b⟩, va_T.moved hW.alike (h3.kept hq), va_Z.moved hW.alike (h4.kept hq), ip_SS.moved hW.alike (h5.kept hq), fun own idx i hi => vk_R.warm hW (h6 own idx i hi), ⟨va_Z.moved hW.alike (h7.1.kept hq), va_Zq.moved hW.alike (h7.2.kept hq)⟩, vx_Zq.moved hW.alike (h8.kept hq), vx_Zq.moved hW.alike (h9.kept hq), fun own idx y hy => va_Nw.warmM hW (h10 own idx y hy), va_AO.moved hW.alike h11, fun E nm hE hn hne => va_Nc.moved hW.alike (h12 E nm hE hn hne), ⟨fun E hE => va_Nw.warmC hW (h13.1 E hE), fun y hy => va_Nw.warmD hW (h13.2 y hy)⟩, Nat.le_trans h14 hz⟩
theorem ip_Wd_call {G : ip_G} {U : State} (h : ip_Wd G U) (g : JFrame) (mk : MethodId) (a : Array Value) : ip_Wd G (U.calling g mk a) :=
  ip_Wd_to (U := U.calling g mk a) h (State.WarmedH.refl U) (Nat.le_refl _) (fun _ _ _ => rfl)
/-- a frame of method m, with room for d calls within one another -/
def ip_Fr (G : ip_G) (p : Program) (l : Launch) (R : Room) (s : State) (mid : MethodId) (args : Array Value) (meth : Method) (c : Code) (m d : Nat) : Prop :=
  p.tables.exec = Jvm.exec ∧ c.code = ip_code m ∧ c.maxLocals = ip_mL m ∧ meth.sig.returnType = ip_ret m ∧ s.vm.findClass (ip_cn.getD (ip_own m) "") = some mid.cls ∧ (∀ w ∈ ip_tbl, w.before args s = true) ∧ meth.locks = false ∧ ((ip_y m).name = "<init>" → meth.name = "<init>") ∧ (m ≠ 284 → c.exceptionTable.toList = tableOf (ip_hnd m)) ∧ ip_Wd G s ∧ l.stackTraces = false ∧ d + 8 ≤ R.frames ∧ 40 * d + 300 ≤ R.locals
