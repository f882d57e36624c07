/-! CALL BY CALL: write -/
def WC (bs : List Int32) (I J : Nat → Nat → Int32) : Prop := onlyP (fun a k => a = 64 ∨ (a = 63 ∧ k = 1)) I J ∧ J 63 1 = Int32.ofNat bs.length ∧ ∀ i, i < bs.length → J 64 i = bs.getD i 0
def WM (bs : List Int32) (I J : Nat → Nat → Int32) : Prop := onlyP (fun a k => a = 306 ∨ (a = 265 ∧ k = 70)) I J ∧ J 265 70 = Int32.ofNat bs.length ∧ ∀ i, i < bs.length → J 306 i = bs.getD i 0
def NAMf (f : Nat → List Nat) (T c : Nat) (I : Nat → Nat → Int32) (L : Nat → Nat → Int64) : Prop := ∀ k, k < c → (f k).length ≤ 6 ∧ 0 < (f k).length ∧ okl (f k) ∧ (∀ i, i < 6 → I (T + 1) (6 * k + i) = Int32.ofNat (if i < (f k).length then 96 + (f k).getD i 0 else 0)) ∧ L 274 k = Int64.ofNat (pck (f k))
theorem NAM_f {T c : Nat} {I : Nat → Nat → Int32} {L : Nat → Nat → Int64} (h : NAM T c I L) : ∃ f, NAMf f T c I L := by
  refine ⟨fun k => if hk : k < c then Classical.choose (h k hk) else [], fun k hk => ?_⟩
  have := Classical.choose_spec (h k hk)
  simp only [hk, dif_pos]
  exact this
def lt_ (ls : List Nat) : List Int32 := ls.map (fun x => Int32.ofNat (96 + x))
def isB (ls : List Nat) (b6 b4 b7 : Bool) : List Int32 := ((32 : Int32) :: lt_ ls) ++ ((if b6 = true then [63] else [61, if b4 = true then 48 else 49]) ++ (if b7 = true then [33] else []))
def ibs (f : Nat → List Nat) (s6 s4 s7 : Nat) : Nat → Nat → List Int32
  | 0, _ => []
  | m + 1, i => isB (f i) (s6.testBit i) (s4.testBit i) (s7.testBit i) ++ ibs f s6 s4 s7 m (i + 1)
theorem isB_len {ls : List Nat} {b6 b4 b7 : Bool} (h : ls.length ≤ 6) : (isB ls b6 b4 b7).length ≤ 10 := by
  unfold isB lt_
  cases b6 <;> cases b7 <;> simp <;> omega
theorem getD_app1 {bs : List Int32} {x : Int32} : (bs ++ [x]).getD bs.length 0 = x := by simp
theorem getD_app2 {bs : List Int32} {x : Int32} {i : Nat} (h : i < bs.length) : (bs ++ [x]).getD i 0 = bs.getD i 0 := by
  simp [List.getD, List.getElem?_append_left h]
section S29
variable {n d a b T c s t z o w m p k N q i s6 s4 s7 : Nat} {I J K M I1 I2 : Nat → Nat → Int32} {L L' : Nat → Nat → Int64} {R R' : Nat → Nat → Option Nat} {nc ns : Nat} {nx : Bool} {x y j v u code x1 x2 x3 : Int32} {h' h : ip_H} {l0 : Option Value} {bs : List Int32} {ls : List Nat} {f : Nat → List Nat}
theorem cw (hR : LYR R) (W : WC bs I J) (hb : bs.length < 256) (x : Int32) : ∃ J', (∀ d, cf d 32 [.ref 63, .int x] (SH n, J, L, R, nc, ns, nx) = some (.inl none, (SH n, J', L, R, nc, ns, nx))) ∧ WC (bs ++ [x]) I J' := by
  obtain ⟨w1, w2, w3⟩ := W
  refine ⟨putC J bs.length x, fun d => c32 hR w2 hb, onlyP_up (onlyP_up w1 (Or.inl rfl)) (Or.inr ⟨rfl, rfl⟩), ?_, fun i hi => ?_⟩
  · unfold putC; rw [up_eq, List.length_append]; rfl
  · unfold putC
    rw [up_a (by decide)]
    rw [List.length_append] at hi
    by_cases e : i = bs.length
    · subst e; rw [up_eq, getD_app1]
    · have : i < bs.length := by simp at hi; omega
      rw [up_k e, getD_app2 this]; exact w3 i this
theorem mw (hR : LYR R) (W : WM bs I J) (hb : bs.length < 256) (x : Int32) : ∃ J', (∀ d, cf d 274 [.ref 265, .int x] (SH n, J, L, R, nc, ns, nx) = some (.inl none, (SH n, J', L, R, nc, ns, nx))) ∧ WM (bs ++ [x]) I J' := by
  obtain ⟨w1, w2, w3⟩ := W
  refine ⟨putM J bs.length x, fun d => c274 hR w2 (by omega), onlyP_up (onlyP_up w1 (Or.inl rfl)) (Or.inr ⟨rfl, rfl⟩), ?_, fun i hi => ?_⟩
  · unfold putM; rw [up_eq, List.length_append]; rfl
  · unfold putM
    rw [up_a (by decide)]
    rw [List.length_append] at hi
    by_cases e : i = bs.length
    · subst e; rw [up_eq, getD_app1]
    · have : i < bs.length := by simp at hi; omega
      rw [up_k e, getD_app2 this]; exact w3 i this
/-! words -/
def wrd (t : Nat) : List Int32 := (ip_tb.getD t []).map Int32.ofNat
theorem drop_map {tb : List Nat} {i : Nat} (h : i < tb.length) {g : Nat → Int32} : (tb.drop i).map g = g (tb.getD i 0) :: (tb.drop (i + 1)).map g := by
  rw [List.drop_eq_getElem_cons h, List.map_cons, getD_in h]
theorem t166 (hR : LYR R) (ht : t < 39) : ∀ m i J bs, (ip_tb.getD t []).length = i + m → (ip_tb.getD t []).length ≤ 1000 → WC bs I J → bs.length + m ≤ 256 → ∃ J', (∀ d, rf (d + 1) 166 2 [some (.ref 63), some (.ref (tx t)), some (.int (Int32.ofNat i))] [] (SH n, J, L, R, nc, ns, nx) = some (.inl none, (SH n, J', L, R, nc, ns, nx))) ∧ WC (bs ++ ((ip_tb.getD t []).drop i).map Int32.ofNat) I J' := by
  intro m
  induction m with
  | zero =>
    intro i J bs h1 hl W hb
    refine ⟨J, fun d => ?_, ?_⟩
    · have g : (Int32.ofNat (ip_tb.getD t []).length ≤ Int32.ofNat i) = True := eq_true ((nu_le (by omega) (by omega)).mpr (by omega))
      rw [e166_2]
      simp only [e166_0, e166_1, e166_3, e166_4, e166_7, e166_10, e166_11, e166_12, e166_13, e166_16, e166_19, e166_22, e166_25, rk_n, rk_v, nl_n, nl_i, nl_r, cat_n, ip_cat_int, ip_cat_ref, ip_cat_long, ip_rf_some, Nat.reduceAdd, Nat.reduceLeDiff, Nat.reduceLT, Nat.le_refl, Nat.zero_le, ht, g, Bool.false_eq_true, Bool.true_eq_false, if_true, if_false, not_true_eq_false, not_false_eq_true, zle, eq_self]
    · rw [List.drop_eq_nil_of_le (by omega), List.map_nil, List.append_nil]; exact W
  | succ m ih =>
    intro i J bs h1 hl W hb
    obtain ⟨J1, A1, W1⟩ := cw (n := n) (L := L) (nc := nc) (ns := ns) (nx := nx) hR W (by omega) (Int32.ofNat ((ip_tb.getD t []).getD i 0))
    obtain ⟨J2, A2, W2⟩ := ih (i + 1) J1 _ (by omega) hl W1 (by simp; omega)
    refine ⟨J2, fun d => ?_, ?_⟩
    · have g : (Int32.ofNat (ip_tb.getD t []).length ≤ Int32.ofNat i) = False := eq_false (fun e => by have := (nu_le (by omega) (by omega)).mp e; omega)
      have e1 : Int32.ofNat i + 1 = Int32.ofNat (i + 1) := nu_add (s := 1)
      have l1 : i < 2147483648 := by omega
      have l2 : i < (ip_tb.getD t []).length := by omega
      rw [e166_2]
      simp only [e166_0, e166_1, e166_3, e166_4, e166_7, e166_10, e166_11, e166_12, e166_13, e166_16, e166_19, e166_22, e166_25, rk_n, rk_v, nl_n, nl_i, nl_r, cat_n, ip_cat_int, ip_cat_ref, ip_cat_long, ip_rf_some, Nat.reduceAdd, Nat.reduceLeDiff, Nat.reduceLT, Nat.le_refl, Nat.zero_le, ht, g, nu_i, nu_tn, l1, l2, A1, e1, A2, Bool.false_eq_true, Bool.true_eq_false, if_true, if_false, not_true_eq_false, not_false_eq_true, zle, eq_self]
    · rw [drop_map (by omega)]
      have : bs ++ Int32.ofNat ((ip_tb.getD t []).getD i 0) :: ((ip_tb.getD t []).drop (i + 1)).map Int32.ofNat = (bs ++ [Int32.ofNat ((ip_tb.getD t []).getD i 0)]) ++ ((ip_tb.getD t []).drop (i + 1)).map Int32.ofNat := by simp
      rw [this]; exact W2
theorem c166 (hR : LYR R) (ht : t < 39) (hl : (wrd t).length ≤ 100) (W : WC bs I J) (hb : bs.length + (wrd t).length ≤ 256) : ∃ J', (∀ d, cf (d + 1) 166 [.ref 63, .ref (tx t)] (SH n, J, L, R, nc, ns, nx) = some (.inl none, (SH n, J', L, R, nc, ns, nx))) ∧ WC (bs ++ wrd t) I J' := by
  have e : (wrd t).length = (ip_tb.getD t []).length := by unfold wrd; rw [List.length_map]
  obtain ⟨J', A, B⟩ := t166 (n := n) (L := L) (nc := nc) (ns := ns) (nx := nx) hR ht (ip_tb.getD t []).length 0 J bs (by omega) (by omega) W (by omega)
  refine ⟨J', fun d => ?_, by rw [List.drop_zero] at B; exact B⟩
  have A := A d
  simp only [en166, e166_0, e166_1, e166_3, e166_4, e166_7, e166_10, e166_11, e166_12, e166_13, e166_16, e166_19, e166_22, e166_25, rk_n, rk_v, nl_n, nl_i, nl_r, cat_n, ip_cat_int, ip_cat_ref, ip_cat_long, ip_rf_some, Nat.reduceAdd, Nat.reduceLeDiff, Nat.reduceLT, Nat.le_refl, Nat.zero_le, Bool.false_eq_true, Bool.true_eq_false, if_true, if_false, not_true_eq_false, not_false_eq_true, zle, eq_self]
  exact A
theorem t273 (hR : LYR R) (ht : t < 39) : ∀ m i J bs, (ip_tb.getD t []).length = i + m → (ip_tb.getD t []).length ≤ 1000 → WM bs I J → bs.length + m ≤ 256 → ∃ J', (∀ d, rf (d + 1) 273 2 [some (.ref 265), some (.ref (tx t)), some (.int (Int32.ofNat i))] [] (SH n, J, L, R, nc, ns, nx) = some (.inl none, (SH n, J', L, R, nc, ns, nx))) ∧ WM (bs ++ ((ip_tb.getD t []).drop i).map Int32.ofNat) I J' := by
  intro m
  induction m with
  | zero =>
    intro i J bs h1 hl W hb
    refine ⟨J, fun d => ?_, ?_⟩
    · have g : (Int32.ofNat (ip_tb.getD t []).length ≤ Int32.ofNat i) = True := eq_true ((nu_le (by omega) (by omega)).mpr (by omega))
      rw [e273_2]
      simp only [e273_0, e273_1, e273_3, e273_4, e273_7, e273_10, e273_11, e273_12, e273_13, e273_16, e273_19, e273_22, e273_25, rk_n, rk_v, nl_n, nl_i, nl_r, cat_n, ip_cat_int, ip_cat_ref, ip_cat_long, ip_rf_some, Nat.reduceAdd, Nat.reduceLeDiff, Nat.reduceLT, Nat.le_refl, Nat.zero_le, ht, g, Bool.false_eq_true, Bool.true_eq_false, if_true, if_false, not_true_eq_false, not_false_eq_true, zle, eq_self]
    · rw [List.drop_eq_nil_of_le (by omega), List.map_nil, List.append_nil]; exact W
  | succ m ih =>
    intro i J bs h1 hl W hb
    obtain ⟨J1, A1, W1⟩ := mw (n := n) (L := L) (nc := nc) (ns := ns) (nx := nx) hR W (by omega) (Int32.ofNat ((ip_tb.getD t []).getD i 0))
    obtain ⟨J2, A2, W2⟩ := ih (i + 1) J1 _ (by omega) hl W1 (by simp; omega)
    refine ⟨J2, fun d => ?_, ?_⟩
    · have g : (Int32.ofNat (ip_tb.getD t []).length ≤ Int32.ofNat i) = False := eq_false (fun e => by have := (nu_le (by omega) (by omega)).mp e; omega)
      have e1 : Int32.ofNat i + 1 = Int32.ofNat (i + 1) := nu_add (s := 1)
      have l1 : i < 2147483648 := by omega
      have l2 : i < (ip_tb.getD t []).length := by omega
      rw [e273_2]
      simp only [e273_0, e273_1, e273_3, e273_4, e273_7, e273_10, e273_11, e273_12, e273_13, e273_16, e273_19, e273_22, e273_25, rk_n, rk_v, nl_n, nl_i, nl_r, cat_n, ip_cat_int, ip_cat_ref, ip_cat_long, ip_rf_some, Nat.reduceAdd, Nat.reduceLeDiff, Nat.reduceLT, Nat.le_refl, Nat.zero_le, ht, g, nu_i, nu_tn, l1, l2, A1, e1, A2, Bool.false_eq_true, Bool.true_eq_false, if_true, if_false, not_true_eq_false, not_false_eq_true, zle, eq_self]
    · rw [drop_map (by omega)]
      have : bs ++ Int32.ofNat ((ip_tb.getD t []).getD i 0) :: ((ip_tb.getD t []).drop (i + 1)).map Int32.ofNat = (bs ++ [Int32.ofNat ((ip_tb.getD t []).getD i 0)]) ++ ((ip_tb.getD t []).drop (i + 1)).map Int32.ofNat := by simp
      rw [this]; exact W2
theorem c273 (hR : LYR R) (ht : t < 39) (hl : (wrd t).length ≤ 100) (W : WM bs I J) (hb : bs.length + (wrd t).length ≤ 256) : ∃ J', (∀ d, cf (d + 1) 273 [.ref 265, .ref (tx t)] (SH n, J, L, R, nc, ns, nx) = some (.inl none, (SH n, J', L, R, nc, ns, nx))) ∧ WM (bs ++ wrd t) I J' := by
  have e : (wrd t).length = (ip_tb.getD t []).length := by unfold wrd; rw [List.length_map]
  obtain ⟨J', A, B⟩ := t273 (n := n) (L := L) (nc := nc) (ns := ns) (nx := nx) hR ht (ip_tb.getD t []).length 0 J bs (by omega) (by omega) W (by omega)
  refine ⟨J', fun d => ?_, by rw [List.drop_zero] at B; exact B⟩
  have A := A d
  simp only [en273, e273_0, e273_1, e273_3, e273_4, e273_7, e273_10, e273_11, e273_12, e273_13, e273_16, e273_19, e273_22, e273_25, rk_n, rk_v, nl_n, nl_i, nl_r, cat_n, ip_cat_int, ip_cat_ref, ip_cat_long, ip_rf_some, Nat.reduceAdd, Nat.reduceLeDiff, Nat.reduceLT, Nat.le_refl, Nat.zero_le, Bool.false_eq_true, Bool.true_eq_false, if_true, if_false, not_true_eq_false, not_false_eq_true, zle, eq_self]
  exact A
/-! letters -/
theorem c50n (hR : LYR R) (hT : isT T) (k8 : k < 8) (i6 : i < 6) (z1 : ls.length ≤ 6) (z3 : okl ls) (z4 : I (T + 1) (6 * k + i) = Int32.ofNat (if i < ls.length then 96 + ls.getD i 0 else 0)) : cf d 50 [.ref T, .int (Int32.ofNat k), .int (Int32.ofNat i)] (SH n, I, L, R, nc, ns, nx) = some (.inl (some (.int (if i < ls.length then Int32.ofNat (96 + ls.getD i 0) else -1))), (SH n, I, L, R, nc, ns, nx)) := by
  have g1 : ¬ Int32.ofNat i < 0 := nu_nn (by omega)
  have g6 : ((6 : Int32) ≤ Int32.ofNat i) = False := eq_false (fun e => by have := (nu_le (t := 6) (by omega) (by omega)).mp e; omega)
  have em : Int32.ofNat k * 6 + Int32.ofNat i = Int32.ofNat (6 * k + i) := by
    have : Int32.ofNat k * 6 = Int32.ofNat (k * 6) := (Int32.ofNat_mul _ _).symm
    rw [this, nu_add, Nat.mul_comm]
  have ln : 6 * k + i < 2147483648 := by omega
  have l48 : 6 * k + i < 48 := by omega
  by_cases g : i < ls.length
  · rw [if_pos g] at z4
    have xi := z3 (ls.getD i 0) (by rw [getD_in g]; exact List.getElem_mem g)
    have nz : ¬ Int32.ofNat (96 + ls.getD i 0) = 0 := fun e => by have := (nu_inj (s := 0) (by omega) (by omega)).mp e; omega
    simp only [en50, e50_0, e50_1, e50_4, e50_5, e50_7, e50_10, e50_11, e50_14, e50_15, e50_17, e50_18, e50_19, e50_20, e50_21, e50_24, e50_25, e50_26, e50_27, e50_30, e50_31, e50_33, e50_34, e50_35, e50_36, e50_37, rk_n, rk_v, nl_n, nl_i, nl_r, cat_n, ip_cat_int, ip_cat_ref, ip_cat_long, ip_rf_some, Nat.reduceAdd, Nat.reduceLeDiff, Nat.reduceLT, Nat.le_refl, Nat.zero_le, hR, hT, g1, g6, em, ia_T1, nu_i, nu_tn, ln, l48, z4, nz, g, Bool.false_eq_true, Bool.true_eq_false, if_true, if_false, not_true_eq_false, not_false_eq_true, zle, eq_self]
  · rw [if_neg g] at z4
    have z4 : I (T + 1) (6 * k + i) = 0 := z4
    simp only [en50, e50_0, e50_1, e50_4, e50_5, e50_7, e50_10, e50_11, e50_14, e50_15, e50_17, e50_18, e50_19, e50_20, e50_21, e50_24, e50_25, e50_26, e50_27, e50_30, e50_31, e50_33, e50_34, e50_35, e50_36, e50_37, rk_n, rk_v, nl_n, nl_i, nl_r, cat_n, ip_cat_int, ip_cat_ref, ip_cat_long, ip_rf_some, Nat.reduceAdd, Nat.reduceLeDiff, Nat.reduceLT, Nat.le_refl, Nat.zero_le, hR, hT, g1, g6, em, ia_T1, nu_i, nu_tn, ln, l48, z4, g, Bool.false_eq_true, Bool.true_eq_false, if_true, if_false, not_true_eq_false, not_false_eq_true, zle, eq_self]
theorem t168 (hR : LYR R) (rT : R 2 4 = some T) (hT : isT T) (hT2 : T < 20) (k8 : k < 8) (z1 : ls.length ≤ 6) (z3 : okl ls) (z4 : ∀ i, i < 6 → I (T + 1) (6 * k + i) = Int32.ofNat (if i < ls.length then 96 + ls.getD i 0 else 0)) : ∀ m i J bs, i + m = 6 → i ≤ ls.length → WC bs I J → bs.length + m ≤ 256 → ∃ J' x, (∀ d, rf (d + 1) 168 11 [some (.ref 2), some (.ref a), some (.int (Int32.ofNat k)), some (.int (Int32.ofNat i))] [] (SH n, J, L, R, nc, ns, nx) = rf (d + 1) 168 52 [some (.ref 2), some (.ref a), some (.int (Int32.ofNat k)), some (.int x)] [] (SH n, J', L, R, nc, ns, nx)) ∧ WC (bs ++ lt_ (ls.drop i)) I J' := by
  intro m
  induction m with
  | zero =>
    intro i J bs h1 h2 W hb
    refine ⟨J, Int32.ofNat i, fun d => ?_, ?_⟩
    · have g : ((6 : Int32) ≤ Int32.ofNat i) = True := eq_true ((nu_le (t := 6) (by omega) (by omega)).mpr (by omega))
      rw [e168_11]
      simp only [e168_12, e168_14, g, Bool.false_eq_true, Bool.true_eq_false, if_true, if_false, not_true_eq_false, not_false_eq_true, zle, eq_self]
    · rw [List.drop_eq_nil_of_le (by omega)]; unfold lt_; rw [List.map_nil, List.append_nil]; exact W
  | succ m ih =>
    intro i J bs h1 h2 W hb
    have g6 : ((6 : Int32) ≤ Int32.ofNat i) = False := eq_false (fun e => by have := (nu_le (t := 6) (by omega) (by omega)).mp e; omega)
    have zj : J (T + 1) (6 * k + i) = Int32.ofNat (if i < ls.length then 96 + ls.getD i 0 else 0) := by rw [W.1 (T + 1) _ (by omega)]; exact z4 i (by omega)
    have C5 := fun d => c50n (d := d) (n := n) (I := J) (L := L) (nc := nc) (ns := ns) (nx := nx) hR hT k8 (by omega) z1 z3 zj
    by_cases g : i < ls.length
    · have xi := z3 (ls.getD i 0) (by rw [getD_in g]; exact List.getElem_mem g)
      have nz : ¬ Int32.ofNat (96 + ls.getD i 0) = -1 := fun e => nu_nn (t := 96 + ls.getD i 0) (by omega) (by rw [e]; decide)
      obtain ⟨J1, A1, W1⟩ := cw (n := n) (L := L) (nc := nc) (ns := ns) (nx := nx) hR W (by omega) (Int32.ofNat (96 + ls.getD i 0))
      obtain ⟨J2, y, A2, W2⟩ := ih (i + 1) J1 _ (by omega) (by omega) W1 (by simp; omega)
      have e1 : Int32.ofNat i + 1 = Int32.ofNat (i + 1) := nu_add (s := 1)
      refine ⟨J2, y, fun d => ?_, ?_⟩
      · rw [e168_11, ← A2 d]
        simp only [e168_0, e168_1, e168_4, e168_6, e168_9, e168_10, e168_12, e168_14, e168_17, e168_18, e168_21, e168_22, e168_23, e168_26, e168_27, e168_30, e168_31, e168_34, e168_35, e168_38, e168_39, e168_40, e168_43, e168_46, e168_49, e168_52, e168_53, e168_54, e168_55, e168_56, e168_57, e168_60, e168_61, e168_62, e168_65, e168_66, e168_69, e168_71, e168_74, e168_77, e168_78, e168_81, e168_83, e168_86, e168_87, e168_90, e168_92, e168_93, e168_94, e168_97, e168_98, e168_101, e168_102, e168_105, e168_106, e168_107, e168_110, e168_111, e168_114, e168_116, e168_119, rk_n, rk_v, nl_n, nl_i, nl_r, cat_n, ip_cat_int, ip_cat_ref, ip_cat_long, ip_rf_some, Nat.reduceAdd, Nat.reduceLeDiff, Nat.reduceLT, Nat.le_refl, Nat.zero_le, hR, rT, hT, g6, C5, g, nz, A1, e1, Bool.false_eq_true, Bool.true_eq_false, if_true, if_false, not_true_eq_false, not_false_eq_true, zle, eq_self]
      · unfold lt_ at W2 ⊢
        rw [drop_map g]
        have : bs ++ Int32.ofNat (96 + ls.getD i 0) :: (ls.drop (i + 1)).map (fun x => Int32.ofNat (96 + x)) = (bs ++ [Int32.ofNat (96 + ls.getD i 0)]) ++ (ls.drop (i + 1)).map (fun x => Int32.ofNat (96 + x)) := by simp
        rw [this]; exact W2
    · refine ⟨J, Int32.ofNat i, fun d => ?_, ?_⟩
      · rw [e168_11]
        simp only [e168_12, e168_14, e168_17, e168_18, e168_21, e168_22, e168_23, e168_26, e168_27, rk_n, rk_v, nl_n, nl_i, nl_r, cat_n, ip_cat_int, ip_cat_ref, ip_cat_long, ip_rf_some, Nat.reduceAdd, Nat.reduceLeDiff, Nat.reduceLT, Nat.le_refl, Nat.zero_le, rT, hT, g6, C5, g, Bool.false_eq_true, Bool.true_eq_false, if_true, if_false, not_true_eq_false, not_false_eq_true, zle, eq_self]
      · rw [List.drop_eq_nil_of_le (by omega)]; unfold lt_; rw [List.map_nil, List.append_nil]; exact W
theorem c168 (hR : LYR R) (rT : R 2 4 = some T) (hT : isT T) (hT2 : T < 20) (k8 : k < 8) (z1 : ls.length ≤ 6) (z3 : okl ls) (z4 : ∀ i, i < 6 → I (T + 1) (6 * k + i) = Int32.ofNat (if i < ls.length then 96 + ls.getD i 0 else 0)) (ha : isN a) (hr : a ≥ 65) (i6 : I a 6 = Int32.ofNat s6) (i4 : I a 4 = Int32.ofNat s4) (i7 : I a 7 = Int32.ofNat s7) (l6 : s6 < 256) (l4 : s4 < 256) (l7 : s7 < 256) (W : WC bs I J) (hb : bs.length + 10 ≤ 256) : ∃ J', (∀ d, cf (d + 1) 168 [.ref 2, .ref a, .int (Int32.ofNat k)] (SH n, J, L, R, nc, ns, nx) = some (.inl none, (SH n, J', L, R, nc, ns, nx))) ∧ WC (bs ++ isB ls (s6.testBit k) (s4.testBit k) (s7.testBit k)) I J' := by
  obtain ⟨J1, A1, W1⟩ := cw (n := n) (L := L) (nc := nc) (ns := ns) (nx := nx) hR W (by omega) 32
  obtain ⟨J2, y, A2, W2⟩ := t168 (n := n) (L := L) (nc := nc) (ns := ns) (nx := nx) (a := a) hR rT hT hT2 k8 z1 z3 z4 6 0 J1 _ (by omega) (by omega) W1 (by simp; omega)
  rw [List.drop_zero] at W2
  have len2 : (bs ++ [32] ++ lt_ ls).length ≤ bs.length + 7 := by unfold lt_; simp; omega
  have i6' : J2 a 6 = Int32.ofNat s6 := by rw [W2.1 a 6 (by omega)]; exact i6
  have sh := sh1 k k8
  have b6 := bit_2 (s := s6) (k := k) l6 k8
  have b4 := bit_2 (s := s4) (k := k) l4 k8
  have b7 := bit_2 (s := s7) (k := k) l7 k8
  have last : ∀ J3 bs3, WC bs3 I J3 → bs3.length < 256 → ∃ J', (∀ d, rf (d + 1) 168 101 [some (.ref 2), some (.ref a), some (.int (Int32.ofNat k)), some (.int (Int32.ofNat (2 ^ k)))] [] (SH n, J3, L, R, nc, ns, nx) = some (.inl none, (SH n, J', L, R, nc, ns, nx))) ∧ WC (bs3 ++ (if s7.testBit k = true then [33] else [])) I J' := by
    intro J3 bs3 W3 h3
    have i7' : J3 a 7 = Int32.ofNat s7 := by rw [W3.1 a 7 (by omega)]; exact i7
    cases e7 : s7.testBit k with
    | true =>
      obtain ⟨J4, A4, W4⟩ := cw (n := n) (L := L) (nc := nc) (ns := ns) (nx := nx) hR W3 h3 33
      refine ⟨J4, fun d => ?_, by simpa using W4⟩
      simp only [e168_0, e168_1, e168_4, e168_6, e168_9, e168_10, e168_12, e168_14, e168_17, e168_18, e168_21, e168_22, e168_23, e168_26, e168_27, e168_30, e168_31, e168_34, e168_35, e168_38, e168_39, e168_40, e168_43, e168_46, e168_49, e168_52, e168_53, e168_54, e168_55, e168_56, e168_57, e168_60, e168_61, e168_62, e168_65, e168_66, e168_69, e168_71, e168_74, e168_77, e168_78, e168_81, e168_83, e168_86, e168_87, e168_90, e168_92, e168_93, e168_94, e168_97, e168_98, e168_101, e168_102, e168_105, e168_106, e168_107, e168_110, e168_111, e168_114, e168_116, e168_119, rk_n, rk_v, nl_n, nl_i, nl_r, cat_n, ip_cat_int, ip_cat_ref, ip_cat_long, ip_rf_some, Nat.reduceAdd, Nat.reduceLeDiff, Nat.reduceLT, Nat.le_refl, Nat.zero_le, hR, ha, i7', b7, e7, A4, Bool.false_eq_true, Bool.true_eq_false, if_true, if_false, not_true_eq_false, not_false_eq_true, zle, eq_self]
    | false =>
      refine ⟨J3, fun d => ?_, by simpa using W3⟩
      simp only [e168_0, e168_1, e168_4, e168_6, e168_9, e168_10, e168_12, e168_14, e168_17, e168_18, e168_21, e168_22, e168_23, e168_26, e168_27, e168_30, e168_31, e168_34, e168_35, e168_38, e168_39, e168_40, e168_43, e168_46, e168_49, e168_52, e168_53, e168_54, e168_55, e168_56, e168_57, e168_60, e168_61, e168_62, e168_65, e168_66, e168_69, e168_71, e168_74, e168_77, e168_78, e168_81, e168_83, e168_86, e168_87, e168_90, e168_92, e168_93, e168_94, e168_97, e168_98, e168_101, e168_102, e168_105, e168_106, e168_107, e168_110, e168_111, e168_114, e168_116, e168_119, rk_n, rk_v, nl_n, nl_i, nl_r, cat_n, ip_cat_int, ip_cat_ref, ip_cat_long, ip_rf_some, Nat.reduceAdd, Nat.reduceLeDiff, Nat.reduceLT, Nat.le_refl, Nat.zero_le, hR, ha, i7', b7, e7, Bool.false_eq_true, Bool.true_eq_false, if_true, if_false, not_true_eq_false, not_false_eq_true, zle, eq_self]
  cases e6 : s6.testBit k with
  | true =>
    obtain ⟨J3, A3, W3⟩ := cw (n := n) (L := L) (nc := nc) (ns := ns) (nx := nx) hR W2 (by omega) 63
    obtain ⟨J4, A4, W4⟩ := last J3 _ W3 (by simp at len2 ⊢; omega)
    refine ⟨J4, fun d => ?_, ?_⟩
    · have A2 := A2 d
      have A4 := A4 d
      have A2 : rf (d + 1) 168 11 [some (.ref 2), some (.ref a), some (.int (Int32.ofNat k)), some (.int 0)] [] (SH n, J1, L, R, nc, ns, nx) = _ := A2
      simp only [en168, e168_0, e168_1, e168_4, e168_6, e168_9, e168_10, e168_12, e168_14, e168_17, e168_18, e168_21, e168_22, e168_23, e168_26, e168_27, e168_30, e168_31, e168_34, e168_35, e168_38, e168_39, e168_40, e168_43, e168_46, e168_49, e168_52, e168_53, e168_54, e168_55, e168_56, e168_57, e168_60, e168_61, e168_62, e168_65, e168_66, e168_69, e168_71, e168_74, e168_77, e168_78, e168_81, e168_83, e168_86, e168_87, e168_90, e168_92, e168_93, e168_94, e168_97, e168_98, e168_101, e168_102, e168_105, e168_106, e168_107, e168_110, e168_111, e168_114, e168_116, e168_119, rk_n, rk_v, nl_n, nl_i, nl_r, cat_n, ip_cat_int, ip_cat_ref, ip_cat_long, ip_rf_some, Nat.reduceAdd, Nat.reduceLeDiff, Nat.reduceLT, Nat.le_refl, Nat.zero_le, hR, A1, Bool.false_eq_true, Bool.true_eq_false, if_true, if_false, not_true_eq_false, not_false_eq_true, zle, eq_self]
      rw [A2]
      simp only [e168_0, e168_1, e168_4, e168_6, e168_9, e168_10, e168_12, e168_14, e168_17, e168_18, e168_21, e168_22, e168_23, e168_26, e168_27, e168_30, e168_31, e168_34, e168_35, e168_38, e168_39, e168_40, e168_43, e168_46, e168_49, e168_52, e168_53, e168_54, e168_55, e168_56, e168_57, e168_60, e168_61, e168_62, e168_65, e168_66, e168_69, e168_71, e168_74, e168_77, e168_78, e168_81, e168_83, e168_86, e168_87, e168_90, e168_92, e168_93, e168_94, e168_97, e168_98, e168_101, e168_102, e168_105, e168_106, e168_107, e168_110, e168_111, e168_114, e168_116, e168_119, rk_n, rk_v, nl_n, nl_i, nl_r, cat_n, ip_cat_int, ip_cat_ref, ip_cat_long, ip_rf_some, Nat.reduceAdd, Nat.reduceLeDiff, Nat.reduceLT, Nat.le_refl, Nat.zero_le, hR, ha, sh, i6', b6, e6, A3, Bool.false_eq_true, Bool.true_eq_false, if_true, if_false, not_true_eq_false, not_false_eq_true, zle, eq_self] at A4 ⊢
      exact A4
    · have : bs ++ isB ls true (s4.testBit k) (s7.testBit k) = bs ++ [32] ++ lt_ ls ++ [63] ++ (if s7.testBit k = true then [33] else []) := by unfold isB; simp
      rw [this]; exact W4
  | false =>
    obtain ⟨J3, A3, W3⟩ := cw (n := n) (L := L) (nc := nc) (ns := ns) (nx := nx) hR W2 (by omega) 61
    have i4' : J3 a 4 = Int32.ofNat s4 := by rw [W3.1 a 4 (by omega)]; exact i4
    have C17 := fun d x => c117 (d := d) (n := n) (I := J3) (L := L) (R := R) (nc := nc) (ns := ns) (nx := nx) (x := x) ha
    obtain ⟨J4, A4, W4⟩ := cw (n := n) (L := L) (nc := nc) (ns := ns) (nx := nx) hR W3 (by simp at len2 ⊢; omega) (if s4.testBit k = true then 48 else 49)
    obtain ⟨J5, A5, W5⟩ := last J4 _ W4 (by simp at len2 ⊢; omega)
    refine ⟨J5, fun d => ?_, ?_⟩
    · have A2 := A2 d
      have A5 := A5 d
      have A2 : rf (d + 1) 168 11 [some (.ref 2), some (.ref a), some (.int (Int32.ofNat k)), some (.int 0)] [] (SH n, J1, L, R, nc, ns, nx) = _ := A2
      have e48 : (48 : Int32) + (if s4.testBit k = false then 1 else 0) = if s4.testBit k = true then 48 else 49 := by cases s4.testBit k <;> decide
      simp only [en168, e168_0, e168_1, e168_4, e168_6, e168_9, e168_10, e168_12, e168_14, e168_17, e168_18, e168_21, e168_22, e168_23, e168_26, e168_27, e168_30, e168_31, e168_34, e168_35, e168_38, e168_39, e168_40, e168_43, e168_46, e168_49, e168_52, e168_53, e168_54, e168_55, e168_56, e168_57, e168_60, e168_61, e168_62, e168_65, e168_66, e168_69, e168_71, e168_74, e168_77, e168_78, e168_81, e168_83, e168_86, e168_87, e168_90, e168_92, e168_93, e168_94, e168_97, e168_98, e168_101, e168_102, e168_105, e168_106, e168_107, e168_110, e168_111, e168_114, e168_116, e168_119, rk_n, rk_v, nl_n, nl_i, nl_r, cat_n, ip_cat_int, ip_cat_ref, ip_cat_long, ip_rf_some, Nat.reduceAdd, Nat.reduceLeDiff, Nat.reduceLT, Nat.le_refl, Nat.zero_le, hR, A1, Bool.false_eq_true, Bool.true_eq_false, if_true, if_false, not_true_eq_false, not_false_eq_true, zle, eq_self]
      rw [A2]
      simp only [e168_0, e168_1, e168_4, e168_6, e168_9, e168_10, e168_12, e168_14, e168_17, e168_18, e168_21, e168_22, e168_23, e168_26, e168_27, e168_30, e168_31, e168_34, e168_35, e168_38, e168_39, e168_40, e168_43, e168_46, e168_49, e168_52, e168_53, e168_54, e168_55, e168_56, e168_57, e168_60, e168_61, e168_62, e168_65, e168_66, e168_69, e168_71, e168_74, e168_77, e168_78, e168_81, e168_83, e168_86, e168_87, e168_90, e168_92, e168_93, e168_94, e168_97, e168_98, e168_101, e168_102, e168_105, e168_106, e168_107, e168_110, e168_111, e168_114, e168_116, e168_119, rk_n, rk_v, nl_n, nl_i, nl_r, cat_n, ip_cat_int, ip_cat_ref, ip_cat_long, ip_rf_some, Nat.reduceAdd, Nat.reduceLeDiff, Nat.reduceLT, Nat.le_refl, Nat.zero_le, hR, ha, sh, i6', i4', b6, b4, e6, A3, C17, e48, A4, Bool.false_eq_true, Bool.true_eq_false, if_true, if_false, not_true_eq_false, not_false_eq_true, zle, eq_self] at A5 ⊢
      exact A5
    · have : bs ++ isB ls false (s4.testBit k) (s7.testBit k) = bs ++ [32] ++ lt_ ls ++ [61] ++ [if s4.testBit k = true then 48 else 49] ++ (if s7.testBit k = true then [33] else []) := by unfold isB; simp
      rw [this]; exact W5
end S29
