/-! READ: names, numbers, signs -/
def fIx (f : Nat → List Nat) (c : Nat) (w : List Nat) : Int32 := match ffs (fun k => decide (f k = w)) c 0 with | some k => Int32.ofNat k | none => -1
theorem ffs_case (P : Nat → Bool) : ∀ m k, (ffs P m k = none ∧ ∀ i, k ≤ i → i < k + m → P i = false) ∨ ∃ j, ffs P m k = some j ∧ k ≤ j ∧ j < k + m ∧ P j = true ∧ ∀ i, k ≤ i → i < j → P i = false := by
  intro m
  induction m with
  | zero => intro k; exact Or.inl ⟨rfl, fun i h1 h2 => by omega⟩
  | succ m ih =>
    intro k
    rw [ffs]
    cases h : P k with
    | true => rw [if_pos rfl]; exact Or.inr ⟨k, rfl, by omega, by omega, h, fun i h1 h2 => by omega⟩
    | false =>
      rw [if_neg (by decide)]
      rcases ih (k + 1) with ⟨a, b⟩ | ⟨j, a1, a2, a3, a4, a5⟩
      · refine Or.inl ⟨a, fun i h1 h2 => ?_⟩
        by_cases e : i = k
        · subst e; exact h
        · exact b i (by omega) (by omega)
      · refine Or.inr ⟨j, a1, by omega, by omega, a4, fun i h1 h2 => ?_⟩
        by_cases e : i = k
        · subst e; exact h
        · exact a5 i (by omega) h2
theorem fIx_case {f : Nat → List Nat} {c : Nat} {w : List Nat} : (fIx f c w = -1 ∧ ∀ i, i < c → ¬ f i = w) ∨ ∃ k, k < c ∧ f k = w ∧ fIx f c w = Int32.ofNat k := by
  unfold fIx
  rcases ffs_case (fun k => decide (f k = w)) c 0 with ⟨a, b⟩ | ⟨j, a1, a2, a3, a4, a5⟩
  · rw [a]; exact Or.inl ⟨rfl, fun i hi => of_decide_eq_false (b i (by omega) (by omega))⟩
  · rw [a1]; exact Or.inr ⟨j, by omega, of_decide_eq_true a4, rfl⟩
theorem lg_nm {a v : Nat} (h1 : 1 ≤ v) (h2 : v ≤ 26) : 32 * Int64.ofNat a + (Int32.ofNat (96 + v)).toInt64 - 97 + 1 = Int64.ofNat (32 * a + v) := by
  have e1 : (Int32.ofNat (96 + v)).toInt64 = Int64.ofNat (96 + v) := by
    rw [← Int64.toInt_inj, Int32.toInt_toInt64, nu_int (by omega), lg_int (by omega)]
  have e2 : 32 * Int64.ofNat a = Int64.ofNat (32 * a) := (Int64.ofNat_mul 32 a).symm
  rw [e1, e2, ← Int64.ofNat_add]
  have e3 : Int64.ofNat (32 * a + (96 + v)) = Int64.ofNat (32 * a + (v - 1)) + 97 := by
    rw [show 32 * a + (96 + v) = (32 * a + (v - 1)) + 97 by omega]
    exact Int64.ofNat_add _ _
  rw [e3, Int64.add_sub_cancel]
  have e4 : Int64.ofNat (32 * a + (v - 1)) + 1 = Int64.ofNat (32 * a + (v - 1) + 1) := (Int64.ofNat_add _ _).symm
  rw [e4]; congr 1; omega
/-- letters, one by one -/
def ltN (l : List Nat) (i : Nat) : Int32 := if i < l.length then Int32.ofNat (96 + l.getD i 0) else -1
def eqF (a b : List Nat) : Nat → Nat → Bool
  | 0, _ => true
  | m + 1, i => decide (ltN a i = ltN b i) && eqF a b m (i + 1)
theorem eqF_at (a b : List Nat) : ∀ m i, eqF a b m i = true ↔ ∀ j, i ≤ j → j < i + m → ltN a j = ltN b j := by
  intro m
  induction m with
  | zero => intro i; exact ⟨fun _ j h1 h2 => by omega, fun _ => rfl⟩
  | succ m ih =>
    intro i
    rw [eqF, Bool.and_eq_true, decide_eq_true_iff, ih (i + 1)]
    constructor
    · rintro ⟨h1, h2⟩ j h3 h4
      by_cases e : j = i
      · subst e; exact h1
      · exact h2 j (by omega) (by omega)
    · intro h
      exact ⟨h i (by omega) (by omega), fun j h1 h2 => h j (by omega) (by omega)⟩
theorem eqF_6 {a b : List Nat} (ha : okl a) (hb : okl b) (la : a.length ≤ 6) (lb : b.length ≤ 6) : eqF a b 6 0 = decide (a = b) := by
  have gx : ∀ {l : List Nat} {i : Nat}, okl l → i < l.length → 1 ≤ l.getD i 0 ∧ l.getD i 0 ≤ 26 := fun {l i} h hi => h _ (by rw [getD_in hi]; exact List.getElem_mem hi)
  have nn : ∀ v, v ≤ 26 → ¬ Int32.ofNat (96 + v) = -1 := fun v hv e => nu_nn (t := 96 + v) (by omega) (by rw [e]; decide)
  by_cases e : a = b
  · subst e
    rw [decide_eq_true rfl]
    exact (eqF_at a a 6 0).mpr (fun _ _ _ => rfl)
  · rw [decide_eq_false e]
    cases h : eqF a b 6 0 with
    | false => rfl
    | true =>
      exfalso
      apply e
      have H := (eqF_at a b 6 0).mp h
      have le : a.length = b.length := by
        refine Classical.byContradiction (fun ne => ?_)
        rcases Nat.lt_or_gt_of_ne ne with q | q
        · have := H a.length (by omega) (by omega)
          unfold ltN at this
          rw [if_neg (by omega), if_pos q] at this
          exact nn _ (gx hb q).2 this.symm
        · have := H b.length (by omega) (by omega)
          unfold ltN at this
          rw [if_pos q, if_neg (by omega)] at this
          exact nn _ (gx ha q).2 this
      refine List.ext_getElem le (fun i i1 i2 => ?_)
      have := H i (by omega) (by omega)
      unfold ltN at this
      rw [if_pos i1, if_pos i2] at this
      have g1 := gx ha i1
      have g2 := gx hb i2
      have := (nu_inj (by omega) (by omega)).mp this
      rw [getD_in i1, getD_in i2] at this
      omega
section NMS
variable {n d a b c k t p T τ j : Nat} {B : Nat → Int32} {I J K : Nat → Nat → Int32} {L L' : Nat → Nat → Int64} {R R' : Nat → Nat → Option Nat} {nc ns : Nat} {nx : Bool} {x y : Int32} {h : ip_H} {ws : List Nat} {f : Nat → List Nat}
theorem t201 (hR : LYR R) (ht : t ≤ 400) (X : RM B t p J) (hp : p ≤ t) (h6 : rnn lxL B t p - p ≤ 6) : ∀ m i, i + m = rnn lxL B t p - p → rf d 201 10 [some (.ref 265), some (.long (Int64.ofNat (pck ((wl B t p).take i)))), none, some (.int (Int32.ofNat (rnn lxL B t p - p))), some (.int (Int32.ofNat i))] [] (SH n, J, L, R, nc, ns, nx) = some (.inl (some (.long (Int64.ofNat (pck (wl B t p))))), (SH n, J, L, R, nc, ns, nx)) := by
  obtain ⟨h3, h4, hb⟩ := X
  have rl := rnn_le (P := lxL) (B := B) (t := t) _ p (Nat.le_refl _) hp
  intro m
  induction m with
  | zero =>
    intro i hi
    have g : (Int32.ofNat (rnn lxL B t p - p) ≤ Int32.ofNat i) = True := eq_true ((nu_le (by omega) (by omega)).mpr (by omega))
    rw [List.take_of_length_le (by rw [wl_len]; omega), e201_10]
    simp only [e201_0, e201_1, e201_2, e201_3, e201_6, e201_7, e201_8, e201_12, e201_13, e201_16, e201_19, e201_20, e201_21, e201_22, e201_25, e201_26, e201_29, e201_31, e201_32, e201_33, e201_34, e201_35, e201_38, e201_39, e201_40, e201_41, e201_42, e201_45, e201_48, e201_49, rk_n, rk_v, nl_n, nl_i, nl_r, cat_n, ip_cat_int, ip_cat_ref, ip_cat_long, ip_rf_some, Nat.reduceAdd, Nat.reduceLeDiff, Nat.reduceLT, Nat.le_refl, Nat.zero_le, g, Bool.false_eq_true, Bool.true_eq_false, if_true, if_false, not_true_eq_false, not_false_eq_true, zle, eq_self]
  | succ m ih =>
    intro i hi
    have g : (Int32.ofNat (rnn lxL B t p - p) ≤ Int32.ofNat i) = False := eq_false (fun e => by have := (nu_le (by omega) (by omega)).mp e; omega)
    have e1 : Int32.ofNat i + 1 = Int32.ofNat (i + 1) := nu_add (s := 1)
    have l3 : p + i < 2147483648 := by omega
    have l4 : p + i < 400 := by omega
    obtain ⟨v, v1, v2, v3, v4⟩ := lxL_v (rnn_all (P := lxL) (B := B) (t := t) _ p (Nat.le_refl _) (p + i) (by omega) (by omega))
    have wi : i < (wl B t p).length := by rw [wl_len]; omega
    have tk : (wl B t p).take (i + 1) = (wl B t p).take i ++ [v] := by
      rw [List.take_succ_eq_append_getElem wi, ← getD_in wi, wl_at (by omega), v4]
      congr 2; omega
    have IH := ih (i + 1) (by omega)
    rw [tk, pck_snoc, ← lg_nm v1 v2] at IH
    have v3 := (hb (p + i) (by omega)).trans v3
    rw [← IH, e201_10]
    simp only [e201_0, e201_1, e201_2, e201_3, e201_6, e201_7, e201_8, e201_12, e201_13, e201_16, e201_19, e201_20, e201_21, e201_22, e201_25, e201_26, e201_29, e201_31, e201_32, e201_33, e201_34, e201_35, e201_38, e201_39, e201_40, e201_41, e201_42, e201_45, e201_48, e201_49, rk_n, rk_v, nl_n, nl_i, nl_r, cat_n, ip_cat_int, ip_cat_ref, ip_cat_long, ip_rf_some, Nat.reduceAdd, Nat.reduceLeDiff, Nat.reduceLT, Nat.le_refl, Nat.zero_le, hR, g, h4, nu_add, ia_lit, nu_i, nu_tn, l3, l4, v3, e1, Bool.false_eq_true, Bool.true_eq_false, if_true, if_false, not_true_eq_false, not_false_eq_true, zle, eq_self]
theorem c201 (hR : LYR R) (ht : t ≤ 400) (hB : ∀ i, i < t → ¬ B i = -1) (X : RM B t a J) (ha : a ≤ t) (hs : skT B t a = p) (h6 : rnn lxL B t p - p ≤ 6) : cf (d + 2) 201 [.ref 265] (SH n, J, L, R, nc, ns, nx) = some (.inl (some (.long (Int64.ofNat (pck (wl B t p))))), (SH n, atM J p, L, R, nc, ns, nx)) := by
  have C := fun d => c195 (d := d) (n := n) (L := L) (nc := nc) (ns := ns) (nx := nx) hR ht hB X ha hs
  have hp : p ≤ t := hs ▸ (skT_le ha).2
  have A := t201 (d := d + 2) (n := n) (L := L) (nc := nc) (ns := ns) (nx := nx) hR ht (RM_at (p := p) X) hp h6 (rnn lxL B t p - p) 0 (by omega)
  rw [List.take_zero] at A
  have A : rf (d + 2) 201 10 [some (.ref 265), some (.long 0), none, some (.int (Int32.ofNat (rnn lxL B t p - p))), some (.int 0)] [] (SH n, atM J p, L, R, nc, ns, nx) = _ := A
  rw [← A]
  simp only [en201, e201_0, e201_1, e201_2, e201_3, e201_6, e201_7, e201_8, e201_12, e201_13, e201_16, e201_19, e201_20, e201_21, e201_22, e201_25, e201_26, e201_29, e201_31, e201_32, e201_33, e201_34, e201_35, e201_38, e201_39, e201_40, e201_41, e201_42, e201_45, e201_48, e201_49, rk_n, rk_v, nl_n, nl_i, nl_r, cat_n, ip_cat_int, ip_cat_ref, ip_cat_long, ip_rf_some, Nat.reduceAdd, Nat.reduceLeDiff, Nat.reduceLT, Nat.le_refl, Nat.zero_le, C, Bool.false_eq_true, Bool.true_eq_false, if_true, if_false, not_true_eq_false, not_false_eq_true, zle, eq_self]
/-- issueHere -/
theorem t200 (hR : LYR R) (hc8 : c ≤ 8) (h6 : J 265 6 = Int32.ofNat c) (ho : okl ws) (hl : ws.length ≤ 6) (F : ∀ k, k < c → okl (f k) ∧ (f k).length ≤ 6 ∧ L 267 k = Int64.ofNat (pck (f k))) : ∀ m k, k + m = c → rf d 200 7 [some (.ref 265), some (.long (Int64.ofNat (pck ws))), none, some (.int (Int32.ofNat k))] [] (SH n, J, L, R, nc, ns, nx) = some (.inl (some (.int (match ffs (fun k => decide (f k = ws)) m k with | some k => Int32.ofNat k | none => -1))), (SH n, J, L, R, nc, ns, nx)) := by
  intro m
  induction m with
  | zero =>
    intro k hk
    have g : (Int32.ofNat c ≤ Int32.ofNat k) = True := eq_true ((nu_le (by omega) (by omega)).mpr (by omega))
    rw [ffs, e200_7]
    simp only [e200_0, e200_1, e200_4, e200_5, e200_6, e200_8, e200_9, e200_12, e200_15, e200_16, e200_19, e200_20, e200_21, e200_22, e200_23, e200_26, e200_27, e200_28, e200_31, e200_34, e200_35, rk_n, rk_v, nl_n, nl_i, nl_r, cat_n, ip_cat_int, ip_cat_ref, ip_cat_long, ip_rf_some, Nat.reduceAdd, Nat.reduceLeDiff, Nat.reduceLT, Nat.le_refl, Nat.zero_le, h6, g, Bool.false_eq_true, Bool.true_eq_false, if_true, if_false, not_true_eq_false, not_false_eq_true, zle, eq_self]
  | succ m ih =>
    intro k hk
    have g : (Int32.ofNat c ≤ Int32.ofNat k) = False := eq_false (fun e => by have := (nu_le (by omega) (by omega)).mp e; omega)
    have e1 : Int32.ofNat k + 1 = Int32.ofNat (k + 1) := nu_add (s := 1)
    have l1 : k < 2147483648 := by omega
    have l2 : k < 8 := by omega
    obtain ⟨o1, o2, o3⟩ := F k (by omega)
    have p1 := pck_30 o1 o2
    have p2 := pck_30 ho hl
    rw [ffs, e200_7]
    by_cases h : f k = ws
    · have z : (lg_cmp (Int64.ofNat (pck (f k))) (Int64.ofNat (pck ws)) = 0) = True := by rw [lg_cz]; exact eq_true (by rw [h])
      rw [decide_eq_true h, if_pos rfl]
      simp only [e200_0, e200_1, e200_4, e200_5, e200_6, e200_8, e200_9, e200_12, e200_15, e200_16, e200_19, e200_20, e200_21, e200_22, e200_23, e200_26, e200_27, e200_28, e200_31, e200_34, e200_35, rk_n, rk_v, nl_n, nl_i, nl_r, cat_n, ip_cat_int, ip_cat_ref, ip_cat_long, ip_rf_some, Nat.reduceAdd, Nat.reduceLeDiff, Nat.reduceLT, Nat.le_refl, Nat.zero_le, hR, h6, g, ia_lit, nu_i, nu_tn, l1, l2, o3, z, Bool.false_eq_true, Bool.true_eq_false, if_true, if_false, not_true_eq_false, not_false_eq_true, zle, eq_self]
    · have z : (lg_cmp (Int64.ofNat (pck (f k))) (Int64.ofNat (pck ws)) = 0) = False := by
        rw [lg_cz]; exact eq_false (fun e => h (pck_inj o1 ho ((lg_inj (by omega) (by omega)).mp e)))
      rw [decide_eq_false h, if_neg (by decide), ← ih (k + 1) (by omega)]
      simp only [e200_0, e200_1, e200_4, e200_5, e200_6, e200_8, e200_9, e200_12, e200_15, e200_16, e200_19, e200_20, e200_21, e200_22, e200_23, e200_26, e200_27, e200_28, e200_31, e200_34, e200_35, rk_n, rk_v, nl_n, nl_i, nl_r, cat_n, ip_cat_int, ip_cat_ref, ip_cat_long, ip_rf_some, Nat.reduceAdd, Nat.reduceLeDiff, Nat.reduceLT, Nat.le_refl, Nat.zero_le, hR, h6, g, ia_lit, nu_i, nu_tn, l1, l2, o3, z, e1, Bool.false_eq_true, Bool.true_eq_false, if_true, if_false, not_true_eq_false, not_false_eq_true, zle, eq_self]
theorem c200 (hR : LYR R) (ht : t ≤ 400) (hB : ∀ i, i < t → ¬ B i = -1) (X : RM B t a J) (ha : a ≤ t) (hs : skT B t a = p) (hn : kdT B t p = 13) (hc8 : c ≤ 8) (h6 : J 265 6 = Int32.ofNat c) (F : ∀ k, k < c → okl (f k) ∧ (f k).length ≤ 6 ∧ L 267 k = Int64.ofNat (pck (f k))) : cf (d + 3) 200 [.ref 265] (SH n, J, L, R, nc, ns, nx) = some (.inl (some (.int (fIx f c (wl B t p)))), (SH n, atM J p, L, R, nc, ns, nx)) := by
  have n6 := (kd_nm.mp hn).2.1
  have C := fun d => c201 (d := d) (n := n) (L := L) (nc := nc) (ns := ns) (nx := nx) hR ht hB X ha hs n6
  have A := t200 (d := d + 3) (n := n) (J := atM J p) (L := L) (nc := nc) (ns := ns) (nx := nx) (ws := wl B t p) hR hc8 ((up_k (by decide)).trans h6) wl_ok (by rw [wl_len]; exact n6) F c 0 (by omega)
  have A : rf (d + 3) 200 7 [some (.ref 265), some (.long (Int64.ofNat (pck (wl B t p)))), none, some (.int 0)] [] (SH n, atM J p, L, R, nc, ns, nx) = _ := A
  unfold fIx
  rw [← A]
  simp only [en200, e200_0, e200_1, e200_4, e200_5, e200_6, e200_8, e200_9, e200_12, e200_15, e200_16, e200_19, e200_20, e200_21, e200_22, e200_23, e200_26, e200_27, e200_28, e200_31, e200_34, e200_35, rk_n, rk_v, nl_n, nl_i, nl_r, cat_n, ip_cat_int, ip_cat_ref, ip_cat_long, ip_rf_some, Nat.reduceAdd, Nat.reduceLeDiff, Nat.reduceLT, Nat.le_refl, Nat.zero_le, C, Bool.false_eq_true, Bool.true_eq_false, if_true, if_false, not_true_eq_false, not_false_eq_true, zle, eq_self]
/-- isDigit, digit, must -/
theorem c205 (hR : LYR R) (ht : t ≤ 400) (X : RM B t a J) (hk : k < 1000) : cf d 205 [.ref 265, .int (Int32.ofNat k)] (SH n, J, L, R, nc, ns, nx) = some (.inl (some (.int (if isD B t k = true then 1 else 0))), (SH n, J, L, R, nc, ns, nx)) := by
  obtain ⟨h3, h4, hb⟩ := X
  unfold isD
  by_cases h : k < t
  · have g : (Int32.ofNat t ≤ Int32.ofNat k) = False := eq_false (fun e => by have := (nu_le (by omega) (by omega)).mp e; omega)
    have l1 : k < 2147483648 := by omega
    have l2 : k < 400 := by omega
    rw [decide_eq_true h, Bool.true_and]
    by_cases q1 : B k < 48
    · have e : lxD (B k) = false := by unfold lxD; exact decide_eq_false (fun h => h.1 q1)
      simp only [en205, e205_0, e205_1, e205_2, e205_5, e205_8, e205_9, e205_12, e205_13, e205_14, e205_16, e205_19, e205_20, e205_23, e205_24, e205_25, e205_27, e205_30, e205_31, e205_34, e205_35, rk_n, rk_v, nl_n, nl_i, nl_r, cat_n, ip_cat_int, ip_cat_ref, ip_cat_long, ip_rf_some, Nat.reduceAdd, Nat.reduceLeDiff, Nat.reduceLT, Nat.le_refl, Nat.zero_le, hR, h3, g, ia_lit, nu_i, nu_tn, l1, l2, hb k h, q1, e, true_or, or_true, Bool.false_eq_true, Bool.true_eq_false, if_true, if_false, not_true_eq_false, not_false_eq_true, zle, eq_self]
    · by_cases q2 : 57 < B k
      · have e : lxD (B k) = false := by unfold lxD; exact decide_eq_false (fun h => h.2 q2)
        simp only [en205, e205_0, e205_1, e205_2, e205_5, e205_8, e205_9, e205_12, e205_13, e205_14, e205_16, e205_19, e205_20, e205_23, e205_24, e205_25, e205_27, e205_30, e205_31, e205_34, e205_35, rk_n, rk_v, nl_n, nl_i, nl_r, cat_n, ip_cat_int, ip_cat_ref, ip_cat_long, ip_rf_some, Nat.reduceAdd, Nat.reduceLeDiff, Nat.reduceLT, Nat.le_refl, Nat.zero_le, hR, h3, g, ia_lit, nu_i, nu_tn, l1, l2, hb k h, q1, q2, e, true_or, or_true, Bool.false_eq_true, Bool.true_eq_false, if_true, if_false, not_true_eq_false, not_false_eq_true, zle, eq_self]
      · have e : lxD (B k) = true := by unfold lxD; exact decide_eq_true ⟨q1, q2⟩
        simp only [en205, e205_0, e205_1, e205_2, e205_5, e205_8, e205_9, e205_12, e205_13, e205_14, e205_16, e205_19, e205_20, e205_23, e205_24, e205_25, e205_27, e205_30, e205_31, e205_34, e205_35, rk_n, rk_v, nl_n, nl_i, nl_r, cat_n, ip_cat_int, ip_cat_ref, ip_cat_long, ip_rf_some, Nat.reduceAdd, Nat.reduceLeDiff, Nat.reduceLT, Nat.le_refl, Nat.zero_le, hR, h3, g, ia_lit, nu_i, nu_tn, l1, l2, hb k h, q1, q2, e, true_or, or_true, Bool.false_eq_true, Bool.true_eq_false, if_true, if_false, not_true_eq_false, not_false_eq_true, zle, eq_self]
  · have g : (Int32.ofNat t ≤ Int32.ofNat k) = True := eq_true ((nu_le (by omega) (by omega)).mpr (by omega))
    rw [decide_eq_false h, Bool.false_and]
    simp only [en205, e205_0, e205_1, e205_2, e205_5, e205_8, e205_9, e205_12, e205_13, e205_14, e205_16, e205_19, e205_20, e205_23, e205_24, e205_25, e205_27, e205_30, e205_31, e205_34, e205_35, rk_n, rk_v, nl_n, nl_i, nl_r, cat_n, ip_cat_int, ip_cat_ref, ip_cat_long, ip_rf_some, Nat.reduceAdd, Nat.reduceLeDiff, Nat.reduceLT, Nat.le_refl, Nat.zero_le, h3, g, true_or, or_true, Bool.false_eq_true, Bool.true_eq_false, if_true, if_false, not_true_eq_false, not_false_eq_true, zle, eq_self]
theorem c204 (hR : LYR R) (ht : t ≤ 400) (hB : ∀ i, i < t → ¬ B i = -1) (X : RM B t a J) (ha : a ≤ t) (hs : skT B t a = p) (F : J 265 5 = -1) (e : kdT B t p = 14) : cf (d + 1) 204 [.ref 265] (SH n, J, L, R, nc, ns, nx) = some (.inl (some (.int (B p - 48))), (SH n, atM J (enT B t p), L, R, nc, ns, nx)) := by
  obtain ⟨d1, d2⟩ := kd_14.mp e
  obtain ⟨e1, pt⟩ := kd_14e e
  have H := fun d => c193 (d := d) (n := n) (L := L) (nc := nc) (ns := ns) (nx := nx) hR ht X ha hs
  have hv1 : hv B t p = B p := by unfold hv; rw [if_pos pt]
  rw [hv1] at H
  have D1 := fun d => c205 (d := d) (n := n) (L := L) (nc := nc) (ns := ns) (nx := nx) (k := p) hR ht (RM_at (p := p) X) (by omega)
  have D2 := fun d => c205 (d := d) (n := n) (L := L) (nc := nc) (ns := ns) (nx := nx) (k := p + 1) hR ht (RM_at (p := p) X) (by omega)
  have k4 : atM J p 265 4 = Int32.ofNat p := up_eq
  have k5 : atM J p 265 5 = -1 := (up_k (by decide)).trans F
  have e2 : Int32.ofNat p + 1 = Int32.ofNat (p + 1) := nu_add (s := 1)
  have e5 : ip_up (atM J p) 265 4 (Int32.ofNat (p + 1)) = atM J (p + 1) := up_up
  have nb := hB p pt
  rw [e1]
  simp only [en204, e204_0, e204_1, e204_4, e204_5, e204_8, e204_9, e204_10, e204_11, e204_14, e204_15, e204_16, e204_17, e204_20, e204_21, e204_22, e204_25, e204_28, e204_31, e204_32, e204_33, e204_36, e204_37, e204_38, e204_41, e204_44, e204_45, e204_48, e204_49, e204_52, e204_53, e204_56, e204_57, e204_58, e204_59, e204_59r, e204_60, e204_63, e204_64, e204_65, e204_68, e204_69, e204_71, e204_72, rk_n, rk_v, nl_n, nl_i, nl_r, cat_n, ip_cat_int, ip_cat_ref, ip_cat_long, ip_rf_some, Nat.reduceAdd, Nat.reduceLeDiff, Nat.reduceLT, Nat.le_refl, Nat.zero_le, F, H, nb, k4, k5, D1, D2, d1, d2, e2, e5, (by decide : ¬ (1 : Int32) = 0), true_or, or_true, Bool.false_eq_true, Bool.true_eq_false, if_true, if_false, not_true_eq_false, not_false_eq_true, zle, eq_self]
theorem c204n (hR : LYR R) (ht : t ≤ 400) (hB : ∀ i, i < t → ¬ B i = -1) (X : RM B t a J) (ha : a ≤ t) (hs : skT B t a = p) (F : J 265 5 = -1) (e : ¬ kdT B t p = 14) : cf (d + 1) 204 [.ref 265] (SH n, J, L, R, nc, ns, nx) = some (.inl (some (.int 0)), (SH n, wrM J p, L, R, nc, ns, nx)) := by
  have hp : p ≤ t := hs ▸ (skT_le ha).2
  have H := fun d => c193 (d := d) (n := n) (L := L) (nc := nc) (ns := ns) (nx := nx) hR ht X ha hs
  have D1 := fun d => c205 (d := d) (n := n) (L := L) (nc := nc) (ns := ns) (nx := nx) (k := p) hR ht (RM_at (p := p) X) (by omega)
  have D2 := fun d => c205 (d := d) (n := n) (L := L) (nc := nc) (ns := ns) (nx := nx) (k := p + 1) hR ht (RM_at (p := p) X) (by omega)
  have k4 : atM J p 265 4 = Int32.ofNat p := up_eq
  have e2 : Int32.ofNat p + 1 = Int32.ofNat (p + 1) := nu_add (s := 1)
  have W := fun d => wrM_c (d := d) (n := n) (L := L) (R := R) (nc := nc) (ns := ns) (nx := nx) (p := p) X F
  have k5 : (wrM J p 265 5 = -1) = False := by
    apply eq_false
    unfold wrM
    rw [up_eq]
    intro q
    exact nu_nn (t := p) (by omega) (by rw [q]; decide)
  by_cases h1 : hv B t p = -1
  · simp only [en204, e204_0, e204_1, e204_4, e204_5, e204_8, e204_9, e204_10, e204_11, e204_14, e204_15, e204_16, e204_17, e204_20, e204_21, e204_22, e204_25, e204_28, e204_31, e204_32, e204_33, e204_36, e204_37, e204_38, e204_41, e204_44, e204_45, e204_48, e204_49, e204_52, e204_53, e204_56, e204_57, e204_58, e204_59, e204_59r, e204_60, e204_63, e204_64, e204_65, e204_68, e204_69, e204_71, e204_72, rk_n, rk_v, nl_n, nl_i, nl_r, cat_n, ip_cat_int, ip_cat_ref, ip_cat_long, ip_rf_some, Nat.reduceAdd, Nat.reduceLeDiff, Nat.reduceLT, Nat.le_refl, Nat.zero_le, F, H, h1, W, k5, true_or, or_true, Bool.false_eq_true, Bool.true_eq_false, if_true, if_false, not_true_eq_false, not_false_eq_true, zle, eq_self]
  · cases d1 : isD B t p with
    | false => simp only [en204, e204_0, e204_1, e204_4, e204_5, e204_8, e204_9, e204_10, e204_11, e204_14, e204_15, e204_16, e204_17, e204_20, e204_21, e204_22, e204_25, e204_28, e204_31, e204_32, e204_33, e204_36, e204_37, e204_38, e204_41, e204_44, e204_45, e204_48, e204_49, e204_52, e204_53, e204_56, e204_57, e204_58, e204_59, e204_59r, e204_60, e204_63, e204_64, e204_65, e204_68, e204_69, e204_71, e204_72, rk_n, rk_v, nl_n, nl_i, nl_r, cat_n, ip_cat_int, ip_cat_ref, ip_cat_long, ip_rf_some, Nat.reduceAdd, Nat.reduceLeDiff, Nat.reduceLT, Nat.le_refl, Nat.zero_le, F, H, h1, k4, D1, d1, W, k5, true_or, or_true, Bool.false_eq_true, Bool.true_eq_false, if_true, if_false, not_true_eq_false, not_false_eq_true, zle, eq_self]
    | true =>
      have d2 : isD B t (p + 1) = true := by
        cases q : isD B t (p + 1) with
        | true => rfl
        | false => exact absurd (kd_14.mpr ⟨d1, q⟩) e
      simp only [en204, e204_0, e204_1, e204_4, e204_5, e204_8, e204_9, e204_10, e204_11, e204_14, e204_15, e204_16, e204_17, e204_20, e204_21, e204_22, e204_25, e204_28, e204_31, e204_32, e204_33, e204_36, e204_37, e204_38, e204_41, e204_44, e204_45, e204_48, e204_49, e204_52, e204_53, e204_56, e204_57, e204_58, e204_59, e204_59r, e204_60, e204_63, e204_64, e204_65, e204_68, e204_69, e204_71, e204_72, rk_n, rk_v, nl_n, nl_i, nl_r, cat_n, ip_cat_int, ip_cat_ref, ip_cat_long, ip_rf_some, Nat.reduceAdd, Nat.reduceLeDiff, Nat.reduceLT, Nat.le_refl, Nat.zero_le, F, H, h1, k4, D1, D2, d1, d2, e2, W, k5, (by decide : ¬ (1 : Int32) = 0), true_or, or_true, Bool.false_eq_true, Bool.true_eq_false, if_true, if_false, not_true_eq_false, not_false_eq_true, zle, eq_self]
theorem c204f (F : ¬ J 265 5 = -1) : cf d 204 [.ref 265] (SH n, J, L, R, nc, ns, nx) = some (.inl (some (.int 0)), (SH n, J, L, R, nc, ns, nx)) := by
  simp only [en204, e204_0, e204_1, e204_4, e204_5, e204_8, e204_9, e204_10, e204_11, e204_14, e204_15, e204_16, e204_17, e204_20, e204_21, e204_22, e204_25, e204_28, e204_31, e204_32, e204_33, e204_36, e204_37, e204_38, e204_41, e204_44, e204_45, e204_48, e204_49, e204_52, e204_53, e204_56, e204_57, e204_58, e204_59, e204_59r, e204_60, e204_63, e204_64, e204_65, e204_68, e204_69, e204_71, e204_72, rk_n, rk_v, nl_n, nl_i, nl_r, cat_n, ip_cat_int, ip_cat_ref, ip_cat_long, ip_rf_some, Nat.reduceAdd, Nat.reduceLeDiff, Nat.reduceLT, Nat.le_refl, Nat.zero_le, F, Bool.false_eq_true, Bool.true_eq_false, if_true, if_false, not_true_eq_false, not_false_eq_true, zle, eq_self]
theorem c213 {s : Nat} (hs' : s = 59 ∨ s = 44 ∨ s = 40 ∨ s = 41) (hR : LYR R) (ht : t ≤ 400) (X : RM B t a J) (ha : a ≤ t) (hs : skT B t a = p) (F : J 265 5 = -1) (e : kdT B t p = s) : cf (d + 1) 213 [.ref 265, .int (Int32.ofNat s)] (SH n, J, L, R, nc, ns, nx) = some (.inl none, (SH n, atM J (enT B t p), L, R, nc, ns, nx)) := by
  have H := fun d => c193 (d := d) (n := n) (L := L) (nc := nc) (ns := ns) (nx := nx) hR ht X ha hs
  rw [(kd_sg hs').mp e] at H
  have k4 : atM J p 265 4 = Int32.ofNat p := up_eq
  have e2 : Int32.ofNat p + 1 = Int32.ofNat (p + 1) := nu_add (s := 1)
  have e5 : ip_up (atM J p) 265 4 (Int32.ofNat (p + 1)) = atM J (p + 1) := up_up
  rw [(kd_sn hs' e).1]
  simp only [en213, e213_0, e213_1, e213_4, e213_5, e213_8, e213_9, e213_10, e213_13, e213_14, e213_17, e213_18, e213_18r, e213_19, e213_22, e213_23, e213_24, e213_27, e213_30, e213_31, e213_34, rk_n, rk_v, nl_n, nl_i, nl_r, cat_n, ip_cat_int, ip_cat_ref, ip_cat_long, ip_rf_some, Nat.reduceAdd, Nat.reduceLeDiff, Nat.reduceLT, Nat.le_refl, Nat.zero_le, F, H, k4, e2, e5, Bool.false_eq_true, Bool.true_eq_false, if_true, if_false, not_true_eq_false, not_false_eq_true, zle, eq_self]
theorem c213n {s : Nat} (hs' : s = 59 ∨ s = 44 ∨ s = 40 ∨ s = 41) (hR : LYR R) (ht : t ≤ 400) (X : RM B t a J) (ha : a ≤ t) (hs : skT B t a = p) (F : J 265 5 = -1) (e : ¬ kdT B t p = s) : cf (d + 1) 213 [.ref 265, .int (Int32.ofNat s)] (SH n, J, L, R, nc, ns, nx) = some (.inl none, (SH n, wrM J p, L, R, nc, ns, nx)) := by
  have H := fun d => c193 (d := d) (n := n) (L := L) (nc := nc) (ns := ns) (nx := nx) hR ht X ha hs
  have g : (hv B t p = Int32.ofNat s) = False := eq_false (fun q => e ((kd_sg hs').mpr q))
  have W := fun d => wrM_c (d := d) (n := n) (L := L) (R := R) (nc := nc) (ns := ns) (nx := nx) (p := p) X F
  simp only [en213, e213_0, e213_1, e213_4, e213_5, e213_8, e213_9, e213_10, e213_13, e213_14, e213_17, e213_18, e213_18r, e213_19, e213_22, e213_23, e213_24, e213_27, e213_30, e213_31, e213_34, rk_n, rk_v, nl_n, nl_i, nl_r, cat_n, ip_cat_int, ip_cat_ref, ip_cat_long, ip_rf_some, Nat.reduceAdd, Nat.reduceLeDiff, Nat.reduceLT, Nat.le_refl, Nat.zero_le, F, H, g, W, Bool.false_eq_true, Bool.true_eq_false, if_true, if_false, not_true_eq_false, not_false_eq_true, zle, eq_self]
theorem c213f (F : ¬ J 265 5 = -1) : cf d 213 [.ref 265, .int x] (SH n, J, L, R, nc, ns, nx) = some (.inl none, (SH n, J, L, R, nc, ns, nx)) := by
  simp only [en213, e213_0, e213_1, e213_4, e213_5, e213_8, e213_9, e213_10, e213_13, e213_14, e213_17, e213_18, e213_18r, e213_19, e213_22, e213_23, e213_24, e213_27, e213_30, e213_31, e213_34, rk_n, rk_v, nl_n, nl_i, nl_r, cat_n, ip_cat_int, ip_cat_ref, ip_cat_long, ip_rf_some, Nat.reduceAdd, Nat.reduceLeDiff, Nat.reduceLT, Nat.le_refl, Nat.zero_le, F, Bool.false_eq_true, Bool.true_eq_false, if_true, if_false, not_true_eq_false, not_false_eq_true, zle, eq_self]
/-! the class's names -/
theorem t49 (hR : LYR R) (ht : t ≤ 400) (hr : R 4 1 = some 3) (rT : R 4 2 = some T) (hT : isT T) (X : RC B t p J) (hn : kdT B t p = 13) (k8 : k < 8) (ho : okl ws) (hl : ws.length ≤ 6) (hz : ∀ i, i < 6 → J (T + 1) (6 * k + i) = Int32.ofNat (if i < ws.length then 96 + ws.getD i 0 else 0)) : ∀ m i (l3 : Option Value), i + m = 6 → rf (d + 1) 49 2 [some (.ref 4), some (.int (Int32.ofNat k)), some (.int (Int32.ofNat i)), l3] [] (SH n, J, L, R, nc, ns, nx) = some (.inl (some (.int (if eqF ws (wl B t p) m i = true then 1 else 0))), (SH n, J, L, R, nc, ns, nx)) := by
  obtain ⟨x3, x4, x5, x6, xb⟩ := X
  obtain ⟨e1, pt⟩ := kd_ne hn
  rw [e1] at x4
  have rl := rnn_le (P := lxL) (B := B) (t := t) _ p (Nat.le_refl _) (by omega)
  intro m
  induction m with
  | zero =>
    intro i l3 hi
    have g : ((6 : Int32) ≤ Int32.ofNat i) = True := eq_true ((nu_le (t := 6) (by omega) (by omega)).mpr (by omega))
    rw [eqF, if_pos rfl, e49_2]
    simp only [e49_0, e49_1, e49_3, e49_5, e49_8, e49_9, e49_12, e49_13, e49_14, e49_15, e49_18, e49_21, e49_22, e49_25, e49_26, e49_29, e49_30, e49_31, e49_32, e49_35, e49_36, e49_37, e49_38, e49_41, e49_42, e49_43, e49_46, e49_47, e49_50, e49_51, e49_52, e49_55, e49_58, e49_59, rk_n, rk_v, nl_n, nl_i, nl_r, cat_n, ip_cat_int, ip_cat_ref, ip_cat_long, ip_rf_some, Nat.reduceAdd, Nat.reduceLeDiff, Nat.reduceLT, Nat.le_refl, Nat.zero_le, g, true_or, or_true, Bool.false_eq_true, Bool.true_eq_false, if_true, if_false, not_true_eq_false, not_false_eq_true, zle, eq_self]
  | succ m ih =>
    intro i l3 hi
    have g : ((6 : Int32) ≤ Int32.ofNat i) = False := eq_false (fun e => by have := (nu_le (t := 6) (by omega) (by omega)).mp e; omega)
    have e2 : Int32.ofNat i + 1 = Int32.ofNat (i + 1) := nu_add (s := 1)
    have C := fun d => c50n (d := d) (n := n) (I := J) (L := L) (nc := nc) (ns := ns) (nx := nx) (ls := ws) hR hT k8 (by omega) hl ho (hz i (by omega))
    have C : ∀ d, cf d 50 [.ref T, .int (Int32.ofNat k), .int (Int32.ofNat i)] (SH n, J, L, R, nc, ns, nx) = some (.inl (some (.int (ltN ws i))), (SH n, J, L, R, nc, ns, nx)) := C
    have l3' : p + i < 2147483648 := by omega
    have IH := fun l3 => ih (i + 1) l3 (by omega)
    rw [eqF, e49_2]
    by_cases q : p + i < rnn lxL B t p
    · have g2 : (Int32.ofNat (rnn lxL B t p) ≤ Int32.ofNat (p + i)) = False := eq_false (fun e => by have := (nu_le (by omega) (by omega)).mp e; omega)
      have l4 : p + i < 400 := by omega
      obtain ⟨v, v1, v2, v3, v4⟩ := lxL_v (rnn_all (P := lxL) (B := B) (t := t) _ p (Nat.le_refl _) (p + i) (by omega) q)
      have lt : ltN (wl B t p) i = B (p + i) := by
        unfold ltN
        rw [wl_len, if_pos (by omega), wl_at (by omega), v4, v3]
        congr 1; omega
      rw [lt]
      by_cases h : ltN ws i = B (p + i)
      · rw [decide_eq_true h, Bool.true_and, ← IH (some (.int (B (p + i))))]
        simp only [e49_0, e49_1, e49_3, e49_5, e49_8, e49_9, e49_12, e49_13, e49_14, e49_15, e49_18, e49_21, e49_22, e49_25, e49_26, e49_29, e49_30, e49_31, e49_32, e49_35, e49_36, e49_37, e49_38, e49_41, e49_42, e49_43, e49_46, e49_47, e49_50, e49_51, e49_52, e49_55, e49_58, e49_59, rk_n, rk_v, nl_n, nl_i, nl_r, cat_n, ip_cat_int, ip_cat_ref, ip_cat_long, ip_rf_some, Nat.reduceAdd, Nat.reduceLeDiff, Nat.reduceLT, Nat.le_refl, Nat.zero_le, hr, rT, hT, x4, x5, g, g2, nu_add, ia_lit, nu_i, nu_tn, l3', l4, xb (p + i) (by omega), C, h, e2, Bool.false_eq_true, Bool.true_eq_false, if_true, if_false, not_true_eq_false, not_false_eq_true, zle, eq_self]
      · rw [decide_eq_false h, Bool.false_and]
        simp only [e49_0, e49_1, e49_3, e49_5, e49_8, e49_9, e49_12, e49_13, e49_14, e49_15, e49_18, e49_21, e49_22, e49_25, e49_26, e49_29, e49_30, e49_31, e49_32, e49_35, e49_36, e49_37, e49_38, e49_41, e49_42, e49_43, e49_46, e49_47, e49_50, e49_51, e49_52, e49_55, e49_58, e49_59, rk_n, rk_v, nl_n, nl_i, nl_r, cat_n, ip_cat_int, ip_cat_ref, ip_cat_long, ip_rf_some, Nat.reduceAdd, Nat.reduceLeDiff, Nat.reduceLT, Nat.le_refl, Nat.zero_le, hr, rT, hT, x4, x5, g, g2, nu_add, ia_lit, nu_i, nu_tn, l3', l4, xb (p + i) (by omega), C, h, true_or, or_true, Bool.false_eq_true, Bool.true_eq_false, if_true, if_false, not_true_eq_false, not_false_eq_true, zle, eq_self]
    · have g2 : (Int32.ofNat (rnn lxL B t p) ≤ Int32.ofNat (p + i)) = True := eq_true ((nu_le (by omega) (by omega)).mpr (by omega))
      have lt : ltN (wl B t p) i = -1 := by
        unfold ltN
        rw [wl_len, if_neg (by omega)]
      rw [lt]
      by_cases h : ltN ws i = -1
      · rw [decide_eq_true h, Bool.true_and, ← IH (some (.int (-1)))]
        simp only [e49_0, e49_1, e49_3, e49_5, e49_8, e49_9, e49_12, e49_13, e49_14, e49_15, e49_18, e49_21, e49_22, e49_25, e49_26, e49_29, e49_30, e49_31, e49_32, e49_35, e49_36, e49_37, e49_38, e49_41, e49_42, e49_43, e49_46, e49_47, e49_50, e49_51, e49_52, e49_55, e49_58, e49_59, rk_n, rk_v, nl_n, nl_i, nl_r, cat_n, ip_cat_int, ip_cat_ref, ip_cat_long, ip_rf_some, Nat.reduceAdd, Nat.reduceLeDiff, Nat.reduceLT, Nat.le_refl, Nat.zero_le, hr, rT, hT, x4, x5, g, g2, nu_add, C, h, e2, Bool.false_eq_true, Bool.true_eq_false, if_true, if_false, not_true_eq_false, not_false_eq_true, zle, eq_self]
      · rw [decide_eq_false h, Bool.false_and]
        simp only [e49_0, e49_1, e49_3, e49_5, e49_8, e49_9, e49_12, e49_13, e49_14, e49_15, e49_18, e49_21, e49_22, e49_25, e49_26, e49_29, e49_30, e49_31, e49_32, e49_35, e49_36, e49_37, e49_38, e49_41, e49_42, e49_43, e49_46, e49_47, e49_50, e49_51, e49_52, e49_55, e49_58, e49_59, rk_n, rk_v, nl_n, nl_i, nl_r, cat_n, ip_cat_int, ip_cat_ref, ip_cat_long, ip_rf_some, Nat.reduceAdd, Nat.reduceLeDiff, Nat.reduceLT, Nat.le_refl, Nat.zero_le, hr, rT, hT, x4, x5, g, g2, nu_add, C, h, true_or, or_true, Bool.false_eq_true, Bool.true_eq_false, if_true, if_false, not_true_eq_false, not_false_eq_true, zle, eq_self]
theorem c48 (hR : LYR R) (ht : t ≤ 400) (hr : R 4 1 = some 3) (rT : R 4 2 = some T) (hT : isT T) (X : RC B t p J) (hn : kdT B t p = 13) (hc8 : c ≤ 8) (h6 : J T 6 = Int32.ofNat c) (F : ∀ k, k < c → okl (f k) ∧ (f k).length ≤ 6 ∧ ∀ i, i < 6 → J (T + 1) (6 * k + i) = Int32.ofNat (if i < (f k).length then 96 + (f k).getD i 0 else 0)) : cf (d + 2) 48 [.ref 4] (SH n, J, L, R, nc, ns, nx) = some (.inl (some (.int (fIx f c (wl B t p)))), (SH n, J, L, R, nc, ns, nx)) := by
  have n6 := (kd_nm.mp hn).2.1
  have A : ∀ m k, k + m = c → rf (d + 2) 48 2 [some (.ref 4), some (.int (Int32.ofNat k))] [] (SH n, J, L, R, nc, ns, nx) = some (.inl (some (.int (match ffs (fun k => decide (f k = wl B t p)) m k with | some k => Int32.ofNat k | none => -1))), (SH n, J, L, R, nc, ns, nx)) := by
    intro m
    induction m with
    | zero =>
      intro k hk
      have g : (Int32.ofNat c ≤ Int32.ofNat k) = True := eq_true ((nu_le (by omega) (by omega)).mpr (by omega))
      rw [ffs, e48_2]
      simp only [e48_0, e48_1, e48_3, e48_4, e48_7, e48_10, e48_13, e48_14, e48_15, e48_18, e48_21, e48_22, e48_23, e48_26, e48_29, e48_30, rk_n, rk_v, nl_n, nl_i, nl_r, cat_n, ip_cat_int, ip_cat_ref, ip_cat_long, ip_rf_some, Nat.reduceAdd, Nat.reduceLeDiff, Nat.reduceLT, Nat.le_refl, Nat.zero_le, rT, hT, h6, g, Bool.false_eq_true, Bool.true_eq_false, if_true, if_false, not_true_eq_false, not_false_eq_true, zle, eq_self]
    | succ m ih =>
      intro k hk
      have g : (Int32.ofNat c ≤ Int32.ofNat k) = False := eq_false (fun e => by have := (nu_le (by omega) (by omega)).mp e; omega)
      have e1 : Int32.ofNat k + 1 = Int32.ofNat (k + 1) := nu_add (s := 1)
      obtain ⟨o1, o2, o3⟩ := F k (by omega)
      have C0 := fun d => t49 (d := d) (n := n) (L := L) (nc := nc) (ns := ns) (nx := nx) (k := k) hR ht hr rT hT X hn (by omega) o1 o2 o3 6 0 none (by omega)
      have C : ∀ d, cf (d + 1) 49 [.ref 4, .int (Int32.ofNat k)] (SH n, J, L, R, nc, ns, nx) = some (.inl (some (.int (if decide (f k = wl B t p) = true then 1 else 0))), (SH n, J, L, R, nc, ns, nx)) := by
        intro d
        rw [← eqF_6 o1 wl_ok o2 (by rw [wl_len]; exact n6), ← C0 d]
        simp only [en49, e49_0, e49_1, e49_3, e49_5, e49_8, e49_9, e49_12, e49_13, e49_14, e49_15, e49_18, e49_21, e49_22, e49_25, e49_26, e49_29, e49_30, e49_31, e49_32, e49_35, e49_36, e49_37, e49_38, e49_41, e49_42, e49_43, e49_46, e49_47, e49_50, e49_51, e49_52, e49_55, e49_58, e49_59, rk_n, rk_v, nl_n, nl_i, nl_r, cat_n, ip_cat_int, ip_cat_ref, ip_cat_long, ip_rf_some, Nat.reduceAdd, Nat.reduceLeDiff, Nat.reduceLT, Nat.le_refl, Nat.zero_le, Bool.false_eq_true, Bool.true_eq_false, if_true, if_false, not_true_eq_false, not_false_eq_true, zle, eq_self]
        rfl
      rw [ffs, e48_2]
      by_cases h : f k = wl B t p
      · rw [decide_eq_true h] at C ⊢
        rw [if_pos rfl]
        simp only [e48_0, e48_1, e48_3, e48_4, e48_7, e48_10, e48_13, e48_14, e48_15, e48_18, e48_21, e48_22, e48_23, e48_26, e48_29, e48_30, rk_n, rk_v, nl_n, nl_i, nl_r, cat_n, ip_cat_int, ip_cat_ref, ip_cat_long, ip_rf_some, Nat.reduceAdd, Nat.reduceLeDiff, Nat.reduceLT, Nat.le_refl, Nat.zero_le, rT, hT, h6, g, C, (by decide : ¬ (1 : Int32) = 0), Bool.false_eq_true, Bool.true_eq_false, if_true, if_false, not_true_eq_false, not_false_eq_true, zle, eq_self]
      · rw [decide_eq_false h] at C ⊢
        rw [if_neg (by decide), ← ih (k + 1) (by omega)]
        simp only [e48_0, e48_1, e48_3, e48_4, e48_7, e48_10, e48_13, e48_14, e48_15, e48_18, e48_21, e48_22, e48_23, e48_26, e48_29, e48_30, rk_n, rk_v, nl_n, nl_i, nl_r, cat_n, ip_cat_int, ip_cat_ref, ip_cat_long, ip_rf_some, Nat.reduceAdd, Nat.reduceLeDiff, Nat.reduceLT, Nat.le_refl, Nat.zero_le, rT, hT, h6, g, C, e1, Bool.false_eq_true, Bool.true_eq_false, if_true, if_false, not_true_eq_false, not_false_eq_true, zle, eq_self]
  have A : rf (d + 2) 48 2 [some (.ref 4), some (.int 0)] [] (SH n, J, L, R, nc, ns, nx) = _ := A c 0 (by omega)
  unfold fIx
  rw [← A]
  simp only [en48, e48_0, e48_1, e48_3, e48_4, e48_7, e48_10, e48_13, e48_14, e48_15, e48_18, e48_21, e48_22, e48_23, e48_26, e48_29, e48_30, rk_n, rk_v, nl_n, nl_i, nl_r, cat_n, ip_cat_int, ip_cat_ref, ip_cat_long, ip_rf_some, Nat.reduceAdd, Nat.reduceLeDiff, Nat.reduceLT, Nat.le_refl, Nat.zero_le, Bool.false_eq_true, Bool.true_eq_false, if_true, if_false, not_true_eq_false, not_false_eq_true, zle, eq_self]
end NMS
