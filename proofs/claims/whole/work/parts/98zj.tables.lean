/-! READ: the class's tables of truth -/
def TB (h : Nat) (st : Nat → Nat → Nat) (J : Nat → Nat → Int32) (L : Nat → Nat → Int64) : Prop := J 5 2 = Int32.ofNat h ∧ ∀ i, i < h → ∀ s, s < 256 → bL (L 6 (4 * i + s / 64)) (s % 64) = decide (st i s = 1)
def oL (L L' : Nat → Nat → Int64) : Prop := ∀ a k, ¬ a = 6 → ¬ a = 7 → L' a k = L a k
def lw (L : Nat → Nat → Int64) (b : Nat) (G : Nat → Int64) (w : Nat) : Nat → Nat → Int64 := fun a k => if a = 6 ∧ b ≤ k ∧ k < b + w then G (k - b) else L a k
def pst (st : Nat → Nat → Nat) (h : Nat) (v : Nat → Nat) : Nat → Nat → Nat := fun i => if i = h then v else st i
theorem pst_e {st : Nat → Nat → Nat} {h : Nat} {v : Nat → Nat} : pst st h v h = v := if_pos rfl
theorem pst_n {st : Nat → Nat → Nat} {h i : Nat} {v : Nat → Nat} (e : ¬ i = h) : pst st h v i = st i := if_neg e
section TBL
variable {n d a b c k t p T h w i j nd : Nat} {I J K : Nat → Nat → Int32} {L L' : Nat → Nat → Int64} {R R' : Nat → Nat → Option Nat} {nc ns : Nat} {nx : Bool} {x y : Int32} {G : Nat → Int64} {st : Nat → Nat → Nat} {v : Nat → Nat}
theorem lw_0 : lw L b G 0 = L := by
  funext a k; unfold lw; rw [if_neg (by omega)]
theorem lw_up : ip_up (lw L b G w) 6 (b + w) (G w) = lw L b G (w + 1) := by
  funext a k
  by_cases h : a = 6
  · subst h
    by_cases g : k = b + w
    · subst g; rw [up_eq]; unfold lw; rw [if_pos (by omega), show b + w - b = w by omega]
    · rw [up_k g]; unfold lw
      by_cases q : b ≤ k ∧ k < b + w
      · rw [if_pos (by omega), if_pos (by omega)]
      · rw [if_neg (by omega), if_neg (by omega)]
  · rw [up_a h]; unfold lw; rw [if_neg (by omega), if_neg (by omega)]
theorem lw_at (hk : ¬ (b ≤ k ∧ k < b + w)) : lw L b G w 6 k = L 6 k := by unfold lw; rw [if_neg (by omega)]
theorem lw_in (hk : k < w) : lw L b G w 6 (b + k) = G k := by unfold lw; rw [if_pos (by omega), show b + k - b = k by omega]
theorem lw_o : oL L (lw L b G w) := fun a k h1 h2 => by unfold lw; rw [if_neg (by omega)]
theorem oL_tr {L1 L2 L3 : Nat → Nat → Int64} (h : oL L1 L2) (g : oL L2 L3) : oL L1 L3 := fun a k h1 h2 => (g a k h1 h2).trans (h a k h1 h2)
theorem oL_r : oL L L := fun _ _ _ _ => rfl
/-- the words of a name -/
def wo (k w : Nat) : Int64 := if k < 6 then ip_nm k else if w.testBit (k - 6) = true then -1 else 0
theorem wo_b : ∀ k, k < 8 → ∀ w, w < 4 → ∀ b, b < 64 → bL (wo k w) b = (64 * w + b).testBit k := by decide +kernel
theorem wo_s : ∀ k, k < 8 → 6 ≤ k → ∀ w, w < 4 → (Int32.ofNat w >>> (Int32.ofNat k - 6 &&& 31) &&& 1 = 0) = (w.testBit (k - 6) = false) := by decide +kernel
theorem c64 (hN : ∀ k, k < 6 → L 1 k = ip_nm k) (hk : k < 8) (hw : w < 4) : cf d 64 [.int (Int32.ofNat k), .int (Int32.ofNat w)] (SH n, I, L, R, nc, ns, nx) = some (.inl (some (.long (wo k w))), (SH n, I, L, R, nc, ns, nx)) := by
  have g0 : ¬ Int32.ofNat k < 0 := nu_nn (by omega)
  have lk : k < 2147483648 := by omega
  unfold wo
  by_cases h : k < 6
  · have g : ((6 : Int32) ≤ Int32.ofNat k) = False := eq_false (fun e => by have := (nu_le (t := 6) (by omega) (by omega)).mp e; omega)
    rw [if_pos h, ← hN k h]
    simp only [en64, e64_0, e64_1, e64_4, e64_5, e64_7, e64_10, e64_13, e64_14, e64_15, e64_16, e64_17, e64_18, e64_20, e64_21, e64_22, e64_23, e64_24, e64_27, e64_30, e64_33, e64_34, rk_n, rk_v, nl_n, nl_i, nl_r, cat_n, ip_cat_int, ip_cat_ref, ip_cat_long, ip_rf_some, Nat.reduceAdd, Nat.reduceLeDiff, Nat.reduceLT, Nat.le_refl, Nat.zero_le, g0, g, nu_i, nu_tn, lk, h, Bool.false_eq_true, Bool.true_eq_false, if_true, if_false, not_true_eq_false, not_false_eq_true, zle, eq_self]
  · have g : ((6 : Int32) ≤ Int32.ofNat k) = True := eq_true ((nu_le (t := 6) (by omega) (by omega)).mpr (by omega))
    rw [if_neg h]
    have ws := wo_s k hk (by omega) w hw
    cases e : w.testBit (k - 6) with
    | true => simp only [en64, e64_0, e64_1, e64_4, e64_5, e64_7, e64_10, e64_13, e64_14, e64_15, e64_16, e64_17, e64_18, e64_20, e64_21, e64_22, e64_23, e64_24, e64_27, e64_30, e64_33, e64_34, rk_n, rk_v, nl_n, nl_i, nl_r, cat_n, ip_cat_int, ip_cat_ref, ip_cat_long, ip_rf_some, Nat.reduceAdd, Nat.reduceLeDiff, Nat.reduceLT, Nat.le_refl, Nat.zero_le, g0, g, ws, e, Bool.false_eq_true, Bool.true_eq_false, if_true, if_false, not_true_eq_false, not_false_eq_true, zle, eq_self]
    | false => simp only [en64, e64_0, e64_1, e64_4, e64_5, e64_7, e64_10, e64_13, e64_14, e64_15, e64_16, e64_17, e64_18, e64_20, e64_21, e64_22, e64_23, e64_24, e64_27, e64_30, e64_33, e64_34, rk_n, rk_v, nl_n, nl_i, nl_r, cat_n, ip_cat_int, ip_cat_ref, ip_cat_long, ip_rf_some, Nat.reduceAdd, Nat.reduceLeDiff, Nat.reduceLT, Nat.le_refl, Nat.zero_le, g0, g, ws, e, Bool.false_eq_true, Bool.true_eq_false, if_true, if_false, not_true_eq_false, not_false_eq_true, zle, eq_self]
/-- a name is pushed -/
theorem c63 (hR : LYR R) (hN : ∀ k, k < 6 → L 1 k = ip_nm k) (hk : k < 8) (X : TB h st J L) (hh : h < 40) : ∃ L', (∀ d, cf (d + 1) 63 [.ref 5, .int (Int32.ofNat k)] (SH n, J, L, R, nc, ns, nx) = some (.inl none, (SH n, ip_up J 5 2 (Int32.ofNat (h + 1)), L', R, nc, ns, nx))) ∧ TB (h + 1) (pst st h (vBit k)) (ip_up J 5 2 (Int32.ofNat (h + 1))) L' ∧ oL L L' := by
  have g1 : (Int32.ofNat h < 40) = True := eq_true ((nu_lt (s := 40) (by omega) (by omega)).mpr hh)
  have e1 : Int32.ofNat h + 1 = Int32.ofNat (h + 1) := nu_add (s := 1)
  refine ⟨lw L (4 * h) (wo k) 4, fun d => ?_, ⟨up_eq, fun i hi s hs => ?_⟩, lw_o⟩
  · have A := for_eq (c := 4) (fun w => rf (d + 1) 63 12 [some (.ref 5), some (.int (Int32.ofNat k)), some (.int (Int32.ofNat w))] [] (SH n, J, lw L (4 * h) (wo k) w, R, nc, ns, nx)) (fun w hw => by
      have g : ((4 : Int32) ≤ Int32.ofNat w) = False := eq_false (fun e => by have := (nu_le (t := 4) (by omega) (by omega)).mp e; omega)
      have e2 : Int32.ofNat w + 1 = Int32.ofNat (w + 1) := nu_add (s := 1)
      have e3 : Int32.ofNat h * 4 + Int32.ofNat w = Int32.ofNat (4 * h + w) := by
        have : Int32.ofNat h * 4 = Int32.ofNat (h * 4) := (Int32.ofNat_mul _ _).symm
        rw [this, nu_add, Nat.mul_comm]
      have l1 : 4 * h + w < 2147483648 := by omega
      have l2 : 4 * h + w < 160 := by omega
      have C := fun d => c64 (d := d) (n := n) (I := J) (L := lw L (4 * h) (wo k) w) (R := R) (nc := nc) (ns := ns) (nx := nx) (fun k hk => (lw_o (w := w) 1 k (by omega) (by omega)).trans (hN k hk)) hk hw
      rw [← lw_up, e63_12]
      simp only [e63_0, e63_1, e63_4, e63_6, e63_9, e63_10, e63_11, e63_13, e63_14, e63_17, e63_18, e63_21, e63_22, e63_25, e63_26, e63_27, e63_28, e63_29, e63_30, e63_31, e63_34, e63_35, e63_38, e63_41, e63_42, e63_42r, e63_43, e63_46, e63_47, e63_48, e63_51, rk_n, rk_v, nl_n, nl_i, nl_r, cat_n, ip_cat_int, ip_cat_ref, ip_cat_long, ip_rf_some, Nat.reduceAdd, Nat.reduceLeDiff, Nat.reduceLT, Nat.le_refl, Nat.zero_le, hR, X.1, g, e2, e3, ia_lit, nu_i, nu_tn, l1, l2, C, Bool.false_eq_true, Bool.true_eq_false, if_true, if_false, not_true_eq_false, not_false_eq_true, zle, eq_self])
    try dsimp only at A
    rw [lw_0] at A
    have A : rf (d + 1) 63 12 [some (.ref 5), some (.int (Int32.ofNat k)), some (.int 0)] [] (SH n, J, L, R, nc, ns, nx) = _ := A
    simp only [en63, e63_0, e63_1, e63_4, e63_6, e63_9, e63_10, e63_11, e63_13, e63_14, e63_17, e63_18, e63_21, e63_22, e63_25, e63_26, e63_27, e63_28, e63_29, e63_30, e63_31, e63_34, e63_35, e63_38, e63_41, e63_42, e63_42r, e63_43, e63_46, e63_47, e63_48, e63_51, rk_n, rk_v, nl_n, nl_i, nl_r, cat_n, ip_cat_int, ip_cat_ref, ip_cat_long, ip_rf_some, Nat.reduceAdd, Nat.reduceLeDiff, Nat.reduceLT, Nat.le_refl, Nat.zero_le, X.1, g1, Bool.false_eq_true, Bool.true_eq_false, if_true, if_false, not_true_eq_false, not_false_eq_true, zle, eq_self]
    rw [A, e63_12]
    simp only [e63_0, e63_1, e63_4, e63_6, e63_9, e63_10, e63_11, e63_13, e63_14, e63_17, e63_18, e63_21, e63_22, e63_25, e63_26, e63_27, e63_28, e63_29, e63_30, e63_31, e63_34, e63_35, e63_38, e63_41, e63_42, e63_42r, e63_43, e63_46, e63_47, e63_48, e63_51, rk_n, rk_v, nl_n, nl_i, nl_r, cat_n, ip_cat_int, ip_cat_ref, ip_cat_long, ip_rf_some, Nat.reduceAdd, Nat.reduceLeDiff, Nat.reduceLT, Nat.le_refl, Nat.zero_le, X.1, e1, (by decide : ((4 : Int32) ≤ Int32.ofNat 4) = True), Bool.false_eq_true, Bool.true_eq_false, if_true, if_false, not_true_eq_false, not_false_eq_true, zle, eq_self]
  · by_cases e : i = h
    · subst e
      rw [lw_in (show s / 64 < 4 by omega), wo_b k hk _ (by omega) _ (by omega), pst_e, show 64 * (s / 64) + s % 64 = s by omega]
      unfold vBit
      cases s.testBit k <;> rfl
    · rw [lw_at (by omega), pst_n e]; exact X.2 i (by omega) s hs
theorem bL_not (x : Int64) {p : Nat} (hp : p < 64) : bL (x ^^^ -1) p = !bL x p := by
  unfold bL
  rw [show (x ^^^ -1).toBitVec = x.toBitVec ^^^ (-1 : Int64).toBitVec from rfl, BitVec.getLsbD_xor]
  have : ∀ p, p < 64 → ((-1 : Int64).toBitVec).getLsbD p = true := by decide +kernel
  rw [this p hp, Bool.xor_true]
theorem c61 (hR : LYR R) (X : TB (h + 1) st J L) (hh : h < 40) (hl : le1 (st h)) : ∃ L', (∀ d, cf d 61 [.ref 5] (SH n, J, L, R, nc, ns, nx) = some (.inl none, (SH n, J, L', R, nc, ns, nx))) ∧ TB (h + 1) (pst st h (vNot (st h))) J L' ∧ oL L L' := by
  have g1 : (Int32.ofNat (h + 1) ≤ 0) = False := eq_false (fun e => by have := (nu_le (s := 0) (by omega) (by omega)).mp e; omega)
  have e1 : Int32.ofNat (h + 1) - 1 = Int32.ofNat h := by
    rw [show Int32.ofNat (h + 1) = Int32.ofNat h + 1 from (nu_add (s := 1)).symm, Int32.add_sub_cancel]
  refine ⟨lw L (4 * h) (fun w => L 6 (4 * h + w) ^^^ -1) 4, fun d => ?_, ⟨X.1, fun i hi s hs => ?_⟩, lw_o⟩
  · have A := for_ex (c := 4) (fun w (l : Option Value) => rf d 61 2 [some (.ref 5), some (.int (Int32.ofNat w)), l] [] (SH n, J, lw L (4 * h) (fun w => L 6 (4 * h + w) ^^^ -1) w, R, nc, ns, nx)) (fun _ _ => True) (fun w l hw _ => by
      have g : ((4 : Int32) ≤ Int32.ofNat w) = False := eq_false (fun e => by have := (nu_le (t := 4) (by omega) (by omega)).mp e; omega)
      have e2 : Int32.ofNat w + 1 = Int32.ofNat (w + 1) := nu_add (s := 1)
      have e3 : Int32.ofNat h * 4 + Int32.ofNat w = Int32.ofNat (4 * h + w) := by
        have : Int32.ofNat h * 4 = Int32.ofNat (h * 4) := (Int32.ofNat_mul _ _).symm
        rw [this, nu_add, Nat.mul_comm]
      have l1 : 4 * h + w < 2147483648 := by omega
      have l2 : 4 * h + w < 160 := by omega
      have l3 : lw L (4 * h) (fun w => L 6 (4 * h + w) ^^^ -1) w 6 (4 * h + w) = L 6 (4 * h + w) := lw_at (by omega)
      refine ⟨some (.int (Int32.ofNat (4 * h + w))), trivial, ?_⟩
      rw [← lw_up, e61_2]
      simp only [e61_0, e61_1, e61_3, e61_4, e61_7, e61_8, e61_11, e61_14, e61_15, e61_18, e61_19, e61_20, e61_21, e61_22, e61_23, e61_24, e61_25, e61_26, e61_29, e61_30, e61_31, e61_34, e61_35, e61_36, e61_39, e61_40, e61_41, e61_44, e61_47, rk_n, rk_v, nl_n, nl_i, nl_r, cat_n, ip_cat_int, ip_cat_ref, ip_cat_long, ip_rf_some, Nat.reduceAdd, Nat.reduceLeDiff, Nat.reduceLT, Nat.le_refl, Nat.zero_le, hR, X.1, g, g1, e1, e2, e3, ia_lit, nu_i, nu_tn, l1, l2, l3, Bool.false_eq_true, Bool.true_eq_false, if_true, if_false, not_true_eq_false, not_false_eq_true, zle, eq_self]) none trivial
    try dsimp only at A
    obtain ⟨l, -, A⟩ := A
    rw [lw_0] at A
    have A : rf d 61 2 [some (.ref 5), some (.int 0), none] [] (SH n, J, L, R, nc, ns, nx) = _ := A
    simp only [en61, e61_0, e61_1, e61_3, e61_4, e61_7, e61_8, e61_11, e61_14, e61_15, e61_18, e61_19, e61_20, e61_21, e61_22, e61_23, e61_24, e61_25, e61_26, e61_29, e61_30, e61_31, e61_34, e61_35, e61_36, e61_39, e61_40, e61_41, e61_44, e61_47, rk_n, rk_v, nl_n, nl_i, nl_r, cat_n, ip_cat_int, ip_cat_ref, ip_cat_long, ip_rf_some, Nat.reduceAdd, Nat.reduceLeDiff, Nat.reduceLT, Nat.le_refl, Nat.zero_le, Bool.false_eq_true, Bool.true_eq_false, if_true, if_false, not_true_eq_false, not_false_eq_true, zle, eq_self]
    rw [A, e61_2]
    simp only [e61_0, e61_1, e61_3, e61_4, e61_7, e61_8, e61_11, e61_14, e61_15, e61_18, e61_19, e61_20, e61_21, e61_22, e61_23, e61_24, e61_25, e61_26, e61_29, e61_30, e61_31, e61_34, e61_35, e61_36, e61_39, e61_40, e61_41, e61_44, e61_47, rk_n, rk_v, nl_n, nl_i, nl_r, cat_n, ip_cat_int, ip_cat_ref, ip_cat_long, ip_rf_some, Nat.reduceAdd, Nat.reduceLeDiff, Nat.reduceLT, Nat.le_refl, Nat.zero_le, (by decide : ((4 : Int32) ≤ Int32.ofNat 4) = True), Bool.false_eq_true, Bool.true_eq_false, if_true, if_false, not_true_eq_false, not_false_eq_true, zle, eq_self]
  · by_cases e : i = h
    · subst e
      rw [lw_in (show s / 64 < 4 by omega), bL_not _ (by omega), X.2 i (by omega) s hs, pst_e]
      unfold vNot
      have := hl s
      by_cases q : st i s = 1
      · rw [q]; rfl
      · have : st i s = 0 := by omega
        rw [this]; rfl
    · rw [lw_at (by omega), pst_n e]; exact X.2 i (by omega) s hs
/-- two are joined -/
theorem c70 (hR : LYR R) (X : TB (h + 2) st J L) (hh : h + 2 ≤ 40) (hl : le1 (st h)) (hl2 : le1 (st (h + 1))) (q : Bool) : ∃ L', (∀ d, cf d 70 [.ref 5, .int (if q = true then 1 else 0)] (SH n, J, L, R, nc, ns, nx) = some (.inl none, (SH n, ip_up J 5 2 (Int32.ofNat (h + 1)), L', R, nc, ns, nx))) ∧ TB (h + 1) (pst st h (if q = true then vAnd (st h) (st (h + 1)) else vOr (st h) (st (h + 1)))) (ip_up J 5 2 (Int32.ofNat (h + 1))) L' ∧ oL L L' := by
  have g1 : ((2 : Int32) ≤ Int32.ofNat (h + 2)) = True := eq_true ((nu_le (t := 2) (by omega) (by omega)).mpr (by omega))
  have e1 : Int32.ofNat (h + 2) - 1 = Int32.ofNat (h + 1) := by
    rw [show Int32.ofNat (h + 2) = Int32.ofNat (h + 1) + 1 from (nu_add (s := 1)).symm, Int32.add_sub_cancel]
  have e1' : Int32.ofNat (h + 1) - 1 = Int32.ofNat h := by
    rw [show Int32.ofNat (h + 1) = Int32.ofNat h + 1 from (nu_add (s := 1)).symm, Int32.add_sub_cancel]
  have k1 : ip_up J 5 2 (Int32.ofNat (h + 1)) 5 2 = Int32.ofNat (h + 1) := up_eq
  generalize hJ : ip_up J 5 2 (Int32.ofNat (h + 1)) = J1 at *
  have GD : ∃ G : Nat → Int64, G = fun w => if q = true then L 6 (4 * h + w) &&& L 6 (4 * (h + 1) + w) else L 6 (4 * h + w) ||| L 6 (4 * (h + 1) + w) := ⟨_, rfl⟩
  obtain ⟨G, hG⟩ := GD
  refine ⟨lw L (4 * h) G 4, fun d => ?_, ⟨k1, fun i hi s hs => ?_⟩, lw_o⟩
  · have A := for_ex (c := 4) (fun w (l : Option Value × Option Value × Option Value) => rf d 70 21 [some (.ref 5), some (.int (if q = true then 1 else 0)), some (.int (Int32.ofNat w)), l.1, l.2.1, l.2.2] [] (SH n, J1, lw L (4 * h) G w, R, nc, ns, nx)) (fun _ _ => True) (fun w l hw _ => by
      have g : ((4 : Int32) ≤ Int32.ofNat w) = False := eq_false (fun e => by have := (nu_le (t := 4) (by omega) (by omega)).mp e; omega)
      have e2 : Int32.ofNat w + 1 = Int32.ofNat (w + 1) := nu_add (s := 1)
      have e3 : Int32.ofNat h * 4 + Int32.ofNat w = Int32.ofNat (4 * h + w) := by
        have : Int32.ofNat h * 4 = Int32.ofNat (h * 4) := (Int32.ofNat_mul _ _).symm
        rw [this, nu_add, Nat.mul_comm]
      have e4 : Int32.ofNat (h + 1) * 4 + Int32.ofNat w = Int32.ofNat (4 * (h + 1) + w) := by
        have : Int32.ofNat (h + 1) * 4 = Int32.ofNat ((h + 1) * 4) := (Int32.ofNat_mul _ _).symm
        rw [this, nu_add, Nat.mul_comm]
      have l1 : 4 * h + w < 2147483648 := by omega
      have l2 : 4 * h + w < 160 := by omega
      have l3 : 4 * (h + 1) + w < 2147483648 := by omega
      have l4 : 4 * (h + 1) + w < 160 := by omega
      have m1 : lw L (4 * h) G w 6 (4 * h + w) = L 6 (4 * h + w) := lw_at (by omega)
      have m2 : lw L (4 * h) G w 6 (4 * (h + 1) + w) = L 6 (4 * (h + 1) + w) := lw_at (by omega)
      refine ⟨(some (.long (L 6 (4 * (h + 1) + w))), none, some (.int (Int32.ofNat (4 * h + w)))), trivial, ?_⟩
      rw [← lw_up, e70_21]
      cases q with
      | true =>
        have gw : G w = L 6 (4 * h + w) &&& L 6 (4 * (h + 1) + w) := by rw [hG]; exact if_pos rfl
        rw [gw]
        simp only [e70_0, e70_1, e70_4, e70_5, e70_8, e70_9, e70_10, e70_10r, e70_11, e70_14, e70_15, e70_16, e70_19, e70_20, e70_22, e70_23, e70_26, e70_27, e70_30, e70_31, e70_34, e70_35, e70_36, e70_37, e70_38, e70_39, e70_40, e70_41, e70_44, e70_45, e70_46, e70_47, e70_48, e70_49, e70_50, e70_52, e70_53, e70_56, e70_58, e70_59, e70_62, e70_63, e70_66, e70_68, e70_69, e70_70, e70_71, e70_74, e70_75, e70_78, e70_80, e70_81, e70_82, e70_83, e70_84, e70_87, e70_90, rk_n, rk_v, nl_n, nl_i, nl_r, cat_n, ip_cat_int, ip_cat_ref, ip_cat_long, ip_rf_some, Nat.reduceAdd, Nat.reduceLeDiff, Nat.reduceLT, Nat.le_refl, Nat.zero_le, hR, k1, g, e1', e2, e3, e4, ia_lit, nu_i, nu_tn, l1, l2, l3, l4, m1, m2, (by decide : ¬ (1 : Int32) = 0), Bool.false_eq_true, Bool.true_eq_false, if_true, if_false, not_true_eq_false, not_false_eq_true, zle, eq_self]
      | false =>
        have gw : G w = L 6 (4 * h + w) ||| L 6 (4 * (h + 1) + w) := by rw [hG]; exact if_neg (by decide)
        rw [gw]
        simp only [e70_0, e70_1, e70_4, e70_5, e70_8, e70_9, e70_10, e70_10r, e70_11, e70_14, e70_15, e70_16, e70_19, e70_20, e70_22, e70_23, e70_26, e70_27, e70_30, e70_31, e70_34, e70_35, e70_36, e70_37, e70_38, e70_39, e70_40, e70_41, e70_44, e70_45, e70_46, e70_47, e70_48, e70_49, e70_50, e70_52, e70_53, e70_56, e70_58, e70_59, e70_62, e70_63, e70_66, e70_68, e70_69, e70_70, e70_71, e70_74, e70_75, e70_78, e70_80, e70_81, e70_82, e70_83, e70_84, e70_87, e70_90, rk_n, rk_v, nl_n, nl_i, nl_r, cat_n, ip_cat_int, ip_cat_ref, ip_cat_long, ip_rf_some, Nat.reduceAdd, Nat.reduceLeDiff, Nat.reduceLT, Nat.le_refl, Nat.zero_le, hR, k1, g, e1', e2, e3, e4, ia_lit, nu_i, nu_tn, l1, l2, l3, l4, m1, m2, Bool.false_eq_true, Bool.true_eq_false, if_true, if_false, not_true_eq_false, not_false_eq_true, zle, eq_self]) (none, none, none) trivial
    try dsimp only at A
    obtain ⟨l, -, A⟩ := A
    rw [lw_0] at A
    have A : rf d 70 21 [some (.ref 5), some (.int (if q = true then 1 else 0)), some (.int 0), none, none, none] [] (SH n, J1, L, R, nc, ns, nx) = _ := A
    simp only [en70, e70_0, e70_1, e70_4, e70_5, e70_8, e70_9, e70_10, e70_10r, e70_11, e70_14, e70_15, e70_16, e70_19, e70_20, e70_22, e70_23, e70_26, e70_27, e70_30, e70_31, e70_34, e70_35, e70_36, e70_37, e70_38, e70_39, e70_40, e70_41, e70_44, e70_45, e70_46, e70_47, e70_48, e70_49, e70_50, e70_52, e70_53, e70_56, e70_58, e70_59, e70_62, e70_63, e70_66, e70_68, e70_69, e70_70, e70_71, e70_74, e70_75, e70_78, e70_80, e70_81, e70_82, e70_83, e70_84, e70_87, e70_90, rk_n, rk_v, nl_n, nl_i, nl_r, cat_n, ip_cat_int, ip_cat_ref, ip_cat_long, ip_rf_some, Nat.reduceAdd, Nat.reduceLeDiff, Nat.reduceLT, Nat.le_refl, Nat.zero_le, X.1, g1, e1, hJ, Bool.false_eq_true, Bool.true_eq_false, if_true, if_false, not_true_eq_false, not_false_eq_true, zle, eq_self]
    rw [A, e70_21]
    simp only [e70_0, e70_1, e70_4, e70_5, e70_8, e70_9, e70_10, e70_10r, e70_11, e70_14, e70_15, e70_16, e70_19, e70_20, e70_22, e70_23, e70_26, e70_27, e70_30, e70_31, e70_34, e70_35, e70_36, e70_37, e70_38, e70_39, e70_40, e70_41, e70_44, e70_45, e70_46, e70_47, e70_48, e70_49, e70_50, e70_52, e70_53, e70_56, e70_58, e70_59, e70_62, e70_63, e70_66, e70_68, e70_69, e70_70, e70_71, e70_74, e70_75, e70_78, e70_80, e70_81, e70_82, e70_83, e70_84, e70_87, e70_90, rk_n, rk_v, nl_n, nl_i, nl_r, cat_n, ip_cat_int, ip_cat_ref, ip_cat_long, ip_rf_some, Nat.reduceAdd, Nat.reduceLeDiff, Nat.reduceLT, Nat.le_refl, Nat.zero_le, (by decide : ((4 : Int32) ≤ Int32.ofNat 4) = True), Bool.false_eq_true, Bool.true_eq_false, if_true, if_false, not_true_eq_false, not_false_eq_true, zle, eq_self]
  · by_cases e : i = h
    · subst e
      rw [lw_in (show s / 64 < 4 by omega), pst_e]
      have X1 := X.2 i (by omega) s hs
      have X2 := X.2 (i + 1) (by omega) s hs
      have a1 := hl s
      have a2 := hl2 s
      have c1 : st i s = 0 ∨ st i s = 1 := by omega
      have c2 : st (i + 1) s = 0 ∨ st (i + 1) s = 1 := by omega
      rw [hG]
      cases q with
      | true =>
        show bL (L 6 (4 * i + s / 64) &&& L 6 (4 * (i + 1) + s / 64)) (s % 64) = decide (vAnd (st i) (st (i + 1)) s = 1)
        rw [bL_and, X1, X2]
        unfold vAnd
        rcases c1 with z | z <;> rcases c2 with y | y <;> rw [z, y] <;> rfl
      | false =>
        show bL (L 6 (4 * i + s / 64) ||| L 6 (4 * (i + 1) + s / 64)) (s % 64) = decide (vOr (st i) (st (i + 1)) s = 1)
        rw [bL_or, X1, X2]
        unfold vOr
        rcases c1 with z | z <;> rcases c2 with y | y <;> rw [z, y] <;> rfl
    · rw [lw_at (by omega), pst_n e]; exact X.2 i (by omega) s hs
/-! so many of them -/
def sBt (r : Nat → Int64) : Nat → Nat → Nat
  | 0, _ => 0
  | j + 1, b => sBt r j b + (if bL (r j) b = true then 1 else 0)
def CNT (m : Nat) (c : Nat → Nat) (L : Nat → Nat → Int64) : Prop := ∀ i, i ≤ m → ∀ b, b < 64 → bL (L 7 i) b = decide (i ≤ c b)
def o7 (L L' : Nat → Nat → Int64) : Prop := ∀ a k, ¬ a = 7 → L' a k = L a k
theorem c68 (hR : LYR R) (hm : j ≤ 9) : ∃ L', (∀ d, cf d 68 [.ref 5, .int (Int32.ofNat j)] (SH n, I, L, R, nc, ns, nx) = some (.inl none, (SH n, I, L', R, nc, ns, nx))) ∧ CNT j (fun _ => 0) L' ∧ o7 L L' := by
  have H : ∀ m i (L0 : Nat → Nat → Int64), i + m = j + 1 → 1 ≤ i → (L0 7 0 = -1 ∧ (∀ q, 1 ≤ q → q < i → L0 7 q = 0) ∧ o7 L L0) → ∃ L', (∀ d, rf d 68 11 [some (.ref 5), some (.int (Int32.ofNat j)), some (.int (Int32.ofNat i))] [] (SH n, I, L0, R, nc, ns, nx) = some (.inl none, (SH n, I, L', R, nc, ns, nx))) ∧ (L' 7 0 = -1 ∧ (∀ q, 1 ≤ q → q < j + 1 → L' 7 q = 0) ∧ o7 L L') := by
    intro m
    induction m with
    | zero =>
      intro i L0 h1 h2 h3
      have e : i = j + 1 := by omega
      subst e
      have g : (Int32.ofNat j < Int32.ofNat (j + 1)) = True := eq_true ((nu_lt (by omega) (by omega)).mpr (by omega))
      refine ⟨L0, fun d => ?_, h3⟩
      rw [e68_11]
      simp only [e68_0, e68_1, e68_4, e68_5, e68_8, e68_9, e68_10, e68_12, e68_13, e68_16, e68_17, e68_20, e68_21, e68_22, e68_23, e68_26, e68_29, rk_n, rk_v, nl_n, nl_i, nl_r, cat_n, ip_cat_int, ip_cat_ref, ip_cat_long, ip_rf_some, Nat.reduceAdd, Nat.reduceLeDiff, Nat.reduceLT, Nat.le_refl, Nat.zero_le, g, Bool.false_eq_true, Bool.true_eq_false, if_true, if_false, not_true_eq_false, not_false_eq_true, zle, eq_self]
    | succ m ih =>
      intro i L0 h1 h2 h3
      have g : (Int32.ofNat j < Int32.ofNat i) = False := eq_false (fun e => by have := (nu_lt (by omega) (by omega)).mp e; omega)
      have e1 : Int32.ofNat i + 1 = Int32.ofNat (i + 1) := nu_add (s := 1)
      have l1 : i < 2147483648 := by omega
      have l2 : i < 10 := by omega
      obtain ⟨L', A, P⟩ := ih (i + 1) (ip_up L0 7 i 0) (by omega) (by omega) ⟨by rw [up_k (by omega)]; exact h3.1, fun q q1 q2 => by
        by_cases e : q = i
        · subst e; exact up_eq
        · rw [up_k e]; exact h3.2.1 q q1 (by omega), fun a k h => (up_a h).trans (h3.2.2 a k h)⟩
      refine ⟨L', fun d => ?_, P⟩
      rw [← A d, e68_11]
      simp only [e68_0, e68_1, e68_4, e68_5, e68_8, e68_9, e68_10, e68_12, e68_13, e68_16, e68_17, e68_20, e68_21, e68_22, e68_23, e68_26, e68_29, rk_n, rk_v, nl_n, nl_i, nl_r, cat_n, ip_cat_int, ip_cat_ref, ip_cat_long, ip_rf_some, Nat.reduceAdd, Nat.reduceLeDiff, Nat.reduceLT, Nat.le_refl, Nat.zero_le, hR, g, e1, ia_lit, nu_i, nu_tn, l1, l2, Bool.false_eq_true, Bool.true_eq_false, if_true, if_false, not_true_eq_false, not_false_eq_true, zle, eq_self]
  obtain ⟨L', A, P1, P2, P3⟩ := H j 1 (ip_up L 7 0 (-1)) (by omega) (by omega) ⟨up_eq, fun q q1 q2 => by omega, fun a k h => up_a h⟩
  refine ⟨L', fun d => ?_, fun i hi b hb => ?_, P3⟩
  · have A : rf d 68 11 [some (.ref 5), some (.int (Int32.ofNat j)), some (.int 1)] [] (SH n, I, ip_up L 7 0 (-1), R, nc, ns, nx) = _ := A d
    rw [← A]
    simp only [en68, e68_0, e68_1, e68_4, e68_5, e68_8, e68_9, e68_10, e68_12, e68_13, e68_16, e68_17, e68_20, e68_21, e68_22, e68_23, e68_26, e68_29, rk_n, rk_v, nl_n, nl_i, nl_r, cat_n, ip_cat_int, ip_cat_ref, ip_cat_long, ip_rf_some, Nat.reduceAdd, Nat.reduceLeDiff, Nat.reduceLT, Nat.le_refl, Nat.zero_le, hR, ia_lit, inbL, tnL, Bool.false_eq_true, Bool.true_eq_false, if_true, if_false, not_true_eq_false, not_false_eq_true, zle, eq_self]
  · by_cases e : i = 0
    · subst e; rw [P1, (bL_m1 b hb).1]; rfl
    · rw [P2 i (by omega) (by omega), (bL_m1 b hb).2]; exact (decide_eq_false (show ¬ i ≤ 0 by omega)).symm
theorem c69 (hR : LYR R) (hm : j ≤ 9) (u : Int64) {c : Nat → Nat} (X : CNT j c L) : ∃ L', (∀ d, cf d 69 [.ref 5, .int (Int32.ofNat j), .long u] (SH n, I, L, R, nc, ns, nx) = some (.inl none, (SH n, I, L', R, nc, ns, nx))) ∧ CNT j (fun b => c b + (if bL u b = true then 1 else 0)) L' ∧ o7 L L' := by
  have H : ∀ i (L0 : Nat → Nat → Int64), i ≤ j → ((∀ q, q ≤ i → L0 7 q = L 7 q) ∧ (∀ q, i < q → q ≤ j → L0 7 q = L 7 q ||| (L 7 (q - 1) &&& u)) ∧ o7 L L0) → ∃ L', (∀ d, rf d 69 3 [some (.ref 5), some (.int (Int32.ofNat j)), some (.long u), none, some (.int (Int32.ofNat i))] [] (SH n, I, L0, R, nc, ns, nx) = some (.inl none, (SH n, I, L', R, nc, ns, nx))) ∧ (L' 7 0 = L 7 0 ∧ (∀ q, 0 < q → q ≤ j → L' 7 q = L 7 q ||| (L 7 (q - 1) &&& u)) ∧ o7 L L') := by
    intro i
    induction i with
    | zero =>
      intro L0 h1 h3
      refine ⟨L0, fun d => ?_, h3.1 0 (by omega), h3.2.1, h3.2.2⟩
      rw [e69_3]
      simp only [e69_0, e69_1, e69_5, e69_8, e69_9, e69_12, e69_14, e69_15, e69_16, e69_17, e69_20, e69_22, e69_23, e69_24, e69_25, e69_26, e69_27, e69_28, e69_29, e69_32, e69_35, rk_n, rk_v, nl_n, nl_i, nl_r, cat_n, ip_cat_int, ip_cat_ref, ip_cat_long, ip_rf_some, Nat.reduceAdd, Nat.reduceLeDiff, Nat.reduceLT, Nat.le_refl, Nat.zero_le, (by decide : (Int32.ofNat 0 ≤ 0) = True), Bool.false_eq_true, Bool.true_eq_false, if_true, if_false, not_true_eq_false, not_false_eq_true, zle, eq_self]
    | succ i ih =>
      intro L0 h1 h3
      have g : (Int32.ofNat (i + 1) ≤ 0) = False := eq_false (fun e => by have := (nu_le (s := 0) (by omega) (by omega)).mp e; omega)
      have e1 : Int32.ofNat (i + 1) - 1 = Int32.ofNat i := by
        rw [show Int32.ofNat (i + 1) = Int32.ofNat i + 1 from (nu_add (s := 1)).symm, Int32.add_sub_cancel]
      have e2 : Int32.ofNat (i + 1) + -1 = Int32.ofNat i := by
        rw [show Int32.ofNat (i + 1) = Int32.ofNat i + 1 from (nu_add (s := 1)).symm, Int32.add_assoc, show (1 : Int32) + -1 = 0 by decide, Int32.add_zero]
      have l1 : i < 2147483648 := by omega
      have l2 : i < 10 := by omega
      have l3 : i + 1 < 2147483648 := by omega
      have l4 : i + 1 < 10 := by omega
      have r1 := h3.1 i (by omega)
      have r2 := h3.1 (i + 1) (by omega)
      obtain ⟨L', A, P⟩ := ih (ip_up L0 7 (i + 1) (L 7 (i + 1) ||| (L 7 i &&& u))) (by omega) ⟨fun q hq => by rw [up_k (by omega)]; exact h3.1 q (by omega), fun q q1 q2 => by
        by_cases e : q = i + 1
        · subst e; rw [up_eq, show i + 1 - 1 = i by omega]
        · rw [up_k e]; exact h3.2.1 q (by omega) q2, fun a k h => (up_a h).trans (h3.2.2 a k h)⟩
      refine ⟨L', fun d => ?_, P⟩
      rw [← A d, e69_3]
      simp only [e69_0, e69_1, e69_5, e69_8, e69_9, e69_12, e69_14, e69_15, e69_16, e69_17, e69_20, e69_22, e69_23, e69_24, e69_25, e69_26, e69_27, e69_28, e69_29, e69_32, e69_35, rk_n, rk_v, nl_n, nl_i, nl_r, cat_n, ip_cat_int, ip_cat_ref, ip_cat_long, ip_rf_some, Nat.reduceAdd, Nat.reduceLeDiff, Nat.reduceLT, Nat.le_refl, Nat.zero_le, hR, g, e1, e2, ia_lit, nu_i, nu_tn, l1, l2, l3, l4, r1, r2, Bool.false_eq_true, Bool.true_eq_false, if_true, if_false, not_true_eq_false, not_false_eq_true, zle, eq_self]
  obtain ⟨L', A, P1, P2, P3⟩ := H j L (Nat.le_refl _) ⟨fun _ _ => rfl, fun q q1 q2 => by omega, fun _ _ _ => rfl⟩
  refine ⟨L', fun d => ?_, fun i hi b hb => ?_, P3⟩
  · rw [← A d]
    simp only [en69, e69_0, e69_1, e69_5, e69_8, e69_9, e69_12, e69_14, e69_15, e69_16, e69_17, e69_20, e69_22, e69_23, e69_24, e69_25, e69_26, e69_27, e69_28, e69_29, e69_32, e69_35, rk_n, rk_v, nl_n, nl_i, nl_r, cat_n, ip_cat_int, ip_cat_ref, ip_cat_long, ip_rf_some, Nat.reduceAdd, Nat.reduceLeDiff, Nat.reduceLT, Nat.le_refl, Nat.zero_le, Bool.false_eq_true, Bool.true_eq_false, if_true, if_false, not_true_eq_false, not_false_eq_true, zle, eq_self]
  · by_cases e : i = 0
    · subst e; rw [P1, X 0 (by omega) b hb, decide_eq_true (Nat.zero_le (c b)), decide_eq_true (Nat.zero_le _)]
    · rw [P2 i (by omega) hi, bL_or, bL_and, X i hi b hb, X (i - 1) (by omega) b hb]
      show (decide (i ≤ c b) || (decide (i - 1 ≤ c b) && bL u b)) = decide (i ≤ c b + (if bL u b = true then 1 else 0))
      by_cases hu : bL u b = true
      · rw [show (if bL u b = true then 1 else 0) = 1 from if_pos hu, hu, Bool.and_true]
        by_cases q : i ≤ c b + 1
        · rw [decide_eq_true q, decide_eq_true (show i - 1 ≤ c b by omega), Bool.or_true]
        · rw [decide_eq_false q, decide_eq_false (show ¬ i - 1 ≤ c b by omega), decide_eq_false (show ¬ i ≤ c b by omega)]; rfl
      · rw [show (if bL u b = true then 1 else 0) = 0 from if_neg hu, Bool.eq_false_iff.mpr hu, Bool.and_false, Bool.or_false, Nat.add_zero]
/-- a row of so many words, counted -/
theorem t67 (hR : LYR R) (hm : j ≤ 9) (h5 : J 5 2 = Int32.ofNat (h + k)) (hh : h + k ≤ 40) (hw : w < 4) : ∀ m i (L0 : Nat → Nat → Int64), i + m = k → CNT j (sBt (fun i => L 6 (4 * (h + i) + w)) i) L0 → (∀ i, i < k → L0 6 (4 * (h + i) + w) = L 6 (4 * (h + i) + w)) → ∃ L', (∀ d, rf (d + 1) 67 51 [some (.ref 5), some (.int (Int32.ofNat j)), some (.int (Int32.ofNat k)), some (.int (Int32.ofNat h)), some (.int (Int32.ofNat w)), some (.int (Int32.ofNat (h + i)))] [] (SH n, J, L0, R, nc, ns, nx) = rf (d + 1) 67 83 [some (.ref 5), some (.int (Int32.ofNat j)), some (.int (Int32.ofNat k)), some (.int (Int32.ofNat h)), some (.int (Int32.ofNat w)), some (.int (Int32.ofNat (h + k)))] [] (SH n, J, L', R, nc, ns, nx)) ∧ CNT j (sBt (fun i => L 6 (4 * (h + i) + w)) k) L' ∧ o7 L0 L' := by
  intro m
  induction m with
  | zero =>
    intro i L0 h1 X h2
    have e : i = k := by omega
    subst e
    have g : (Int32.ofNat (h + i) ≤ Int32.ofNat (h + i)) = True := eq_true Int32.le_rfl
    refine ⟨L0, fun d => ?_, X, fun _ _ _ => rfl⟩
    rw [e67_51]
    simp only [e67_53, e67_54, e67_57, h5, g, Bool.false_eq_true, Bool.true_eq_false, if_true, if_false, not_true_eq_false, not_false_eq_true, zle, eq_self]
  | succ m ih =>
    intro i L0 h1 X h2
    have g : (Int32.ofNat (h + k) ≤ Int32.ofNat (h + i)) = False := eq_false (fun e => by have := (nu_le (by omega) (by omega)).mp e; omega)
    have e1 : Int32.ofNat (h + i) + 1 = Int32.ofNat (h + (i + 1)) := nu_add (s := 1)
    have e3 : Int32.ofNat (h + i) * 4 + Int32.ofNat w = Int32.ofNat (4 * (h + i) + w) := by
      have : Int32.ofNat (h + i) * 4 = Int32.ofNat ((h + i) * 4) := (Int32.ofNat_mul _ _).symm
      rw [this, nu_add, Nat.mul_comm]
    have l1 : 4 * (h + i) + w < 2147483648 := by omega
    have l2 : 4 * (h + i) + w < 160 := by omega
    have r1 := h2 i (by omega)
    obtain ⟨L1, A1, X1, O1⟩ := c69 (n := n) (I := J) (nc := nc) (ns := ns) (nx := nx) hR hm (L 6 (4 * (h + i) + w)) X
    obtain ⟨L2, A2, X2, O2⟩ := ih (i + 1) L1 (by omega) X1 (fun q hq => (O1 6 _ (by decide)).trans (h2 q hq))
    refine ⟨L2, fun d => ?_, X2, fun a k h => (O2 a k h).trans (O1 a k h)⟩
    rw [← A2 d, e67_51]
    simp only [e67_53, e67_54, e67_57, e67_60, e67_61, e67_62, e67_63, e67_66, e67_68, e67_69, e67_70, e67_72, e67_73, e67_74, e67_77, e67_80, rk_n, rk_v, nl_n, nl_i, nl_r, cat_n, ip_cat_int, ip_cat_ref, ip_cat_long, ip_rf_some, Nat.reduceAdd, Nat.reduceLeDiff, Nat.reduceLT, Nat.le_refl, Nat.zero_le, hR, h5, g, e1, e3, ia_lit, nu_i, nu_tn, l1, l2, r1, A1, Bool.false_eq_true, Bool.true_eq_false, if_true, if_false, not_true_eq_false, not_false_eq_true, zle, eq_self]
theorem sBt_is {s : Nat} (hs : s < 256) : ∀ k, (∀ i, i < k → bL (L 6 (4 * (h + i) + s / 64)) (s % 64) = decide (st (h + i) s = 1) ∧ st (h + i) s ≤ 1) → sBt (fun i => L 6 (4 * (h + i) + s / 64)) k (s % 64) = (List.range k).foldl (fun a i => a + st (h + i) s) 0 := by
  intro k
  induction k with
  | zero => intro _; rfl
  | succ k ih =>
    intro H
    rw [List.range_succ, List.foldl_append, ← ih (fun i hi => H i (by omega)), sBt]
    obtain ⟨a1, a2⟩ := H k (by omega)
    show _ + _ = _ + st (h + k) s
    have : st (h + k) s = 0 ∨ st (h + k) s = 1 := by omega
    rcases this with e | e
    · rw [e] at a1 ⊢; rw [if_neg (by rw [a1]; decide)]
    · rw [e] at a1 ⊢; rw [if_pos (by rw [a1]; decide)]
/-- the sum of so many -/
def smS (st : Nat → Nat → Nat) (h k s : Nat) : Nat := (List.range k).foldl (fun a i => a + st (h + i) s) 0
theorem c67 (hR : LYR R) (hm : j ≤ 9) (X : TB (h + k) st J L) (hk : 1 ≤ k) (hh : h + k ≤ 40) (hl : ∀ i, i < k → le1 (st (h + i))) (hv : ∀ s, s < 256 → smS st h k s = v s) : ∃ L', (∀ d, cf (d + 2) 67 [.ref 5, .int (Int32.ofNat j), .int (Int32.ofNat k)] (SH n, J, L, R, nc, ns, nx) = some (.inl none, (SH n, ip_up J 5 2 (Int32.ofNat (h + 1)), L', R, nc, ns, nx))) ∧ TB (h + 1) (pst st h (vLst j v)) (ip_up J 5 2 (Int32.ofNat (h + 1))) L' ∧ oL L L' := by
  have h5 := X.1
  have W : ∃ y : Nat → Nat → Int64, ((∀ a k, ¬ a = 6 → ¬ a = 7 → y a k = L a k) ∧ (∀ q, ¬ (4 * h ≤ q ∧ q < 4 * h + 4) → y 6 q = L 6 q) ∧ (∀ u, u < 4 → ∀ b, b < 64 → bL (y 6 (4 * h + u)) b = decide (j ≤ sBt (fun i => L 6 (4 * (h + i) + u)) k b))) ∧ ∀ d, ∃ l, rf (d + 2) 67 37 [some (.ref 5), some (.int (Int32.ofNat j)), some (.int (Int32.ofNat k)), some (.int (Int32.ofNat h)), some (.int (Int32.ofNat 0)), none] [] (SH n, J, L, R, nc, ns, nx) = rf (d + 2) 67 37 [some (.ref 5), some (.int (Int32.ofNat j)), some (.int (Int32.ofNat k)), some (.int (Int32.ofNat h)), some (.int (Int32.ofNat 4)), l] [] (SH n, J, y, R, nc, ns, nx) := by
    have H : ∀ m w (L0 : Nat → Nat → Int64) (l0 : Option Value), w + m = 4 → ((∀ a k, ¬ a = 6 → ¬ a = 7 → L0 a k = L a k) ∧ (∀ q, ¬ (4 * h ≤ q ∧ q < 4 * h + w) → L0 6 q = L 6 q) ∧ (∀ u, u < w → ∀ b, b < 64 → bL (L0 6 (4 * h + u)) b = decide (j ≤ sBt (fun i => L 6 (4 * (h + i) + u)) k b))) → ∃ y : Nat → Nat → Int64, ((∀ a k, ¬ a = 6 → ¬ a = 7 → y a k = L a k) ∧ (∀ q, ¬ (4 * h ≤ q ∧ q < 4 * h + 4) → y 6 q = L 6 q) ∧ (∀ u, u < 4 → ∀ b, b < 64 → bL (y 6 (4 * h + u)) b = decide (j ≤ sBt (fun i => L 6 (4 * (h + i) + u)) k b))) ∧ ∀ d, ∃ l, rf (d + 2) 67 37 [some (.ref 5), some (.int (Int32.ofNat j)), some (.int (Int32.ofNat k)), some (.int (Int32.ofNat h)), some (.int (Int32.ofNat w)), l0] [] (SH n, J, L0, R, nc, ns, nx) = rf (d + 2) 67 37 [some (.ref 5), some (.int (Int32.ofNat j)), some (.int (Int32.ofNat k)), some (.int (Int32.ofNat h)), some (.int (Int32.ofNat 4)), l] [] (SH n, J, y, R, nc, ns, nx) := by
      intro m
      induction m with
      | zero =>
        intro w L0 l0 e P
        have e : w = 4 := by omega
        subst e
        exact ⟨L0, P, fun d => ⟨l0, rfl⟩⟩
      | succ m ih =>
        intro w L0 l0 e P
        obtain ⟨P1, P2, P3⟩ := P
        have g : ((4 : Int32) ≤ Int32.ofNat w) = False := eq_false (fun e => by have := (nu_le (t := 4) (by omega) (by omega)).mp e; omega)
        have e2 : Int32.ofNat w + 1 = Int32.ofNat (w + 1) := nu_add (s := 1)
        have e3 : Int32.ofNat h * 4 + Int32.ofNat w = Int32.ofNat (4 * h + w) := by
          have : Int32.ofNat h * 4 = Int32.ofNat (h * 4) := (Int32.ofNat_mul _ _).symm
          rw [this, nu_add, Nat.mul_comm]
        have l1 : 4 * h + w < 2147483648 := by omega
        have l2 : 4 * h + w < 160 := by omega
        have l3 : j < 2147483648 := by omega
        have l4 : j < 10 := by omega
        obtain ⟨L1, A1, X1, O1⟩ := c68 (n := n) (I := J) (L := L0) (nc := nc) (ns := ns) (nx := nx) hR hm
        obtain ⟨L2, A2, X2, O2⟩ := t67 (n := n) (L := L) (nc := nc) (ns := ns) (nx := nx) (w := w) hR hm h5 hh (by omega) k 0 L1 (by omega) X1 (fun i hi => by rw [O1 6 _ (by decide), P2 _ (by omega)])
        have q6 : ∀ q, L2 6 q = L0 6 q := fun q => (O2 6 q (by decide)).trans (O1 6 q (by decide))
        obtain ⟨y, Py, Ay⟩ := ih (w + 1) (ip_up L2 6 (4 * h + w) (L2 7 j)) (some (.int (Int32.ofNat (h + k)))) (by omega) ⟨fun a k h1 h2 => by rw [up_a h1, O2 a k h2, O1 a k h2]; exact P1 a k h1 h2, fun q hq => by rw [up_k (by omega), q6]; exact P2 q (by omega), fun u hu b hb => by
          by_cases e : u = w
          · subst e; rw [up_eq]; exact X2 j (Nat.le_refl _) b hb
          · rw [up_k (by omega), q6]; exact P3 u (by omega) b hb⟩
        refine ⟨y, Py, fun d => ?_⟩
        obtain ⟨l, A⟩ := Ay d
        refine ⟨l, ?_⟩
        have A2 : rf (d + 1 + 1) 67 51 [some (.ref 5), some (.int (Int32.ofNat j)), some (.int (Int32.ofNat k)), some (.int (Int32.ofNat h)), some (.int (Int32.ofNat w)), some (.int (Int32.ofNat h))] [] (SH n, J, L1, R, nc, ns, nx) = _ := A2 (d + 1)
        rw [← A, e67_37]
        simp only [e67_39, e67_40, e67_43, e67_44, e67_45, e67_48, e67_49, rk_n, rk_v, nl_n, nl_i, nl_r, cat_n, ip_cat_int, ip_cat_ref, ip_cat_long, ip_rf_some, Nat.reduceAdd, Nat.reduceLeDiff, Nat.reduceLT, Nat.le_refl, Nat.zero_le, g, A1, Bool.false_eq_true, Bool.true_eq_false, if_true, if_false, not_true_eq_false, not_false_eq_true, zle, eq_self]
        rw [A2]
        simp only [e67_83, e67_84, e67_87, e67_88, e67_89, e67_90, e67_92, e67_93, e67_94, e67_97, e67_98, e67_99, e67_100, e67_103, rk_n, rk_v, nl_n, nl_i, nl_r, cat_n, ip_cat_int, ip_cat_ref, ip_cat_long, ip_rf_some, Nat.reduceAdd, Nat.reduceLeDiff, Nat.reduceLT, Nat.le_refl, Nat.zero_le, hR, e2, e3, ia_lit, nu_i, nu_tn, l1, l2, l3, l4, Bool.false_eq_true, Bool.true_eq_false, if_true, if_false, not_true_eq_false, not_false_eq_true, zle, eq_self]
    exact H 4 0 L none (by omega) ⟨fun _ _ _ _ => rfl, fun _ _ => rfl, fun u hu => by omega⟩
  obtain ⟨y, ⟨P1, P2, P3⟩, A⟩ := W
  have e1 : Int32.ofNat h + 1 = Int32.ofNat (h + 1) := nu_add (s := 1)
  refine ⟨y, fun d => ?_, ⟨up_eq, fun i hi s hs => ?_⟩, P1⟩
  · obtain ⟨l, A⟩ := A d
    have A : rf (d + 2) 67 37 [some (.ref 5), some (.int (Int32.ofNat j)), some (.int (Int32.ofNat k)), some (.int (Int32.ofNat h)), some (.int 0), none] [] (SH n, J, L, R, nc, ns, nx) = _ := A
    have g1 : (Int32.ofNat k < 1) = False := eq_false (fun e => by have := (nu_lt (s := 1) (by omega) (by omega)).mp e; omega)
    have g2 : (Int32.ofNat (h + k) < Int32.ofNat k) = False := eq_false (fun e => by have := (nu_lt (by omega) (by omega)).mp e; omega)
    have g3 : ¬ Int32.ofNat j < 0 := nu_nn (by omega)
    have g4 : (Int32.ofNat j < Int32.ofNat 10) = True := eq_true ((nu_lt (by omega) (by omega)).mpr (by omega))
    have k7 : (kd (SH n) 7 = 100 ∨ kd (SH n) 7 = 101) ∧ 2 ≤ 7 := ⟨Or.inr rfl, by decide⟩
    have n7 : ln (SH n) 7 = 10 := rfl
    have es : Int32.ofNat (h + k) - Int32.ofNat k = Int32.ofNat h := by rw [← nu_add, Int32.add_sub_cancel]
    have e22 := fun ls s => e67_22 (d := d + 2) (n := n) (I := J) (L := L) (R := R) (nc := nc) (ns := ns) (nx := nx) (ls := ls) (s := s) k7
    simp only [en67, e67_0, e67_1, e67_2, e67_5, e67_6, e67_7, e67_10, e67_13, e67_14, e67_17, e67_18, e67_19, e22, e67_23, e67_27, e67_28, e67_31, e67_32, e67_33, e67_34, e67_35, rk_n, rk_v, nl_n, nl_i, nl_r, cat_n, ip_cat_int, ip_cat_ref, ip_cat_long, ip_rf_some, Nat.reduceAdd, Nat.reduceLeDiff, Nat.reduceLT, Nat.le_refl, Nat.zero_le, hR, h5, g1, g2, g3, g4, n7, es, Bool.false_eq_true, Bool.true_eq_false, if_true, if_false, not_true_eq_false, not_false_eq_true, zle, eq_self]
    rw [A, e67_37]
    simp only [e67_39, e67_40, e67_106, e67_107, e67_108, e67_109, e67_110, e67_113, e1, (by decide : ((4 : Int32) ≤ Int32.ofNat 4) = True), Bool.false_eq_true, Bool.true_eq_false, if_true, if_false, not_true_eq_false, not_false_eq_true, zle, eq_self]
  · by_cases e : i = h
    · subst e
      rw [P3 (s / 64) (by omega) (s % 64) (by omega), pst_e, sBt_is (st := st) hs k (fun q hq => ⟨X.2 (i + q) (by omega) s hs, hl q hq s⟩)]
      have := hv s hs
      unfold smS at this
      rw [this]
      unfold vLst
      by_cases z : j ≤ v s
      · rw [if_pos z, decide_eq_true z]; rfl
      · rw [if_neg z, decide_eq_false z]; rfl
    · rw [P2 _ (by omega), pst_n e]; exact X.2 i (by omega) s hs
end TBL
