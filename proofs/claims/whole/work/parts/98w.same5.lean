/-! CALL BY CALL: name -/
theorem getD_in {l : List Nat} {i : Nat} (h : i < l.length) : l.getD i 0 = l[i] := by simp [List.getD, h]
def pkl : List Nat → Nat
  | [] => 0
  | x :: r => x + 32 * pkl r
theorem pck_pkl (ls : List Nat) : pck ls = pkl ls.reverse := by
  unfold pck
  rw [List.foldl_eq_foldr_reverse]
  induction ls.reverse with
  | nil => rfl
  | cons x r ih => simp only [List.foldr_cons, pkl, ih]; omega
def okl (rl : List Nat) : Prop := ∀ x, x ∈ rl → 1 ≤ x ∧ x ≤ 26
theorem pkl_lt : ∀ (rl : List Nat), okl rl → pkl rl < 32 ^ rl.length := by
  intro rl
  induction rl with
  | nil => intro _; decide
  | cons x r ih =>
    intro h
    have h1 := h x (List.mem_cons_self ..)
    have h2 := ih (fun y hy => h y (List.mem_cons_of_mem _ hy))
    rw [List.length_cons, Nat.pow_succ]
    unfold pkl
    omega
theorem pkl_30 {rl : List Nat} (h : okl rl) (hl : rl.length ≤ 6) : pkl rl < 1073741824 := by
  have h1 := pkl_lt rl h
  have h2 : 32 ^ rl.length ≤ 32 ^ 6 := Nat.pow_le_pow_right (by omega) hl
  omega
theorem lg_rem {a : Nat} (h : a < 9223372036854775808) : (Int64.ofNat a - Int64.ofNat a / 32 * 32).toInt32 = Int32.ofNat (a % 32) := by
  have e : Int64.ofNat a = Int64.ofNat (a / 32) * 32 + Int64.ofNat (a % 32) := by
    have e2 : Int64.ofNat (a / 32) * 32 = Int64.ofNat (a / 32 * 32) := (Int64.ofNat_mul _ _).symm
    rw [e2, ← Int64.ofNat_add]
    congr 1; omega
  have e3 : Int64.ofNat a - Int64.ofNat a / 32 * 32 = Int64.ofNat (a % 32) := by
    rw [lg_div h]
    generalize hq : Int64.ofNat (a / 32) * 32 = Q at *
    rw [e]
    rw [Int64.add_comm, Int64.add_sub_cancel]
  rw [e3]
  exact Int64.toInt32_ofNat' ..
section S5
variable {n d a b T c s t z o w m p k N q i : Nat} {I J K M I1 I2 : Nat → Nat → Int32} {L L' : Nat → Nat → Int64} {R R' : Nat → Nat → Option Nat} {nc ns : Nat} {nx : Bool} {x y j v u code x1 x2 x3 : Int32} {h' h : ip_H} {l0 : Option Value}
theorem t220 : ∀ (rl : List Nat) (x : Int32), okl rl → pkl rl < 1073741824 → rf d 220 4 [l0, none, some (.int x), some (.long (Int64.ofNat (pkl rl))), none] [] h = some (.inl (some (.int (x + Int32.ofNat rl.length))), h) := by
  intro rl
  induction rl with
  | nil =>
    intro x _ _
    have g := lg_pos (a := pkl []) (by decide)
    have z : (pkl [] = 0) = True := by decide
    rw [e220_4]
    simp only [e220_0, e220_1, e220_2, e220_3, e220_5, e220_6, e220_7, e220_10, e220_13, e220_14, e220_17, e220_18, e220_19, e220_22, e220_23, rk_n, rk_v, nl_n, nl_i, nl_r, cat_n, ip_cat_int, ip_cat_ref, ip_cat_long, ip_rf_some, Nat.reduceAdd, Nat.reduceLeDiff, Nat.reduceLT, Nat.le_refl, Nat.zero_le, g, z, List.length_nil, Bool.false_eq_true, Bool.true_eq_false, if_true, if_false, not_true_eq_false, not_false_eq_true, zle, eq_self]
    rw [show Int32.ofNat 0 = 0 from rfl, Int32.add_zero]
  | cons y r ih =>
    intro x ho hl
    have hy := ho y (List.mem_cons_self ..)
    have hd : pkl (y :: r) / 32 = pkl r := by show (y + 32 * pkl r) / 32 = pkl r; omega
    have hz : (pkl (y :: r) = 0) = False := by apply eq_false; show ¬ (y + 32 * pkl r = 0); omega
    have g := lg_pos (a := pkl (y :: r)) (by omega)
    have g2 := lg_div (a := pkl (y :: r)) (by omega)
    have n32 : ¬ (32 : Int64) = 0 := by decide
    have IH := ih (x + 1) (fun z hz => ho z (List.mem_cons_of_mem _ hz)) (by omega)
    rw [e220_4]
    simp only [e220_0, e220_1, e220_2, e220_3, e220_5, e220_6, e220_7, e220_10, e220_13, e220_14, e220_17, e220_18, e220_19, e220_22, e220_23, rk_n, rk_v, nl_n, nl_i, nl_r, cat_n, ip_cat_int, ip_cat_ref, ip_cat_long, ip_rf_some, Nat.reduceAdd, Nat.reduceLeDiff, Nat.reduceLT, Nat.le_refl, Nat.zero_le, g, hz, g2, hd, n32, IH, Bool.false_eq_true, Bool.true_eq_false, if_true, if_false, not_true_eq_false, not_false_eq_true, zle, eq_self]
    rw [List.length_cons, Int32.add_assoc]
    rw [show (1 : Int32) + Int32.ofNat r.length = Int32.ofNat (r.length + 1) from by rw [Nat.add_comm]; exact nu_add (t := 1)]
theorem c220 {rl : List Nat} (h1 : okl rl) (h2 : rl.length ≤ 6) : cf d 220 [.long (Int64.ofNat (pkl rl))] h = some (.inl (some (.int (Int32.ofNat rl.length))), h) := by
  have A := t220 (d := d) (h := h) (l0 := some (.long (Int64.ofNat (pkl rl)))) rl 0 h1 (pkl_30 h1 h2)
  simp only [en220, e220_0, e220_1, e220_2, e220_3, e220_5, e220_6, e220_7, e220_10, e220_13, e220_14, e220_17, e220_18, e220_19, e220_22, e220_23, rk_n, rk_v, nl_n, nl_i, nl_r, cat_n, ip_cat_int, ip_cat_ref, ip_cat_long, ip_rf_some, Nat.reduceAdd, Nat.reduceLeDiff, Nat.reduceLT, Nat.le_refl, Nat.zero_le, A, Int32.zero_add, Bool.false_eq_true, Bool.true_eq_false, if_true, if_false, not_true_eq_false, not_false_eq_true, zle, eq_self]
theorem t221 : ∀ (m : Nat) (rl : List Nat), okl rl → pkl rl < 1073741824 → m < rl.length → i + m < 100 → rf d 221 10 [l0, none, some (.int (Int32.ofNat i)), some (.long (Int64.ofNat (pkl rl))), none, some (.int (Int32.ofNat (i + m)))] [] h = some (.inl (some (.int (Int32.ofNat (96 + rl.getD m 0)))), h) := by
  intro m
  induction m with
  | zero =>
    intro rl ho hl hm hi
    obtain ⟨y, r, rfl⟩ : ∃ y r, rl = y :: r := by
      cases rl with
      | nil => simp at hm
      | cons y r => exact ⟨y, r, rfl⟩
    have hy := ho y (List.mem_cons_self ..)
    have hd : pkl (y :: r) % 32 = y := by show (y + 32 * pkl r) % 32 = y; omega
    have g2 := lg_rem (a := pkl (y :: r)) (by omega)
    have n32 : ¬ (32 : Int64) = 0 := by decide
    have gl : (Int32.ofNat i ≤ Int32.ofNat i) = True := eq_true Int32.le_rfl
    have e2 : Int32.ofNat y + 97 - 1 = Int32.ofNat (96 + y) := by
      have e3 : Int32.ofNat y + 97 = Int32.ofNat (y + 97) := nu_add (s := 97)
      have e4 : Int32.ofNat (y + 97) = Int32.ofNat (96 + y) + 1 := by rw [show y + 97 = (96 + y) + 1 by omega]; exact (nu_add (s := 1)).symm
      rw [e3, e4, Int32.add_sub_cancel]
    rw [e221_10]
    simp only [e221_0, e221_1, e221_2, e221_3, e221_6, e221_7, e221_8, e221_12, e221_13, e221_16, e221_17, e221_20, e221_21, e221_22, e221_25, e221_28, e221_29, e221_32, e221_33, e221_34, e221_36, e221_37, e221_38, e221_39, rk_n, rk_v, nl_n, nl_i, nl_r, cat_n, ip_cat_int, ip_cat_ref, ip_cat_long, ip_rf_some, Nat.reduceAdd, Nat.reduceLeDiff, Nat.reduceLT, Nat.le_refl, Nat.zero_le, Nat.add_zero, gl, g2, hd, n32, e2, List.getD_cons_zero, Bool.false_eq_true, Bool.true_eq_false, if_true, if_false, not_true_eq_false, not_false_eq_true, zle, eq_self]
  | succ m ih =>
    intro rl ho hl hm hi
    obtain ⟨y, r, rfl⟩ : ∃ y r, rl = y :: r := by
      cases rl with
      | nil => simp at hm
      | cons y r => exact ⟨y, r, rfl⟩
    have hy := ho y (List.mem_cons_self ..)
    have hd : pkl (y :: r) / 32 = pkl r := by show (y + 32 * pkl r) / 32 = pkl r; omega
    have hle : pkl r < 1073741824 := by
      have : pkl (y :: r) = y + 32 * pkl r := rfl
      omega
    have g2 := lg_div (a := pkl (y :: r)) (by omega)
    have n32 : ¬ (32 : Int64) = 0 := by decide
    have gl : (Int32.ofNat (i + (m + 1)) ≤ Int32.ofNat i) = False := eq_false (fun e => by have := (nu_le (by omega) (by omega)).mp e; omega)
    have em : Int32.ofNat (i + (m + 1)) + -1 = Int32.ofNat (i + m) := by
      rw [show i + (m + 1) = (i + m) + 1 by omega]
      rw [show Int32.ofNat (i + m + 1) = Int32.ofNat (i + m) + 1 from (nu_add (s := 1)).symm]
      rw [Int32.add_assoc, show (1 : Int32) + -1 = 0 from by decide, Int32.add_zero]
    have IH := ih r (fun z hz => ho z (List.mem_cons_of_mem _ hz)) hle (by simpa using hm) (by omega)
    rw [e221_10]
    simp only [e221_0, e221_1, e221_2, e221_3, e221_6, e221_7, e221_8, e221_12, e221_13, e221_16, e221_17, e221_20, e221_21, e221_22, e221_25, e221_28, e221_29, e221_32, e221_33, e221_34, e221_36, e221_37, e221_38, e221_39, rk_n, rk_v, nl_n, nl_i, nl_r, cat_n, ip_cat_int, ip_cat_ref, ip_cat_long, ip_rf_some, Nat.reduceAdd, Nat.reduceLeDiff, Nat.reduceLT, Nat.le_refl, Nat.zero_le, gl, g2, hd, n32, em, IH, List.getD_cons_succ, Bool.false_eq_true, Bool.true_eq_false, if_true, if_false, not_true_eq_false, not_false_eq_true, zle, eq_self]
theorem c221 {ls : List Nat} (h1 : okl ls) (h2 : ls.length ≤ 6) (hi : i < ls.length) : cf (d + 1) 221 [.long (Int64.ofNat (pck ls)), .int (Int32.ofNat i)] h = some (.inl (some (.int (Int32.ofNat (96 + ls.getD i 0)))), h) := by
  have o2 : okl ls.reverse := fun x hx => h1 x (List.mem_reverse.mp hx)
  have l2 : ls.reverse.length = ls.length := List.length_reverse
  have A := t221 (d := d + 1) (h := h) (i := i) (l0 := some (.long (Int64.ofNat (pkl ls.reverse)))) (ls.length - 1 - i) ls.reverse o2 (pkl_30 o2 (by omega)) (by omega) (by omega)
  have B := fun d h => c220 (d := d) (h := h) o2 (by omega)
  have e1 : Int32.ofNat ls.length - 1 = Int32.ofNat (i + (ls.length - 1 - i)) := by
    have : Int32.ofNat ls.length = Int32.ofNat (i + (ls.length - 1 - i)) + 1 := by
      rw [show ls.length = (i + (ls.length - 1 - i)) + 1 by omega]
      rw [show i + (i + (ls.length - 1 - i) + 1 - 1 - i) = i + (ls.length - 1 - i) by omega]
      exact (nu_add (s := 1)).symm
    rw [this, Int32.add_sub_cancel]
  have e2 : ls.reverse.getD (ls.length - 1 - i) 0 = ls.getD i 0 := by
    rw [getD_in (by omega), getD_in hi, List.getElem_reverse]
    congr 1; omega
  rw [e2] at A
  rw [pck_pkl]
  simp only [en221, e221_0, e221_1, e221_2, e221_3, e221_6, e221_7, e221_8, e221_12, e221_13, e221_16, e221_17, e221_20, e221_21, e221_22, e221_25, e221_28, e221_29, e221_32, e221_33, e221_34, e221_36, e221_37, e221_38, e221_39, rk_n, rk_v, nl_n, nl_i, nl_r, cat_n, ip_cat_int, ip_cat_ref, ip_cat_long, ip_rf_some, Nat.reduceAdd, Nat.reduceLeDiff, Nat.reduceLT, Nat.le_refl, Nat.zero_le, B, l2, e1, A, Bool.false_eq_true, Bool.true_eq_false, if_true, if_false, not_true_eq_false, not_false_eq_true, zle, eq_self]
theorem S5 : SAMEX 76 219 [.int x1, .int x2] Int32.toInt64 := by
  intro n I L R nc ns nx T c N w t p X
  have X0 := X
  have hR := X.1
  have hT : isT T := (REL_C X).1
  obtain ⟨-, rT, -, hc8, i6, i17, -, v8, v9, v10, v11, v12, v13⟩ := X.2.1
  rcases issC (x := x1) X with ⟨k, hk, rfl, C1, M1⟩ | ⟨C1, M1⟩
  · have k8 : k < 8 := by omega
    have lk : k < 2147483648 := by omega
    obtain ⟨ls, z1, z2, z3, z4, z5⟩ := v13 k hk
    have o2 : okl ls.reverse := fun x hx => z3 x (List.mem_reverse.mp hx)
    have l2 : ls.reverse.length = ls.length := List.length_reverse
    have B0 := fun d h => c220 (d := d) (h := h) o2 (by omega)
    rw [l2, ← pck_pkl] at B0
    by_cases g : ¬ x2 < 0 ∧ x2 < Int32.ofNat ls.length
    · have M3 := fun d h => c217 (d := d) (x := x2) (y := 0) (z := Int32.ofNat ls.length - 1) (h := h) g.1 (by rw [pr_n (by omega)]; exact fun e => e g.2)
      obtain ⟨i, hi, rfl⟩ := (is_k (by omega)).mp g
      have i6' : i < 6 := by omega
      have li : i < 2147483648 := by omega
      have zi := z4 i i6'
      rw [if_pos hi] at zi
      have A := fun d h => c221 (d := d) (h := h) z3 z1 hi
      have xi := z3 (ls.getD i 0) (by rw [getD_in hi]; exact List.getElem_mem hi)
      have nz : ¬ Int32.ofNat (96 + ls.getD i 0) = 0 := fun e => by have := (nu_inj (s := 0) (by omega) (by omega)).mp e; omega
      have em : Int32.ofNat k * 6 + Int32.ofNat i = Int32.ofNat (6 * k + i) := by
        have : Int32.ofNat k * 6 = Int32.ofNat (k * 6) := (Int32.ofNat_mul _ _).symm
        rw [this, nu_add, Nat.mul_comm]
      have ln : 6 * k + i < 2147483648 := by omega
      have l48 : 6 * k + i < 48 := by omega
      have g6 : ((6 : Int32) ≤ Int32.ofNat i) = False := eq_false (fun e => by have := (nu_le (t := 6) (by omega) (by omega)).mp e; omega)
      refine same_ok (I1 := I) (I2 := ip_up I 265 0 0) (u := Int32.ofNat (96 + ls.getD i 0)) (R1 := R) (nx1 := nx) X0 _ rfl (fun d => w76 ?_) onlyP_refl (fun _ _ _ => rfl) (fun d => ?_) scM_0 up_eq
      · simp only [en77, e77_0, e77_1, e77_2, e77_5, e77_6, e77_9, e77_10, e77_11, e77_14, en50, e50_0, e50_1, e50_4, e50_5, e50_7, e50_10, e50_11, e50_14, e50_15, e50_17, e50_18, e50_19, e50_20, e50_21, e50_24, e50_25, e50_26, e50_27, e50_30, e50_31, e50_33, e50_34, e50_35, e50_36, e50_37, rk_n, rk_v, nl_n, nl_i, nl_r, cat_n, ip_cat_int, ip_cat_ref, ip_cat_long, ip_rf_some, Nat.reduceAdd, Nat.reduceLeDiff, Nat.reduceLT, Nat.le_refl, Nat.zero_le, hR, C1, rT, hT, g.1, g6, em, ia_T1, nu_i, nu_tn, ln, l48, zi, nz, Bool.false_eq_true, Bool.true_eq_false, if_true, if_false, not_true_eq_false, not_false_eq_true, zle, eq_self]
      · have z5' : ip_up L 307 0 (Int32.ofNat (96 + ls.getD i 0)).toInt64 274 k = Int64.ofNat (pck ls) := (up_a (by decide)).trans z5
        simp only [en219, e219_0, e219_1, e219_2, e219_3, e219_6, e219_9, e219_10, e219_13, e219_14, e219_17, e219_18, e219_21, e219_24, e219_25, e219_26, e219_27, e219_28, e219_29, e219_32, e219_33, e219_34, e219_37, e219_38, e219_39, e219_42, e219_45, e219_46, e219_49, e219_50, e219_51, e219_52, e219_55, e219_58, e219_59, rk_n, rk_v, nl_n, nl_i, nl_r, cat_n, ip_cat_int, ip_cat_ref, ip_cat_long, ip_rf_some, Nat.reduceAdd, Nat.reduceLeDiff, Nat.reduceLT, Nat.le_refl, Nat.zero_le, hR, ia_lit, nu_i, nu_tn, lk, k8, z5', B0, A, M1 _ _ _ _ _ _ _ _ rfl, M3, up_eq, up_a, Nat.reduceEqDiff, true_or, or_true, Bool.false_eq_true, Bool.true_eq_false, if_true, if_false, not_true_eq_false, not_false_eq_true, zle, eq_self]
    · have g' := no_k g
      have M3 := fun d h => b217 (d := d) (x := x2) (y := 0) (z := Int32.ofNat ls.length - 1) (h := h) (by rw [pr_n (by omega)]; exact g')
      refine same_ok (I1 := I) (I2 := ip_up I 265 0 0) (u := -1) (R1 := R) (nx1 := nx) X0 _ rfl (fun d => w76 ?_) onlyP_refl (fun _ _ _ => rfl) (fun d => ?_) scM_0 up_eq
      · by_cases g1 : x2 < 0
        · simp only [en77, e77_0, e77_1, e77_2, e77_5, e77_6, e77_9, e77_10, e77_11, e77_14, en50, e50_0, e50_1, e50_4, e50_5, e50_7, e50_10, e50_11, e50_14, e50_15, e50_17, e50_18, e50_19, e50_20, e50_21, e50_24, e50_25, e50_26, e50_27, e50_30, e50_31, e50_33, e50_34, e50_35, e50_36, e50_37, rk_n, rk_v, nl_n, nl_i, nl_r, cat_n, ip_cat_int, ip_cat_ref, ip_cat_long, ip_rf_some, Nat.reduceAdd, Nat.reduceLeDiff, Nat.reduceLT, Nat.le_refl, Nat.zero_le, hR, C1, rT, hT, g1, Bool.false_eq_true, Bool.true_eq_false, if_true, if_false, not_true_eq_false, not_false_eq_true, zle, eq_self]
        · obtain ⟨i, hi, rfl⟩ := nu_of g1
          have gi : ls.length ≤ i := Nat.le_of_not_lt (fun e => g ⟨g1, (nu_lt hi (by omega)).mpr e⟩)
          by_cases g6 : i < 6
          · have g6' : ((6 : Int32) ≤ Int32.ofNat i) = False := eq_false (fun e => by have := (nu_le (t := 6) (by omega) (by omega)).mp e; omega)
            have zi := z4 i g6
            rw [if_neg (by omega)] at zi
            have zi : I (T + 1) (6 * k + i) = 0 := zi
            have em : Int32.ofNat k * 6 + Int32.ofNat i = Int32.ofNat (6 * k + i) := by
              have : Int32.ofNat k * 6 = Int32.ofNat (k * 6) := (Int32.ofNat_mul _ _).symm
              rw [this, nu_add, Nat.mul_comm]
            have ln : 6 * k + i < 2147483648 := by omega
            have l48 : 6 * k + i < 48 := by omega
            simp only [en77, e77_0, e77_1, e77_2, e77_5, e77_6, e77_9, e77_10, e77_11, e77_14, en50, e50_0, e50_1, e50_4, e50_5, e50_7, e50_10, e50_11, e50_14, e50_15, e50_17, e50_18, e50_19, e50_20, e50_21, e50_24, e50_25, e50_26, e50_27, e50_30, e50_31, e50_33, e50_34, e50_35, e50_36, e50_37, rk_n, rk_v, nl_n, nl_i, nl_r, cat_n, ip_cat_int, ip_cat_ref, ip_cat_long, ip_rf_some, Nat.reduceAdd, Nat.reduceLeDiff, Nat.reduceLT, Nat.le_refl, Nat.zero_le, hR, C1, rT, hT, g1, g6', em, ia_T1, nu_i, nu_tn, ln, l48, zi, Bool.false_eq_true, Bool.true_eq_false, if_true, if_false, not_true_eq_false, not_false_eq_true, zle, eq_self]
          · have g6' : ((6 : Int32) ≤ Int32.ofNat i) = True := eq_true ((nu_le (t := 6) (by omega) hi).mpr (by omega))
            simp only [en77, e77_0, e77_1, e77_2, e77_5, e77_6, e77_9, e77_10, e77_11, e77_14, en50, e50_0, e50_1, e50_4, e50_5, e50_7, e50_10, e50_11, e50_14, e50_15, e50_17, e50_18, e50_19, e50_20, e50_21, e50_24, e50_25, e50_26, e50_27, e50_30, e50_31, e50_33, e50_34, e50_35, e50_36, e50_37, rk_n, rk_v, nl_n, nl_i, nl_r, cat_n, ip_cat_int, ip_cat_ref, ip_cat_long, ip_rf_some, Nat.reduceAdd, Nat.reduceLeDiff, Nat.reduceLT, Nat.le_refl, Nat.zero_le, hR, C1, rT, hT, g1, g6', Bool.false_eq_true, Bool.true_eq_false, if_true, if_false, not_true_eq_false, not_false_eq_true, zle, eq_self]
      · have z5' : ip_up L 307 0 (Int32.toInt64 (-1)) 274 k = Int64.ofNat (pck ls) := (up_a (by decide)).trans z5
        simp only [en219, e219_0, e219_1, e219_2, e219_3, e219_6, e219_9, e219_10, e219_13, e219_14, e219_17, e219_18, e219_21, e219_24, e219_25, e219_26, e219_27, e219_28, e219_29, e219_32, e219_33, e219_34, e219_37, e219_38, e219_39, e219_42, e219_45, e219_46, e219_49, e219_50, e219_51, e219_52, e219_55, e219_58, e219_59, rk_n, rk_v, nl_n, nl_i, nl_r, cat_n, ip_cat_int, ip_cat_ref, ip_cat_long, ip_rf_some, Nat.reduceAdd, Nat.reduceLeDiff, Nat.reduceLT, Nat.le_refl, Nat.zero_le, hR, ia_lit, nu_i, nu_tn, lk, k8, z5', B0, M1 _ _ _ _ _ _ _ _ rfl, M3, up_eq, up_a, Nat.reduceEqDiff, true_or, or_true, Bool.false_eq_true, Bool.true_eq_false, if_true, if_false, not_true_eq_false, not_false_eq_true, zle, eq_self]
  · refine same_x (I1 := I) (I2 := ip_up I 265 0 1) (u := 0) (R1 := R) (code := 1) X0 (by decide) (fun d => ?_) onlyP_refl (fun _ _ _ => rfl) (fun d => ?_) scM_0 up_eq
    · refine w76x1 (d := d + 13) ?_
      simp only [en77, e77_0, e77_1, e77_2, e77_5, e77_6, e77_9, e77_10, e77_11, e77_14, rk_n, rk_v, nl_n, nl_i, nl_r, cat_n, ip_cat_int, ip_cat_ref, ip_cat_long, ip_rf_some, Nat.reduceAdd, Nat.reduceLeDiff, Nat.reduceLT, Nat.le_refl, Nat.zero_le, C1, rk_x hh77, Bool.false_eq_true, Bool.true_eq_false, if_true, if_false, not_true_eq_false, not_false_eq_true, zle, eq_self]
      rfl
    · simp only [en219, e219_0, e219_1, e219_2, e219_3, e219_6, e219_9, e219_10, e219_13, e219_14, e219_17, e219_18, e219_21, e219_24, e219_25, e219_26, e219_27, e219_28, e219_29, e219_32, e219_33, e219_34, e219_37, e219_38, e219_39, e219_42, e219_45, e219_46, e219_49, e219_50, e219_51, e219_52, e219_55, e219_58, e219_59, rk_n, rk_v, nl_n, nl_i, nl_r, cat_n, ip_cat_int, ip_cat_ref, ip_cat_long, ip_rf_some, Nat.reduceAdd, Nat.reduceLeDiff, Nat.reduceLT, Nat.le_refl, Nat.zero_le, M1 _ _ _ _ _ _ _ _ rfl, up_eq, true_or, Bool.false_eq_true, Bool.true_eq_false, if_true, if_false, not_true_eq_false, not_false_eq_true, zle, eq_self]
end S5
