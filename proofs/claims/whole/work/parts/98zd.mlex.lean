/-! READ: the model's words -/
def RM (B : Nat → Int32) (t a : Nat) (J : Nat → Nat → Int32) : Prop := J 265 3 = Int32.ofNat t ∧ J 265 4 = Int32.ofNat a ∧ ∀ i, i < t → J 266 i = B i
def atM (J : Nat → Nat → Int32) (p : Nat) : Nat → Nat → Int32 := ip_up J 265 4 (Int32.ofNat p)
def hv (B : Nat → Int32) (t p : Nat) : Int32 := if p < t then B p else -1
section ML
variable {n d a b c k t p T τ : Nat} {B : Nat → Int32} {I J K : Nat → Nat → Int32} {L L' : Nat → Nat → Int64} {R R' : Nat → Nat → Option Nat} {nc ns : Nat} {nx : Bool} {x y : Int32} {h : ip_H} {ws : List Nat}
theorem RM_at (X : RM B t a J) : RM B t p (atM J p) := ⟨(up_k (by decide)).trans X.1, up_eq, fun i hi => (up_a (by decide)).trans (X.2.2 i hi)⟩
theorem atM_s (X : RM B t p J) : atM J p = J := up_self X.2.1
theorem atM_o : onlyP (fun a k => a = 265 ∧ k = 4) J (atM J p) := onlyP_up onlyP_refl ⟨rfl, rfl⟩
theorem t193 (hR : LYR R) (ht : t ≤ 400) (h3 : J 265 3 = Int32.ofNat t) (hb : ∀ i, i < t → J 266 i = B i) : ∀ m a, t - a ≤ m → a ≤ t → rf d 193 0 [some (.ref 265)] [] (SH n, atM J a, L, R, nc, ns, nx) = some (.inl (some (.int (hv B t (skT B t a)))), (SH n, atM J (skT B t a), L, R, nc, ns, nx)) := by
  have fin : ∀ a, a ≤ t → ¬ (a < t ∧ lxB (B a) = true) → rf d 193 66 [some (.ref 265)] [] (SH n, atM J a, L, R, nc, ns, nx) = some (.inl (some (.int (hv B t a))), (SH n, atM J a, L, R, nc, ns, nx)) := by
    intro a ha hn
    unfold hv atM
    have lp : a < 2147483648 := by omega
    by_cases h : a < t
    · have g : (Int32.ofNat t ≤ Int32.ofNat a) = False := eq_false (fun e => by have := (nu_le (by omega) (by omega)).mp e; omega)
      have p4 : a < 400 := by omega
      rw [if_pos h]
      simp only [e193_1, e193_4, e193_5, e193_8, e193_11, e193_12, e193_15, e193_16, e193_19, e193_20, e193_22, e193_25, e193_26, e193_29, e193_30, e193_33, e193_34, e193_36, e193_39, e193_40, e193_43, e193_44, e193_47, e193_48, e193_50, e193_53, e193_54, e193_54r, e193_55, e193_58, e193_59, e193_60, e193_63, e193_66, e193_67, e193_70, e193_71, e193_74, e193_77, e193_78, e193_81, e193_82, e193_85, e193_86, e193_89, e193_90, rk_n, rk_v, nl_n, nl_i, nl_r, cat_n, ip_cat_int, ip_cat_ref, ip_cat_long, ip_rf_some, Nat.reduceAdd, Nat.reduceLeDiff, Nat.reduceLT, Nat.le_refl, Nat.zero_le, hR, ia_lit, nu_i, nu_tn, lp, p4, g, h3, hb a h, up_eq, up_k, up_a, Nat.reduceEqDiff, Bool.false_eq_true, Bool.true_eq_false, if_true, if_false, not_true_eq_false, not_false_eq_true, zle, eq_self]
    · have g : (Int32.ofNat t ≤ Int32.ofNat a) = True := eq_true ((nu_le (by omega) (by omega)).mpr (by omega))
      rw [if_neg h]
      simp only [e193_1, e193_4, e193_5, e193_8, e193_11, e193_12, e193_15, e193_16, e193_19, e193_20, e193_22, e193_25, e193_26, e193_29, e193_30, e193_33, e193_34, e193_36, e193_39, e193_40, e193_43, e193_44, e193_47, e193_48, e193_50, e193_53, e193_54, e193_54r, e193_55, e193_58, e193_59, e193_60, e193_63, e193_66, e193_67, e193_70, e193_71, e193_74, e193_77, e193_78, e193_81, e193_82, e193_85, e193_86, e193_89, e193_90, rk_n, rk_v, nl_n, nl_i, nl_r, cat_n, ip_cat_int, ip_cat_ref, ip_cat_long, ip_rf_some, Nat.reduceAdd, Nat.reduceLeDiff, Nat.reduceLT, Nat.le_refl, Nat.zero_le, g, h3, up_eq, up_k, up_a, Nat.reduceEqDiff, Bool.false_eq_true, Bool.true_eq_false, if_true, if_false, not_true_eq_false, not_false_eq_true, zle, eq_self]
  intro m
  induction m with
  | zero =>
    intro a h1 h2
    have g : (Int32.ofNat t ≤ Int32.ofNat a) = True := eq_true ((nu_le (by omega) (by omega)).mpr (by omega))
    have F := fin a h2 (by omega)
    rw [show skT B t a = a from rnn_no (by omega), ← F, e193_0]
    unfold atM
    simp only [e193_1, e193_4, e193_5, e193_8, g, h3, up_eq, up_k, Nat.reduceEqDiff, Bool.false_eq_true, Bool.true_eq_false, if_true, if_false, not_true_eq_false, not_false_eq_true, zle, eq_self]
  | succ m ih =>
    intro a h1 h2
    have lp : a < 2147483648 := by omega
    by_cases h : a < t
    · have g : (Int32.ofNat t ≤ Int32.ofNat a) = False := eq_false (fun e => by have := (nu_le (by omega) (by omega)).mp e; omega)
      have p4 : a < 400 := by omega
      have e1 : Int32.ofNat a + 1 = Int32.ofNat (a + 1) := nu_add (s := 1)
      by_cases hB : lxB (B a) = true
      · rw [show skT B t a = skT B t (a + 1) from rnn_st h hB, ← ih (a + 1) (by omega) (by omega), e193_0]
        unfold atM
        rcases of_decide_eq_true hB with e | e | e
        · simp only [e193_1, e193_4, e193_5, e193_8, e193_11, e193_12, e193_15, e193_16, e193_19, e193_20, e193_22, e193_25, e193_26, e193_29, e193_30, e193_33, e193_34, e193_36, e193_39, e193_40, e193_43, e193_44, e193_47, e193_48, e193_50, e193_53, e193_54, e193_54r, e193_55, e193_58, e193_59, e193_60, e193_63, rk_n, rk_v, nl_n, nl_i, nl_r, cat_n, ip_cat_int, ip_cat_ref, ip_cat_long, ip_rf_some, Nat.reduceAdd, Nat.reduceLeDiff, Nat.reduceLT, Nat.le_refl, Nat.zero_le, hR, ia_lit, nu_i, nu_tn, lp, p4, g, h3, hb a h, e, e1, up_up, up_eq, up_k, up_a, Nat.reduceEqDiff, (by decide : ¬ (9 : Int32) = 32), Bool.false_eq_true, Bool.true_eq_false, if_true, if_false, not_true_eq_false, not_false_eq_true, zle, eq_self]
        · simp only [e193_1, e193_4, e193_5, e193_8, e193_11, e193_12, e193_15, e193_16, e193_19, e193_20, e193_22, e193_25, e193_26, e193_29, e193_30, e193_33, e193_34, e193_36, e193_39, e193_40, e193_43, e193_44, e193_47, e193_48, e193_50, e193_53, e193_54, e193_54r, e193_55, e193_58, e193_59, e193_60, e193_63, rk_n, rk_v, nl_n, nl_i, nl_r, cat_n, ip_cat_int, ip_cat_ref, ip_cat_long, ip_rf_some, Nat.reduceAdd, Nat.reduceLeDiff, Nat.reduceLT, Nat.le_refl, Nat.zero_le, hR, ia_lit, nu_i, nu_tn, lp, p4, g, h3, hb a h, e, e1, up_up, up_eq, up_k, up_a, Nat.reduceEqDiff, (by decide : ¬ (10 : Int32) = 32 ∧ ¬ (10 : Int32) = 9), Bool.false_eq_true, Bool.true_eq_false, if_true, if_false, not_true_eq_false, not_false_eq_true, zle, eq_self]
        · simp only [e193_1, e193_4, e193_5, e193_8, e193_11, e193_12, e193_15, e193_16, e193_19, e193_20, e193_22, e193_25, e193_26, e193_29, e193_30, e193_33, e193_34, e193_36, e193_39, e193_40, e193_43, e193_44, e193_47, e193_48, e193_50, e193_53, e193_54, e193_54r, e193_55, e193_58, e193_59, e193_60, e193_63, rk_n, rk_v, nl_n, nl_i, nl_r, cat_n, ip_cat_int, ip_cat_ref, ip_cat_long, ip_rf_some, Nat.reduceAdd, Nat.reduceLeDiff, Nat.reduceLT, Nat.le_refl, Nat.zero_le, hR, ia_lit, nu_i, nu_tn, lp, p4, g, h3, hb a h, e, e1, up_up, up_eq, up_k, up_a, Nat.reduceEqDiff, Bool.false_eq_true, Bool.true_eq_false, if_true, if_false, not_true_eq_false, not_false_eq_true, zle, eq_self]
      · have F := fin a h2 (fun e => hB e.2)
        rw [show skT B t a = a from rnn_no (fun e => hB e.2), ← F, e193_0]
        have n1 : ¬ B a = 32 := fun e => hB (decide_eq_true (Or.inr (Or.inr e)))
        have n2 : ¬ B a = 9 := fun e => hB (decide_eq_true (Or.inl e))
        have n3 : ¬ B a = 10 := fun e => hB (decide_eq_true (Or.inr (Or.inl e)))
        unfold atM
        simp only [e193_1, e193_4, e193_5, e193_8, e193_11, e193_12, e193_15, e193_16, e193_19, e193_20, e193_22, e193_25, e193_26, e193_29, e193_30, e193_33, e193_34, e193_36, e193_39, e193_40, e193_43, e193_44, e193_47, e193_48, e193_50, rk_n, rk_v, nl_n, nl_i, nl_r, cat_n, ip_cat_int, ip_cat_ref, ip_cat_long, ip_rf_some, Nat.reduceAdd, Nat.reduceLeDiff, Nat.reduceLT, Nat.le_refl, Nat.zero_le, hR, ia_lit, nu_i, nu_tn, lp, p4, g, h3, hb a h, n1, n2, n3, up_eq, up_k, up_a, Nat.reduceEqDiff, Bool.false_eq_true, Bool.true_eq_false, if_true, if_false, not_true_eq_false, not_false_eq_true, zle, eq_self]
    · have g : (Int32.ofNat t ≤ Int32.ofNat a) = True := eq_true ((nu_le (by omega) (by omega)).mpr (by omega))
      have F := fin a h2 (by omega)
      rw [show skT B t a = a from rnn_no (by omega), ← F, e193_0]
      unfold atM
      simp only [e193_1, e193_4, e193_5, e193_8, g, h3, up_eq, up_k, Nat.reduceEqDiff, Bool.false_eq_true, Bool.true_eq_false, if_true, if_false, not_true_eq_false, not_false_eq_true, zle, eq_self]
/-- here -/
theorem c193 (hR : LYR R) (ht : t ≤ 400) (X : RM B t a J) (ha : a ≤ t) (hs : skT B t a = p) : cf d 193 [.ref 265] (SH n, J, L, R, nc, ns, nx) = some (.inl (some (.int (hv B t p))), (SH n, atM J p, L, R, nc, ns, nx)) := by
  have A := t193 (d := d) (n := n) (L := L) (nc := nc) (ns := ns) (nx := nx) hR ht X.1 X.2.2 (t - a) a (Nat.le_refl _) ha
  rw [atM_s X, hs] at A
  rw [en193, A]
/-- wordSize, at a token -/
theorem t195 (hR : LYR R) (ht : t ≤ 400) (X : RM B t p J) (hy : ¬ y = -1) : ∀ m q, t - q ≤ m → q ≤ t → p ≤ q → rf d 195 10 [some (.ref 265), some (.int y), some (.int (Int32.ofNat q))] [] (SH n, J, L, R, nc, ns, nx) = some (.inl (some (.int (Int32.ofNat (rnn lxL B t q - p)))), (SH n, J, L, R, nc, ns, nx)) := by
  obtain ⟨h3, h4, hb⟩ := X
  have fin : ∀ q, q ≤ t → p ≤ q → rf d 195 51 [some (.ref 265), some (.int y), some (.int (Int32.ofNat q))] [] (SH n, J, L, R, nc, ns, nx) = some (.inl (some (.int (Int32.ofNat (q - p)))), (SH n, J, L, R, nc, ns, nx)) := by
    intro q h1 h2
    have ee : Int32.ofNat q - Int32.ofNat p = Int32.ofNat (q - p) := by
      rw [show q = p + (q - p) by omega, ← nu_add, Int32.add_comm, Int32.add_sub_cancel]
      congr 1; omega
    simp only [e195_0, e195_1, e195_4, e195_5, e195_6, e195_9, e195_11, e195_12, e195_15, e195_16, e195_17, e195_20, e195_23, e195_24, e195_27, e195_28, e195_29, e195_31, e195_34, e195_35, e195_38, e195_39, e195_40, e195_42, e195_45, e195_48, e195_51, e195_52, e195_53, e195_56, e195_57, rk_n, rk_v, nl_n, nl_i, nl_r, cat_n, ip_cat_int, ip_cat_ref, ip_cat_long, ip_rf_some, Nat.reduceAdd, Nat.reduceLeDiff, Nat.reduceLT, Nat.le_refl, Nat.zero_le, h4, ee, Bool.false_eq_true, Bool.true_eq_false, if_true, if_false, not_true_eq_false, not_false_eq_true, zle, eq_self]
  intro m
  induction m with
  | zero =>
    intro q h1 h2 h5
    have g : (Int32.ofNat t ≤ Int32.ofNat q) = True := eq_true ((nu_le (by omega) (by omega)).mpr (by omega))
    rw [rnn_no (by omega), ← fin q h2 h5, e195_10]
    simp only [e195_11, e195_12, e195_15, e195_16, e195_17, e195_20, hy, g, h3, Bool.false_eq_true, Bool.true_eq_false, if_true, if_false, not_true_eq_false, not_false_eq_true, zle, eq_self]
  | succ m ih =>
    intro q h1 h2 h5
    have lp : q < 2147483648 := by omega
    by_cases h : q < t
    · have g : (Int32.ofNat t ≤ Int32.ofNat q) = False := eq_false (fun e => by have := (nu_le (by omega) (by omega)).mp e; omega)
      have p4 : q < 400 := by omega
      have e1 : Int32.ofNat q + 1 = Int32.ofNat (q + 1) := nu_add (s := 1)
      by_cases hB : lxL (B q) = true
      · obtain ⟨l1, l2⟩ := of_decide_eq_true hB
        rw [rnn_st h hB, ← ih (q + 1) (by omega) (by omega) (by omega), e195_10]
        simp only [e195_11, e195_12, e195_15, e195_16, e195_17, e195_20, e195_23, e195_24, e195_27, e195_28, e195_29, e195_31, e195_34, e195_35, e195_38, e195_39, e195_40, e195_42, e195_45, e195_48, rk_n, rk_v, nl_n, nl_i, nl_r, cat_n, ip_cat_int, ip_cat_ref, ip_cat_long, ip_rf_some, Nat.reduceAdd, Nat.reduceLeDiff, Nat.reduceLT, Nat.le_refl, Nat.zero_le, hR, ia_lit, nu_i, nu_tn, lp, p4, hy, g, h3, hb q h, l1, l2, e1, Bool.false_eq_true, Bool.true_eq_false, if_true, if_false, not_true_eq_false, not_false_eq_true, zle, eq_self]
      · rw [rnn_no (fun e => hB e.2), ← fin q h2 h5, e195_10]
        by_cases l1 : B q < 97
        · simp only [e195_11, e195_12, e195_15, e195_16, e195_17, e195_20, e195_23, e195_24, e195_27, e195_28, e195_29, e195_31, rk_n, rk_v, nl_n, nl_i, nl_r, cat_n, ip_cat_int, ip_cat_ref, ip_cat_long, ip_rf_some, Nat.reduceAdd, Nat.reduceLeDiff, Nat.reduceLT, Nat.le_refl, Nat.zero_le, hR, ia_lit, nu_i, nu_tn, lp, p4, hy, g, h3, hb q h, l1, Bool.false_eq_true, Bool.true_eq_false, if_true, if_false, not_true_eq_false, not_false_eq_true, zle, eq_self]
        · have l2 : 122 < B q := Classical.byContradiction (fun e => hB (decide_eq_true ⟨l1, e⟩))
          simp only [e195_11, e195_12, e195_15, e195_16, e195_17, e195_20, e195_23, e195_24, e195_27, e195_28, e195_29, e195_31, e195_34, e195_35, e195_38, e195_39, e195_40, e195_42, rk_n, rk_v, nl_n, nl_i, nl_r, cat_n, ip_cat_int, ip_cat_ref, ip_cat_long, ip_rf_some, Nat.reduceAdd, Nat.reduceLeDiff, Nat.reduceLT, Nat.le_refl, Nat.zero_le, hR, ia_lit, nu_i, nu_tn, lp, p4, hy, g, h3, hb q h, l1, l2, Bool.false_eq_true, Bool.true_eq_false, if_true, if_false, not_true_eq_false, not_false_eq_true, zle, eq_self]
    · have g : (Int32.ofNat t ≤ Int32.ofNat q) = True := eq_true ((nu_le (by omega) (by omega)).mpr (by omega))
      rw [rnn_no (by omega), ← fin q h2 h5, e195_10]
      simp only [e195_11, e195_12, e195_15, e195_16, e195_17, e195_20, hy, g, h3, Bool.false_eq_true, Bool.true_eq_false, if_true, if_false, not_true_eq_false, not_false_eq_true, zle, eq_self]
theorem c195 (hR : LYR R) (ht : t ≤ 400) (hB : ∀ i, i < t → ¬ B i = -1) (X : RM B t a J) (ha : a ≤ t) (hs : skT B t a = p) : cf (d + 1) 195 [.ref 265] (SH n, J, L, R, nc, ns, nx) = some (.inl (some (.int (Int32.ofNat (rnn lxL B t p - p)))), (SH n, atM J p, L, R, nc, ns, nx)) := by
  have H := fun d => c193 (d := d) (n := n) (L := L) (nc := nc) (ns := ns) (nx := nx) hR ht X ha hs
  have Y : RM B t p (atM J p) := RM_at X
  have hp : p ≤ t := hs ▸ (skT_le ha).2
  have k4 : atM J p 265 4 = Int32.ofNat p := Y.2.1
  by_cases h : p < t
  · have hy : ¬ hv B t p = -1 := by unfold hv; rw [if_pos h]; exact hB p h
    have A := t195 (d := d + 1) (n := n) (L := L) (nc := nc) (ns := ns) (nx := nx) hR ht Y hy (t - p) p (Nat.le_refl _) hp (Nat.le_refl _)
    rw [← A]
    simp only [en195, e195_0, e195_1, e195_4, e195_5, e195_6, e195_9, e195_11, e195_12, e195_15, e195_16, e195_17, e195_20, e195_23, e195_24, e195_27, e195_28, e195_29, e195_31, e195_34, e195_35, e195_38, e195_39, e195_40, e195_42, e195_45, e195_48, e195_51, e195_52, e195_53, e195_56, e195_57, rk_n, rk_v, nl_n, nl_i, nl_r, cat_n, ip_cat_int, ip_cat_ref, ip_cat_long, ip_rf_some, Nat.reduceAdd, Nat.reduceLeDiff, Nat.reduceLT, Nat.le_refl, Nat.zero_le, H, k4, Bool.false_eq_true, Bool.true_eq_false, if_true, if_false, not_true_eq_false, not_false_eq_true, zle, eq_self]
  · have hy : hv B t p = -1 := by unfold hv; rw [if_neg h]
    rw [hy] at H
    rw [rnn_no (by omega), Nat.sub_self]
    simp only [en195, e195_0, e195_1, e195_4, e195_5, e195_6, e195_9, e195_11, e195_12, e195_15, e195_16, e195_17, e195_20, e195_23, e195_24, e195_27, e195_28, e195_29, e195_31, e195_34, e195_35, e195_38, e195_39, e195_40, e195_42, e195_45, e195_48, e195_51, e195_52, e195_53, e195_56, e195_57, rk_n, rk_v, nl_n, nl_i, nl_r, cat_n, ip_cat_int, ip_cat_ref, ip_cat_long, ip_rf_some, Nat.reduceAdd, Nat.reduceLeDiff, Nat.reduceLT, Nat.le_refl, Nat.zero_le, H, k4, Bool.false_eq_true, Bool.true_eq_false, if_true, if_false, not_true_eq_false, not_false_eq_true, zle, eq_self]
    rw [e195_10]
    simp only [e195_0, e195_1, e195_4, e195_5, e195_6, e195_9, e195_11, e195_12, e195_15, e195_16, e195_17, e195_20, e195_23, e195_24, e195_27, e195_28, e195_29, e195_31, e195_34, e195_35, e195_38, e195_39, e195_40, e195_42, e195_45, e195_48, e195_51, e195_52, e195_53, e195_56, e195_57, rk_n, rk_v, nl_n, nl_i, nl_r, cat_n, ip_cat_int, ip_cat_ref, ip_cat_long, ip_rf_some, Nat.reduceAdd, Nat.reduceLeDiff, Nat.reduceLT, Nat.le_refl, Nat.zero_le, k4, Int32.sub_self, Bool.false_eq_true, Bool.true_eq_false, if_true, if_false, not_true_eq_false, not_false_eq_true, zle, eq_self]
    rfl
/-- is, at a token -/
theorem t194 (hR : LYR R) (ht : t ≤ 400) (X : RM B t p J) (hτ : τ < 39) (hws : ip_tb.getD τ [] = ws) (hl : ws.length ≤ 100) (hp : p + ws.length ≤ t) : ∀ m i, i + m = ws.length → rf d 194 15 [some (.ref 265), some (.ref (tx τ)), some (.int (Int32.ofNat i))] [] (SH n, J, L, R, nc, ns, nx) = some (.inl (some (.int (if mtc B (ws.drop i) (p + i) = true then 1 else 0))), (SH n, J, L, R, nc, ns, nx)) := by
  obtain ⟨h3, h4, hb⟩ := X
  intro m
  induction m with
  | zero =>
    intro i hi
    have g : (Int32.ofNat ws.length ≤ Int32.ofNat i) = True := eq_true ((nu_le (by omega) (by omega)).mpr (by omega))
    rw [List.drop_eq_nil_of_le (by omega), mtc, if_pos rfl, e194_15]
    simp only [e194_0, e194_1, e194_4, e194_5, e194_8, e194_11, e194_12, e194_13, e194_14, e194_16, e194_17, e194_20, e194_23, e194_24, e194_27, e194_28, e194_31, e194_32, e194_33, e194_34, e194_35, e194_36, e194_39, e194_42, e194_43, e194_44, e194_47, e194_50, e194_51, rk_n, rk_v, nl_n, nl_i, nl_r, cat_n, ip_cat_int, ip_cat_ref, ip_cat_long, ip_rf_some, Nat.reduceAdd, Nat.reduceLeDiff, Nat.reduceLT, Nat.le_refl, Nat.zero_le, hτ, hws, g, true_or, or_true, Bool.false_eq_true, Bool.true_eq_false, if_true, if_false, not_true_eq_false, not_false_eq_true, zle, eq_self]
  | succ m ih =>
    intro i hi
    have g : (Int32.ofNat ws.length ≤ Int32.ofNat i) = False := eq_false (fun e => by have := (nu_le (by omega) (by omega)).mp e; omega)
    have e1 : Int32.ofNat i + 1 = Int32.ofNat (i + 1) := nu_add (s := 1)
    have l1 : i < 2147483648 := by omega
    have l2 : i < ws.length := by omega
    have l3 : p + i < 2147483648 := by omega
    have l4 : p + i < 400 := by omega
    have IH := ih (i + 1) (by omega)
    have dr : ws.drop i = ws.getD i 0 :: ws.drop (i + 1) := by rw [List.drop_eq_getElem_cons (by omega), getD_in (by omega)]
    rw [dr, mtc, e194_15]
    by_cases h : B (p + i) = Int32.ofNat (ws.getD i 0)
    · rw [decide_eq_true h, Bool.true_and, show p + i + 1 = p + (i + 1) by omega, ← IH]
      simp only [e194_0, e194_1, e194_4, e194_5, e194_8, e194_11, e194_12, e194_13, e194_14, e194_16, e194_17, e194_20, e194_23, e194_24, e194_27, e194_28, e194_31, e194_32, e194_33, e194_34, e194_35, e194_36, e194_39, e194_42, e194_43, e194_44, e194_47, e194_50, e194_51, rk_n, rk_v, nl_n, nl_i, nl_r, cat_n, ip_cat_int, ip_cat_ref, ip_cat_long, ip_rf_some, Nat.reduceAdd, Nat.reduceLeDiff, Nat.reduceLT, Nat.le_refl, Nat.zero_le, hR, hτ, hws, g, nu_add, h4, ia_lit, nu_i, nu_tn, l1, l2, l3, l4, hb (p + i) (by omega), h, e1, Bool.false_eq_true, Bool.true_eq_false, if_true, if_false, not_true_eq_false, not_false_eq_true, zle, eq_self]
    · rw [decide_eq_false h, Bool.false_and]
      simp only [e194_0, e194_1, e194_4, e194_5, e194_8, e194_11, e194_12, e194_13, e194_14, e194_16, e194_17, e194_20, e194_23, e194_24, e194_27, e194_28, e194_31, e194_32, e194_33, e194_34, e194_35, e194_36, e194_39, e194_42, e194_43, e194_44, e194_47, e194_50, e194_51, rk_n, rk_v, nl_n, nl_i, nl_r, cat_n, ip_cat_int, ip_cat_ref, ip_cat_long, ip_rf_some, Nat.reduceAdd, Nat.reduceLeDiff, Nat.reduceLT, Nat.le_refl, Nat.zero_le, hR, hτ, hws, g, nu_add, h4, ia_lit, nu_i, nu_tn, l1, l2, l3, l4, hb (p + i) (by omega), h, true_or, or_true, Bool.false_eq_true, Bool.true_eq_false, if_true, if_false, not_true_eq_false, not_false_eq_true, zle, eq_self]
theorem c194 (hR : LYR R) (ht : t ≤ 400) (hB : ∀ i, i < t → ¬ B i = -1) (X : RM B t a J) (ha : a ≤ t) (hs : skT B t a = p) (hτ : τ < 39) (hws : ip_tb.getD τ [] = ws) (hl : ws.length ≤ 100) : cf (d + 2) 194 [.ref 265, .ref (tx τ)] (SH n, J, L, R, nc, ns, nx) = some (.inl (some (.int (if isW B t ws p = true then 1 else 0))), (SH n, atM J p, L, R, nc, ns, nx)) := by
  have C := fun d => c195 (d := d) (n := n) (L := L) (nc := nc) (ns := ns) (nx := nx) hR ht hB X ha hs
  have hp : p ≤ t := hs ▸ (skT_le ha).2
  have rl := rnn_le (P := lxL) (B := B) (t := t) _ p (Nat.le_refl _) hp
  unfold isW
  by_cases h : rnn lxL B t p - p = ws.length
  · rw [decide_eq_true h, Bool.true_and]
    have A := t194 (d := d + 2) (n := n) (L := L) (nc := nc) (ns := ns) (nx := nx) hR ht (RM_at (p := p) X) hτ hws hl (by omega) ws.length 0 (by omega)
    rw [List.drop_zero, show p + 0 = p from rfl] at A
    have A : rf (d + 2) 194 15 [some (.ref 265), some (.ref (tx τ)), some (.int 0)] [] (SH n, atM J p, L, R, nc, ns, nx) = _ := A
    rw [← A]
    simp only [en194, e194_0, e194_1, e194_4, e194_5, e194_8, e194_11, e194_12, e194_13, e194_14, e194_16, e194_17, e194_20, e194_23, e194_24, e194_27, e194_28, e194_31, e194_32, e194_33, e194_34, e194_35, e194_36, e194_39, e194_42, e194_43, e194_44, e194_47, e194_50, e194_51, rk_n, rk_v, nl_n, nl_i, nl_r, cat_n, ip_cat_int, ip_cat_ref, ip_cat_long, ip_rf_some, Nat.reduceAdd, Nat.reduceLeDiff, Nat.reduceLT, Nat.le_refl, Nat.zero_le, C, h, hτ, hws, Bool.false_eq_true, Bool.true_eq_false, if_true, if_false, not_true_eq_false, not_false_eq_true, zle, eq_self]
  · rw [decide_eq_false h, Bool.false_and]
    have g : (Int32.ofNat (rnn lxL B t p - p) = Int32.ofNat ws.length) = False := eq_false (fun e => by have := (nu_inj (by omega) (by omega)).mp e; omega)
    simp only [en194, e194_0, e194_1, e194_4, e194_5, e194_8, e194_11, e194_12, e194_13, e194_14, e194_16, e194_17, e194_20, e194_23, e194_24, e194_27, e194_28, e194_31, e194_32, e194_33, e194_34, e194_35, e194_36, e194_39, e194_42, e194_43, e194_44, e194_47, e194_50, e194_51, rk_n, rk_v, nl_n, nl_i, nl_r, cat_n, ip_cat_int, ip_cat_ref, ip_cat_long, ip_rf_some, Nat.reduceAdd, Nat.reduceLeDiff, Nat.reduceLT, Nat.le_refl, Nat.zero_le, C, g, hτ, hws, true_or, or_true, Bool.false_eq_true, Bool.true_eq_false, if_true, if_false, not_true_eq_false, not_false_eq_true, zle, eq_self]
end ML
