/-! READ: signs, runs of signs, words -/
def lxB (x : Int32) : Bool := decide (x = 9 ∨ x = 10 ∨ x = 32)
def lxL (x : Int32) : Bool := decide (¬ x < 97 ∧ ¬ 122 < x)
def lxD (x : Int32) : Bool := decide (¬ x < 48 ∧ ¬ 57 < x)
def lxS (x : Int32) : Bool := decide (x = 59 ∨ x = 44 ∨ x = 40 ∨ x = 41)
def rnF (P : Int32 → Bool) (B : Nat → Int32) (t : Nat) : Nat → Nat → Nat
  | 0, p => p
  | f + 1, p => if p < t ∧ P (B p) = true then rnF P B t f (p + 1) else p
def rnn (P : Int32 → Bool) (B : Nat → Int32) (t p : Nat) : Nat := rnF P B t (t - p) p
section LX
variable {P : Int32 → Bool} {B : Nat → Int32} {t p : Nat}
theorem rnn_st (h1 : p < t) (h2 : P (B p) = true) : rnn P B t p = rnn P B t (p + 1) := by
  unfold rnn
  rw [show t - p = (t - (p + 1)) + 1 by omega, rnF, if_pos ⟨h1, h2⟩]
theorem rnn_no (h : ¬ (p < t ∧ P (B p) = true)) : rnn P B t p = p := by
  unfold rnn
  cases e : t - p with
  | zero => rfl
  | succ f => rw [rnF, if_neg h]
theorem rnn_le : ∀ m p, t - p ≤ m → p ≤ t → p ≤ rnn P B t p ∧ rnn P B t p ≤ t := by
  intro m
  induction m with
  | zero => intro p h1 h2; rw [rnn_no (by omega)]; omega
  | succ m ih =>
    intro p h1 h2
    by_cases h : p < t ∧ P (B p) = true
    · rw [rnn_st h.1 h.2]; have := ih (p + 1) (by omega) (by omega); omega
    · rw [rnn_no h]; omega
theorem rnn_all : ∀ m p, t - p ≤ m → ∀ i, p ≤ i → i < rnn P B t p → P (B i) = true := by
  intro m
  induction m with
  | zero => intro p h1 i h2 h3; rw [rnn_no (by omega)] at h3; omega
  | succ m ih =>
    intro p h1 i h2 h3
    by_cases h : p < t ∧ P (B p) = true
    · rw [rnn_st h.1 h.2] at h3
      by_cases e : i = p
      · subst e; exact h.2
      · exact ih (p + 1) (by omega) i (by omega) h3
    · rw [rnn_no h] at h3; omega
theorem rnn_end : ∀ m p, t - p ≤ m → ¬ (rnn P B t p < t ∧ P (B (rnn P B t p)) = true) := by
  intro m
  induction m with
  | zero => intro p h1; rw [rnn_no (by omega)]; omega
  | succ m ih =>
    intro p h1
    by_cases h : p < t ∧ P (B p) = true
    · rw [rnn_st h.1 h.2]; exact ih (p + 1) (by omega)
    · rw [rnn_no h]; exact h
end LX
/-- a word stands there -/
def mtc (B : Nat → Int32) : List Nat → Nat → Bool
  | [], _ => true
  | w :: r, p => decide (B p = Int32.ofNat w) && mtc B r (p + 1)
def isW (B : Nat → Int32) (t : Nat) (ws : List Nat) (p : Nat) : Bool := decide (rnn lxL B t p - p = ws.length) && mtc B ws p
def kwl : List (List Nat) := [ip_tb.getD 28 [], ip_tb.getD 29 [], ip_tb.getD 30 [], ip_tb.getD 31 [], ip_tb.getD 32 [], ip_tb.getD 33 [], ip_tb.getD 21 [], ip_tb.getD 22 [], ip_tb.getD 34 [], ip_tb.getD 35 [], ip_tb.getD 36 [], ip_tb.getD 37 [], ip_tb.getD 38 []]
def wkF (B : Nat → Int32) (t p : Nat) : List (List Nat) → Nat → Nat
  | [], _ => if rnn lxL B t p - p ≤ 6 then 13 else 16
  | w :: r, j => if isW B t w p = true then j else wkF B t p r (j + 1)
/-- what kind of token, where it ends, where the next begins -/
def kdT (B : Nat → Int32) (t p : Nat) : Nat := if p < t then (if lxL (B p) = true then wkF B t p kwl 0 else if lxD (B p) = true then (if rnn lxD B t p = p + 1 then 14 else 16) else if lxS (B p) = true then sN (B p) else 16) else 15
def enT (B : Nat → Int32) (t p : Nat) : Nat := if p < t then (if lxL (B p) = true then rnn lxL B t p else if lxD (B p) = true then rnn lxD B t p else p + 1) else p
def skT (B : Nat → Int32) (t p : Nat) : Nat := rnn lxB B t p
def nxT (B : Nat → Int32) (t p : Nat) : Nat := skT B t (enT B t p)
section LX2
variable {B : Nat → Int32} {t p : Nat}
theorem skT_le (h : p ≤ t) : p ≤ skT B t p ∧ skT B t p ≤ t := rnn_le _ p (Nat.le_refl _) h
theorem enT_le (h : p ≤ t) : p ≤ enT B t p ∧ enT B t p ≤ t ∧ (p < t → p < enT B t p) := by
  unfold enT
  split
  · rename_i h1
    split
    · rename_i h2
      have := rnn_le (P := lxL) (B := B) (t := t) _ (p + 1) (Nat.le_refl _) (by omega)
      rw [rnn_st h1 h2]; omega
    · split
      · rename_i h2
        have := rnn_le (P := lxD) (B := B) (t := t) _ (p + 1) (Nat.le_refl _) (by omega)
        rw [rnn_st h1 h2]; omega
      · omega
  · omega
theorem nxT_le (h : p ≤ t) : p ≤ nxT B t p ∧ nxT B t p ≤ t ∧ (p < t → p < nxT B t p) := by
  have h1 := enT_le (B := B) h
  have h2 := skT_le (B := B) h1.2.1
  unfold nxT; omega
theorem skT_sk (h : p ≤ t) : skT B t (skT B t p) = skT B t p := rnn_no (rnn_end _ p (Nat.le_refl _))
end LX2
theorem up_up {α : Type} {f : Nat → Nat → α} {a k : Nat} {u v : α} : ip_up (ip_up f a k u) a k v = ip_up f a k v := by
  funext b j
  by_cases h : b = a
  · subst h
    by_cases g : j = k
    · subst g; rw [up_eq, up_eq]
    · rw [up_k g, up_k g, up_k g]
  · rw [up_a h, up_a h, up_a h]
theorem up_self {α : Type} {f : Nat → Nat → α} {a k : Nat} {v : α} (e : f a k = v) : ip_up f a k v = f := by
  funext b j
  by_cases h : b = a
  · subst h
    by_cases g : j = k
    · subst g; rw [up_eq, e]
    · rw [up_k g]
  · rw [up_a h]
section LXC
variable {n d a b c k t p T : Nat} {B : Nat → Int32} {I J K : Nat → Nat → Int32} {L L' : Nat → Nat → Int64} {R R' : Nat → Nat → Option Nat} {nc ns : Nat} {nx : Bool} {x y : Int32} {h : ip_H} {ws : List Nat}
theorem c41 : cf d 41 [.int x] h = some (.inl (some (.int (if lxB x = true then 1 else 0))), h) := by
  by_cases h1 : x = 9
  · subst h1; simp only [en41, e41_0, e41_1, e41_3, e41_6, e41_7, e41_9, e41_12, e41_13, e41_15, e41_18, e41_19, e41_22, e41_23, rk_n, rk_v, nl_n, nl_i, nl_r, cat_n, ip_cat_int, ip_cat_ref, ip_cat_long, ip_rf_some, Nat.reduceAdd, Nat.reduceLeDiff, Nat.reduceLT, Nat.le_refl, Nat.zero_le, (by decide : lxB 9 = true), true_or, or_true, Bool.false_eq_true, Bool.true_eq_false, if_true, if_false, not_true_eq_false, not_false_eq_true, zle, eq_self]
  · by_cases h2 : x = 10
    · subst h2; simp only [en41, e41_0, e41_1, e41_3, e41_6, e41_7, e41_9, e41_12, e41_13, e41_15, e41_18, e41_19, e41_22, e41_23, rk_n, rk_v, nl_n, nl_i, nl_r, cat_n, ip_cat_int, ip_cat_ref, ip_cat_long, ip_rf_some, Nat.reduceAdd, Nat.reduceLeDiff, Nat.reduceLT, Nat.le_refl, Nat.zero_le, (by decide : lxB 10 = true), (by decide : ¬ (10 : Int32) = 9), true_or, or_true, Bool.false_eq_true, Bool.true_eq_false, if_true, if_false, not_true_eq_false, not_false_eq_true, zle, eq_self]
    · by_cases h3 : x = 32
      · subst h3; simp only [en41, e41_0, e41_1, e41_3, e41_6, e41_7, e41_9, e41_12, e41_13, e41_15, e41_18, e41_19, e41_22, e41_23, rk_n, rk_v, nl_n, nl_i, nl_r, cat_n, ip_cat_int, ip_cat_ref, ip_cat_long, ip_rf_some, Nat.reduceAdd, Nat.reduceLeDiff, Nat.reduceLT, Nat.le_refl, Nat.zero_le, (by decide : lxB 32 = true), (by decide : ¬ (32 : Int32) = 9 ∧ ¬ (32 : Int32) = 10), true_or, or_true, Bool.false_eq_true, Bool.true_eq_false, if_true, if_false, not_true_eq_false, not_false_eq_true, zle, eq_self]
      · have e : lxB x = false := by unfold lxB; exact decide_eq_false (by rintro (h | h | h) <;> contradiction)
        simp only [en41, e41_0, e41_1, e41_3, e41_6, e41_7, e41_9, e41_12, e41_13, e41_15, e41_18, e41_19, e41_22, e41_23, rk_n, rk_v, nl_n, nl_i, nl_r, cat_n, ip_cat_int, ip_cat_ref, ip_cat_long, ip_rf_some, Nat.reduceAdd, Nat.reduceLeDiff, Nat.reduceLT, Nat.le_refl, Nat.zero_le, e, h1, h2, h3, true_or, or_true, Bool.false_eq_true, Bool.true_eq_false, if_true, if_false, not_true_eq_false, not_false_eq_true, zle, eq_self]
theorem c42 : cf d 42 [.int x] h = some (.inl (some (.int (if lxL x = true then 1 else 0))), h) := by
  by_cases h1 : x < 97
  · have e : lxL x = false := by unfold lxL; exact decide_eq_false (fun h => h.1 h1)
    simp only [en42, e42_0, e42_1, e42_3, e42_6, e42_7, e42_9, e42_12, e42_13, e42_16, e42_17, rk_n, rk_v, nl_n, nl_i, nl_r, cat_n, ip_cat_int, ip_cat_ref, ip_cat_long, ip_rf_some, Nat.reduceAdd, Nat.reduceLeDiff, Nat.reduceLT, Nat.le_refl, Nat.zero_le, e, h1, true_or, or_true, Bool.false_eq_true, Bool.true_eq_false, if_true, if_false, not_true_eq_false, not_false_eq_true, zle, eq_self]
  · by_cases h2 : 122 < x
    · have e : lxL x = false := by unfold lxL; exact decide_eq_false (fun h => h.2 h2)
      simp only [en42, e42_0, e42_1, e42_3, e42_6, e42_7, e42_9, e42_12, e42_13, e42_16, e42_17, rk_n, rk_v, nl_n, nl_i, nl_r, cat_n, ip_cat_int, ip_cat_ref, ip_cat_long, ip_rf_some, Nat.reduceAdd, Nat.reduceLeDiff, Nat.reduceLT, Nat.le_refl, Nat.zero_le, e, h1, h2, true_or, or_true, Bool.false_eq_true, Bool.true_eq_false, if_true, if_false, not_true_eq_false, not_false_eq_true, zle, eq_self]
    · have e : lxL x = true := by unfold lxL; exact decide_eq_true ⟨h1, h2⟩
      simp only [en42, e42_0, e42_1, e42_3, e42_6, e42_7, e42_9, e42_12, e42_13, e42_16, e42_17, rk_n, rk_v, nl_n, nl_i, nl_r, cat_n, ip_cat_int, ip_cat_ref, ip_cat_long, ip_rf_some, Nat.reduceAdd, Nat.reduceLeDiff, Nat.reduceLT, Nat.le_refl, Nat.zero_le, e, h1, h2, true_or, or_true, Bool.false_eq_true, Bool.true_eq_false, if_true, if_false, not_true_eq_false, not_false_eq_true, zle, eq_self]
theorem c45 : cf d 45 [.int x] h = some (.inl (some (.int (if lxD x = true then 1 else 0))), h) := by
  by_cases h1 : x < 48
  · have e : lxD x = false := by unfold lxD; exact decide_eq_false (fun h => h.1 h1)
    simp only [en45, e45_0, e45_1, e45_3, e45_6, e45_7, e45_9, e45_12, e45_13, e45_16, e45_17, rk_n, rk_v, nl_n, nl_i, nl_r, cat_n, ip_cat_int, ip_cat_ref, ip_cat_long, ip_rf_some, Nat.reduceAdd, Nat.reduceLeDiff, Nat.reduceLT, Nat.le_refl, Nat.zero_le, e, h1, true_or, or_true, Bool.false_eq_true, Bool.true_eq_false, if_true, if_false, not_true_eq_false, not_false_eq_true, zle, eq_self]
  · by_cases h2 : 57 < x
    · have e : lxD x = false := by unfold lxD; exact decide_eq_false (fun h => h.2 h2)
      simp only [en45, e45_0, e45_1, e45_3, e45_6, e45_7, e45_9, e45_12, e45_13, e45_16, e45_17, rk_n, rk_v, nl_n, nl_i, nl_r, cat_n, ip_cat_int, ip_cat_ref, ip_cat_long, ip_rf_some, Nat.reduceAdd, Nat.reduceLeDiff, Nat.reduceLT, Nat.le_refl, Nat.zero_le, e, h1, h2, true_or, or_true, Bool.false_eq_true, Bool.true_eq_false, if_true, if_false, not_true_eq_false, not_false_eq_true, zle, eq_self]
    · have e : lxD x = true := by unfold lxD; exact decide_eq_true ⟨h1, h2⟩
      simp only [en45, e45_0, e45_1, e45_3, e45_6, e45_7, e45_9, e45_12, e45_13, e45_16, e45_17, rk_n, rk_v, nl_n, nl_i, nl_r, cat_n, ip_cat_int, ip_cat_ref, ip_cat_long, ip_rf_some, Nat.reduceAdd, Nat.reduceLeDiff, Nat.reduceLT, Nat.le_refl, Nat.zero_le, e, h1, h2, true_or, or_true, Bool.false_eq_true, Bool.true_eq_false, if_true, if_false, not_true_eq_false, not_false_eq_true, zle, eq_self]
theorem c46 : cf d 46 [.int x] h = some (.inl (some (.int (if lxS x = true then 1 else 0))), h) := by
  by_cases h1 : x = 59
  · subst h1; simp only [en46, e46_0, e46_1, e46_3, e46_6, e46_7, e46_9, e46_12, e46_13, e46_15, e46_18, e46_19, e46_21, e46_24, e46_25, e46_28, e46_29, rk_n, rk_v, nl_n, nl_i, nl_r, cat_n, ip_cat_int, ip_cat_ref, ip_cat_long, ip_rf_some, Nat.reduceAdd, Nat.reduceLeDiff, Nat.reduceLT, Nat.le_refl, Nat.zero_le, (by decide : lxS 59 = true), true_or, or_true, Bool.false_eq_true, Bool.true_eq_false, if_true, if_false, not_true_eq_false, not_false_eq_true, zle, eq_self]
  · by_cases h2 : x = 44
    · subst h2; simp only [en46, e46_0, e46_1, e46_3, e46_6, e46_7, e46_9, e46_12, e46_13, e46_15, e46_18, e46_19, e46_21, e46_24, e46_25, e46_28, e46_29, rk_n, rk_v, nl_n, nl_i, nl_r, cat_n, ip_cat_int, ip_cat_ref, ip_cat_long, ip_rf_some, Nat.reduceAdd, Nat.reduceLeDiff, Nat.reduceLT, Nat.le_refl, Nat.zero_le, (by decide : lxS 44 = true), (by decide : ¬ (44 : Int32) = 59), true_or, or_true, Bool.false_eq_true, Bool.true_eq_false, if_true, if_false, not_true_eq_false, not_false_eq_true, zle, eq_self]
    · by_cases h3 : x = 40
      · subst h3; simp only [en46, e46_0, e46_1, e46_3, e46_6, e46_7, e46_9, e46_12, e46_13, e46_15, e46_18, e46_19, e46_21, e46_24, e46_25, e46_28, e46_29, rk_n, rk_v, nl_n, nl_i, nl_r, cat_n, ip_cat_int, ip_cat_ref, ip_cat_long, ip_rf_some, Nat.reduceAdd, Nat.reduceLeDiff, Nat.reduceLT, Nat.le_refl, Nat.zero_le, (by decide : lxS 40 = true), (by decide : ¬ (40 : Int32) = 59 ∧ ¬ (40 : Int32) = 44), true_or, or_true, Bool.false_eq_true, Bool.true_eq_false, if_true, if_false, not_true_eq_false, not_false_eq_true, zle, eq_self]
      · by_cases h4 : x = 41
        · subst h4; simp only [en46, e46_0, e46_1, e46_3, e46_6, e46_7, e46_9, e46_12, e46_13, e46_15, e46_18, e46_19, e46_21, e46_24, e46_25, e46_28, e46_29, rk_n, rk_v, nl_n, nl_i, nl_r, cat_n, ip_cat_int, ip_cat_ref, ip_cat_long, ip_rf_some, Nat.reduceAdd, Nat.reduceLeDiff, Nat.reduceLT, Nat.le_refl, Nat.zero_le, (by decide : lxS 41 = true), (by decide : ¬ (41 : Int32) = 59 ∧ ¬ (41 : Int32) = 44 ∧ ¬ (41 : Int32) = 40), true_or, or_true, Bool.false_eq_true, Bool.true_eq_false, if_true, if_false, not_true_eq_false, not_false_eq_true, zle, eq_self]
        · have e : lxS x = false := by unfold lxS; exact decide_eq_false (by rintro (h | h | h | h) <;> contradiction)
          simp only [en46, e46_0, e46_1, e46_3, e46_6, e46_7, e46_9, e46_12, e46_13, e46_15, e46_18, e46_19, e46_21, e46_24, e46_25, e46_28, e46_29, rk_n, rk_v, nl_n, nl_i, nl_r, cat_n, ip_cat_int, ip_cat_ref, ip_cat_long, ip_rf_some, Nat.reduceAdd, Nat.reduceLeDiff, Nat.reduceLT, Nat.le_refl, Nat.zero_le, e, h1, h2, h3, h4, true_or, or_true, Bool.false_eq_true, Bool.true_eq_false, if_true, if_false, not_true_eq_false, not_false_eq_true, zle, eq_self]
theorem t40a (hb : ∀ i, i < t → I 3 i = B i) (ht : t ≤ 400) (hr : R 4 1 = some 3) (h3 : I 4 3 = Int32.ofNat t) : ∀ m p k, t - p ≤ m → p ≤ t → k ≤ p → ∃ x, ∀ d, rf (d + 1) 40 2 [some (.ref 4), some (.int (Int32.ofNat k))] [] (SH n, ip_up I 4 4 (Int32.ofNat p), L, R, nc, ns, nx) = rf (d + 1) 40 51 [some (.ref 4), some (.int x)] [] (SH n, ip_up I 4 4 (Int32.ofNat (rnn lxB B t p)), L, R, nc, ns, nx) := by
  intro m
  induction m with
  | zero =>
    intro p k h1 h2 h4
    have g2 : (Int32.ofNat t ≤ Int32.ofNat p) = True := eq_true ((nu_le (by omega) (by omega)).mpr (by omega))
    rw [rnn_no (by omega)]
    refine ⟨Int32.ofNat k, fun d => ?_⟩
    rw [e40_2]
    by_cases g : 400 ≤ k
    · have g1 : ((400 : Int32) ≤ Int32.ofNat k) = True := eq_true ((nu_le (t := 400) (by omega) (by omega)).mpr g)
      simp only [e40_3, e40_6, e40_9, e40_10, e40_13, e40_14, e40_17, e40_20, e40_21, e40_24, e40_25, e40_28, e40_29, e40_32, e40_35, e40_36, e40_36r, e40_37, e40_40, e40_41, e40_42, e40_45, e40_48, rk_n, rk_v, nl_n, nl_i, nl_r, cat_n, ip_cat_int, ip_cat_ref, ip_cat_long, ip_rf_some, Nat.reduceAdd, Nat.reduceLeDiff, Nat.reduceLT, Nat.le_refl, Nat.zero_le, g1, true_or, or_true, Bool.false_eq_true, Bool.true_eq_false, if_true, if_false, not_true_eq_false, not_false_eq_true, zle, eq_self]
    · have g1 : ((400 : Int32) ≤ Int32.ofNat k) = False := eq_false (fun e => g ((nu_le (t := 400) (by omega) (by omega)).mp e))
      simp only [e40_3, e40_6, e40_9, e40_10, e40_13, e40_14, e40_17, e40_20, e40_21, e40_24, e40_25, e40_28, e40_29, e40_32, e40_35, e40_36, e40_36r, e40_37, e40_40, e40_41, e40_42, e40_45, e40_48, rk_n, rk_v, nl_n, nl_i, nl_r, cat_n, ip_cat_int, ip_cat_ref, ip_cat_long, ip_rf_some, Nat.reduceAdd, Nat.reduceLeDiff, Nat.reduceLT, Nat.le_refl, Nat.zero_le, g1, g2, h3, up_eq, up_k, Nat.reduceEqDiff, true_or, or_true, Bool.false_eq_true, Bool.true_eq_false, if_true, if_false, not_true_eq_false, not_false_eq_true, zle, eq_self]
  | succ m ih =>
    intro p k h1 h2 h4
    by_cases hp : p < t
    · have g1 : ((400 : Int32) ≤ Int32.ofNat k) = False := eq_false (fun e => by have := (nu_le (t := 400) (by omega) (by omega)).mp e; omega)
      have g2 : (Int32.ofNat t ≤ Int32.ofNat p) = False := eq_false (fun e => by have := (nu_le (by omega) (by omega)).mp e; omega)
      have lp : p < 2147483648 := by omega
      have p4 : p < 400 := by omega
      have e1 : Int32.ofNat p + 1 = Int32.ofNat (p + 1) := nu_add (s := 1)
      have e2 : Int32.ofNat k + 1 = Int32.ofNat (k + 1) := nu_add (s := 1)
      by_cases hB : lxB (B p) = true
      · obtain ⟨x, A⟩ := ih (p + 1) (k + 1) (by omega) (by omega) (by omega)
        rw [rnn_st hp hB]
        refine ⟨x, fun d => ?_⟩
        rw [← A d, e40_2]
        simp only [e40_3, e40_6, e40_9, e40_10, e40_13, e40_14, e40_17, e40_20, e40_21, e40_24, e40_25, e40_28, e40_29, e40_32, e40_35, e40_36, e40_36r, e40_37, e40_40, e40_41, e40_42, e40_45, e40_48, rk_n, rk_v, nl_n, nl_i, nl_r, cat_n, ip_cat_int, ip_cat_ref, ip_cat_long, ip_rf_some, Nat.reduceAdd, Nat.reduceLeDiff, Nat.reduceLT, Nat.le_refl, Nat.zero_le, g1, g2, h3, hr, ia_lit, nu_i, nu_tn, lp, p4, hb p hp, c41, hB, e1, e2, up_up, up_eq, up_k, up_a, Nat.reduceEqDiff, (by decide : ¬ (1 : Int32) = 0), true_or, or_true, Bool.false_eq_true, Bool.true_eq_false, if_true, if_false, not_true_eq_false, not_false_eq_true, zle, eq_self]
      · rw [rnn_no (fun e => hB e.2)]
        refine ⟨Int32.ofNat k, fun d => ?_⟩
        rw [e40_2]
        simp only [e40_3, e40_6, e40_9, e40_10, e40_13, e40_14, e40_17, e40_20, e40_21, e40_24, e40_25, e40_28, e40_29, e40_32, e40_35, e40_36, e40_36r, e40_37, e40_40, e40_41, e40_42, e40_45, e40_48, rk_n, rk_v, nl_n, nl_i, nl_r, cat_n, ip_cat_int, ip_cat_ref, ip_cat_long, ip_rf_some, Nat.reduceAdd, Nat.reduceLeDiff, Nat.reduceLT, Nat.le_refl, Nat.zero_le, g1, g2, h3, hr, ia_lit, nu_i, nu_tn, lp, p4, hb p hp, c41, hB, up_eq, up_k, up_a, Nat.reduceEqDiff, true_or, or_true, Bool.false_eq_true, Bool.true_eq_false, if_true, if_false, not_true_eq_false, not_false_eq_true, zle, eq_self]
    · have g2 : (Int32.ofNat t ≤ Int32.ofNat p) = True := eq_true ((nu_le (by omega) (by omega)).mpr (by omega))
      rw [rnn_no (by omega)]
      refine ⟨Int32.ofNat k, fun d => ?_⟩
      rw [e40_2]
      by_cases g : 400 ≤ k
      · have g1 : ((400 : Int32) ≤ Int32.ofNat k) = True := eq_true ((nu_le (t := 400) (by omega) (by omega)).mpr g)
        simp only [e40_3, e40_6, e40_9, e40_10, e40_13, e40_14, e40_17, e40_20, e40_21, e40_24, e40_25, e40_28, e40_29, e40_32, e40_35, e40_36, e40_36r, e40_37, e40_40, e40_41, e40_42, e40_45, e40_48, rk_n, rk_v, nl_n, nl_i, nl_r, cat_n, ip_cat_int, ip_cat_ref, ip_cat_long, ip_rf_some, Nat.reduceAdd, Nat.reduceLeDiff, Nat.reduceLT, Nat.le_refl, Nat.zero_le, g1, true_or, or_true, Bool.false_eq_true, Bool.true_eq_false, if_true, if_false, not_true_eq_false, not_false_eq_true, zle, eq_self]
      · have g1 : ((400 : Int32) ≤ Int32.ofNat k) = False := eq_false (fun e => g ((nu_le (t := 400) (by omega) (by omega)).mp e))
        simp only [e40_3, e40_6, e40_9, e40_10, e40_13, e40_14, e40_17, e40_20, e40_21, e40_24, e40_25, e40_28, e40_29, e40_32, e40_35, e40_36, e40_36r, e40_37, e40_40, e40_41, e40_42, e40_45, e40_48, rk_n, rk_v, nl_n, nl_i, nl_r, cat_n, ip_cat_int, ip_cat_ref, ip_cat_long, ip_rf_some, Nat.reduceAdd, Nat.reduceLeDiff, Nat.reduceLT, Nat.le_refl, Nat.zero_le, g1, g2, h3, up_eq, up_k, Nat.reduceEqDiff, true_or, or_true, Bool.false_eq_true, Bool.true_eq_false, if_true, if_false, not_true_eq_false, not_false_eq_true, zle, eq_self]
theorem t40b (hb : ∀ i, i < t → I 3 i = B i) (ht : t ≤ 400) (hr : R 4 1 = some 3) (h3 : I 4 3 = Int32.ofNat t) : ∀ m p k, t - p ≤ m → p ≤ t → k ≤ p → ∃ x, ∀ d, rf (d + 1) 40 96 [some (.ref 4), some (.int (Int32.ofNat k))] [] (SH n, ip_up I 4 4 (Int32.ofNat p), L, R, nc, ns, nx) = rf (d + 1) 40 145 [some (.ref 4), some (.int x)] [] (SH n, ip_up I 4 4 (Int32.ofNat (rnn lxL B t p)), L, R, nc, ns, nx) := by
  intro m
  induction m with
  | zero =>
    intro p k h1 h2 h4
    have g2 : (Int32.ofNat t ≤ Int32.ofNat p) = True := eq_true ((nu_le (by omega) (by omega)).mpr (by omega))
    rw [rnn_no (by omega)]
    refine ⟨Int32.ofNat k, fun d => ?_⟩
    rw [e40_96]
    by_cases g : 400 ≤ k
    · have g1 : ((400 : Int32) ≤ Int32.ofNat k) = True := eq_true ((nu_le (t := 400) (by omega) (by omega)).mpr g)
      simp only [e40_97, e40_100, e40_103, e40_104, e40_107, e40_108, e40_111, e40_114, e40_115, e40_118, e40_119, e40_122, e40_123, e40_126, e40_129, e40_130, e40_130r, e40_131, e40_134, e40_135, e40_136, e40_139, e40_142, rk_n, rk_v, nl_n, nl_i, nl_r, cat_n, ip_cat_int, ip_cat_ref, ip_cat_long, ip_rf_some, Nat.reduceAdd, Nat.reduceLeDiff, Nat.reduceLT, Nat.le_refl, Nat.zero_le, g1, true_or, or_true, Bool.false_eq_true, Bool.true_eq_false, if_true, if_false, not_true_eq_false, not_false_eq_true, zle, eq_self]
    · have g1 : ((400 : Int32) ≤ Int32.ofNat k) = False := eq_false (fun e => g ((nu_le (t := 400) (by omega) (by omega)).mp e))
      simp only [e40_97, e40_100, e40_103, e40_104, e40_107, e40_108, e40_111, e40_114, e40_115, e40_118, e40_119, e40_122, e40_123, e40_126, e40_129, e40_130, e40_130r, e40_131, e40_134, e40_135, e40_136, e40_139, e40_142, rk_n, rk_v, nl_n, nl_i, nl_r, cat_n, ip_cat_int, ip_cat_ref, ip_cat_long, ip_rf_some, Nat.reduceAdd, Nat.reduceLeDiff, Nat.reduceLT, Nat.le_refl, Nat.zero_le, g1, g2, h3, up_eq, up_k, Nat.reduceEqDiff, true_or, or_true, Bool.false_eq_true, Bool.true_eq_false, if_true, if_false, not_true_eq_false, not_false_eq_true, zle, eq_self]
  | succ m ih =>
    intro p k h1 h2 h4
    by_cases hp : p < t
    · have g1 : ((400 : Int32) ≤ Int32.ofNat k) = False := eq_false (fun e => by have := (nu_le (t := 400) (by omega) (by omega)).mp e; omega)
      have g2 : (Int32.ofNat t ≤ Int32.ofNat p) = False := eq_false (fun e => by have := (nu_le (by omega) (by omega)).mp e; omega)
      have lp : p < 2147483648 := by omega
      have p4 : p < 400 := by omega
      have e1 : Int32.ofNat p + 1 = Int32.ofNat (p + 1) := nu_add (s := 1)
      have e2 : Int32.ofNat k + 1 = Int32.ofNat (k + 1) := nu_add (s := 1)
      by_cases hB : lxL (B p) = true
      · obtain ⟨x, A⟩ := ih (p + 1) (k + 1) (by omega) (by omega) (by omega)
        rw [rnn_st hp hB]
        refine ⟨x, fun d => ?_⟩
        rw [← A d, e40_96]
        simp only [e40_97, e40_100, e40_103, e40_104, e40_107, e40_108, e40_111, e40_114, e40_115, e40_118, e40_119, e40_122, e40_123, e40_126, e40_129, e40_130, e40_130r, e40_131, e40_134, e40_135, e40_136, e40_139, e40_142, rk_n, rk_v, nl_n, nl_i, nl_r, cat_n, ip_cat_int, ip_cat_ref, ip_cat_long, ip_rf_some, Nat.reduceAdd, Nat.reduceLeDiff, Nat.reduceLT, Nat.le_refl, Nat.zero_le, g1, g2, h3, hr, ia_lit, nu_i, nu_tn, lp, p4, hb p hp, c42, hB, e1, e2, up_up, up_eq, up_k, up_a, Nat.reduceEqDiff, (by decide : ¬ (1 : Int32) = 0), true_or, or_true, Bool.false_eq_true, Bool.true_eq_false, if_true, if_false, not_true_eq_false, not_false_eq_true, zle, eq_self]
      · rw [rnn_no (fun e => hB e.2)]
        refine ⟨Int32.ofNat k, fun d => ?_⟩
        rw [e40_96]
        simp only [e40_97, e40_100, e40_103, e40_104, e40_107, e40_108, e40_111, e40_114, e40_115, e40_118, e40_119, e40_122, e40_123, e40_126, e40_129, e40_130, e40_130r, e40_131, e40_134, e40_135, e40_136, e40_139, e40_142, rk_n, rk_v, nl_n, nl_i, nl_r, cat_n, ip_cat_int, ip_cat_ref, ip_cat_long, ip_rf_some, Nat.reduceAdd, Nat.reduceLeDiff, Nat.reduceLT, Nat.le_refl, Nat.zero_le, g1, g2, h3, hr, ia_lit, nu_i, nu_tn, lp, p4, hb p hp, c42, hB, up_eq, up_k, up_a, Nat.reduceEqDiff, true_or, or_true, Bool.false_eq_true, Bool.true_eq_false, if_true, if_false, not_true_eq_false, not_false_eq_true, zle, eq_self]
    · have g2 : (Int32.ofNat t ≤ Int32.ofNat p) = True := eq_true ((nu_le (by omega) (by omega)).mpr (by omega))
      rw [rnn_no (by omega)]
      refine ⟨Int32.ofNat k, fun d => ?_⟩
      rw [e40_96]
      by_cases g : 400 ≤ k
      · have g1 : ((400 : Int32) ≤ Int32.ofNat k) = True := eq_true ((nu_le (t := 400) (by omega) (by omega)).mpr g)
        simp only [e40_97, e40_100, e40_103, e40_104, e40_107, e40_108, e40_111, e40_114, e40_115, e40_118, e40_119, e40_122, e40_123, e40_126, e40_129, e40_130, e40_130r, e40_131, e40_134, e40_135, e40_136, e40_139, e40_142, rk_n, rk_v, nl_n, nl_i, nl_r, cat_n, ip_cat_int, ip_cat_ref, ip_cat_long, ip_rf_some, Nat.reduceAdd, Nat.reduceLeDiff, Nat.reduceLT, Nat.le_refl, Nat.zero_le, g1, true_or, or_true, Bool.false_eq_true, Bool.true_eq_false, if_true, if_false, not_true_eq_false, not_false_eq_true, zle, eq_self]
      · have g1 : ((400 : Int32) ≤ Int32.ofNat k) = False := eq_false (fun e => g ((nu_le (t := 400) (by omega) (by omega)).mp e))
        simp only [e40_97, e40_100, e40_103, e40_104, e40_107, e40_108, e40_111, e40_114, e40_115, e40_118, e40_119, e40_122, e40_123, e40_126, e40_129, e40_130, e40_130r, e40_131, e40_134, e40_135, e40_136, e40_139, e40_142, rk_n, rk_v, nl_n, nl_i, nl_r, cat_n, ip_cat_int, ip_cat_ref, ip_cat_long, ip_rf_some, Nat.reduceAdd, Nat.reduceLeDiff, Nat.reduceLT, Nat.le_refl, Nat.zero_le, g1, g2, h3, up_eq, up_k, Nat.reduceEqDiff, true_or, or_true, Bool.false_eq_true, Bool.true_eq_false, if_true, if_false, not_true_eq_false, not_false_eq_true, zle, eq_self]
theorem t40c (hb : ∀ i, i < t → I 3 i = B i) (ht : t ≤ 400) (hr : R 4 1 = some 3) (h3 : I 4 3 = Int32.ofNat t) : ∀ m p k, t - p ≤ m → p ≤ t → k ≤ p → ∃ x, ∀ d, rf (d + 1) 40 173 [some (.ref 4), some (.int (Int32.ofNat k))] [] (SH n, ip_up I 4 4 (Int32.ofNat p), L, R, nc, ns, nx) = rf (d + 1) 40 222 [some (.ref 4), some (.int x)] [] (SH n, ip_up I 4 4 (Int32.ofNat (rnn lxD B t p)), L, R, nc, ns, nx) := by
  intro m
  induction m with
  | zero =>
    intro p k h1 h2 h4
    have g2 : (Int32.ofNat t ≤ Int32.ofNat p) = True := eq_true ((nu_le (by omega) (by omega)).mpr (by omega))
    rw [rnn_no (by omega)]
    refine ⟨Int32.ofNat k, fun d => ?_⟩
    rw [e40_173]
    by_cases g : 400 ≤ k
    · have g1 : ((400 : Int32) ≤ Int32.ofNat k) = True := eq_true ((nu_le (t := 400) (by omega) (by omega)).mpr g)
      simp only [e40_174, e40_177, e40_180, e40_181, e40_184, e40_185, e40_188, e40_191, e40_192, e40_195, e40_196, e40_199, e40_200, e40_203, e40_206, e40_207, e40_207r, e40_208, e40_211, e40_212, e40_213, e40_216, e40_219, rk_n, rk_v, nl_n, nl_i, nl_r, cat_n, ip_cat_int, ip_cat_ref, ip_cat_long, ip_rf_some, Nat.reduceAdd, Nat.reduceLeDiff, Nat.reduceLT, Nat.le_refl, Nat.zero_le, g1, true_or, or_true, Bool.false_eq_true, Bool.true_eq_false, if_true, if_false, not_true_eq_false, not_false_eq_true, zle, eq_self]
    · have g1 : ((400 : Int32) ≤ Int32.ofNat k) = False := eq_false (fun e => g ((nu_le (t := 400) (by omega) (by omega)).mp e))
      simp only [e40_174, e40_177, e40_180, e40_181, e40_184, e40_185, e40_188, e40_191, e40_192, e40_195, e40_196, e40_199, e40_200, e40_203, e40_206, e40_207, e40_207r, e40_208, e40_211, e40_212, e40_213, e40_216, e40_219, rk_n, rk_v, nl_n, nl_i, nl_r, cat_n, ip_cat_int, ip_cat_ref, ip_cat_long, ip_rf_some, Nat.reduceAdd, Nat.reduceLeDiff, Nat.reduceLT, Nat.le_refl, Nat.zero_le, g1, g2, h3, up_eq, up_k, Nat.reduceEqDiff, true_or, or_true, Bool.false_eq_true, Bool.true_eq_false, if_true, if_false, not_true_eq_false, not_false_eq_true, zle, eq_self]
  | succ m ih =>
    intro p k h1 h2 h4
    by_cases hp : p < t
    · have g1 : ((400 : Int32) ≤ Int32.ofNat k) = False := eq_false (fun e => by have := (nu_le (t := 400) (by omega) (by omega)).mp e; omega)
      have g2 : (Int32.ofNat t ≤ Int32.ofNat p) = False := eq_false (fun e => by have := (nu_le (by omega) (by omega)).mp e; omega)
      have lp : p < 2147483648 := by omega
      have p4 : p < 400 := by omega
      have e1 : Int32.ofNat p + 1 = Int32.ofNat (p + 1) := nu_add (s := 1)
      have e2 : Int32.ofNat k + 1 = Int32.ofNat (k + 1) := nu_add (s := 1)
      by_cases hB : lxD (B p) = true
      · obtain ⟨x, A⟩ := ih (p + 1) (k + 1) (by omega) (by omega) (by omega)
        rw [rnn_st hp hB]
        refine ⟨x, fun d => ?_⟩
        rw [← A d, e40_173]
        simp only [e40_174, e40_177, e40_180, e40_181, e40_184, e40_185, e40_188, e40_191, e40_192, e40_195, e40_196, e40_199, e40_200, e40_203, e40_206, e40_207, e40_207r, e40_208, e40_211, e40_212, e40_213, e40_216, e40_219, rk_n, rk_v, nl_n, nl_i, nl_r, cat_n, ip_cat_int, ip_cat_ref, ip_cat_long, ip_rf_some, Nat.reduceAdd, Nat.reduceLeDiff, Nat.reduceLT, Nat.le_refl, Nat.zero_le, g1, g2, h3, hr, ia_lit, nu_i, nu_tn, lp, p4, hb p hp, c45, hB, e1, e2, up_up, up_eq, up_k, up_a, Nat.reduceEqDiff, (by decide : ¬ (1 : Int32) = 0), true_or, or_true, Bool.false_eq_true, Bool.true_eq_false, if_true, if_false, not_true_eq_false, not_false_eq_true, zle, eq_self]
      · rw [rnn_no (fun e => hB e.2)]
        refine ⟨Int32.ofNat k, fun d => ?_⟩
        rw [e40_173]
        simp only [e40_174, e40_177, e40_180, e40_181, e40_184, e40_185, e40_188, e40_191, e40_192, e40_195, e40_196, e40_199, e40_200, e40_203, e40_206, e40_207, e40_207r, e40_208, e40_211, e40_212, e40_213, e40_216, e40_219, rk_n, rk_v, nl_n, nl_i, nl_r, cat_n, ip_cat_int, ip_cat_ref, ip_cat_long, ip_rf_some, Nat.reduceAdd, Nat.reduceLeDiff, Nat.reduceLT, Nat.le_refl, Nat.zero_le, g1, g2, h3, hr, ia_lit, nu_i, nu_tn, lp, p4, hb p hp, c45, hB, up_eq, up_k, up_a, Nat.reduceEqDiff, true_or, or_true, Bool.false_eq_true, Bool.true_eq_false, if_true, if_false, not_true_eq_false, not_false_eq_true, zle, eq_self]
    · have g2 : (Int32.ofNat t ≤ Int32.ofNat p) = True := eq_true ((nu_le (by omega) (by omega)).mpr (by omega))
      rw [rnn_no (by omega)]
      refine ⟨Int32.ofNat k, fun d => ?_⟩
      rw [e40_173]
      by_cases g : 400 ≤ k
      · have g1 : ((400 : Int32) ≤ Int32.ofNat k) = True := eq_true ((nu_le (t := 400) (by omega) (by omega)).mpr g)
        simp only [e40_174, e40_177, e40_180, e40_181, e40_184, e40_185, e40_188, e40_191, e40_192, e40_195, e40_196, e40_199, e40_200, e40_203, e40_206, e40_207, e40_207r, e40_208, e40_211, e40_212, e40_213, e40_216, e40_219, rk_n, rk_v, nl_n, nl_i, nl_r, cat_n, ip_cat_int, ip_cat_ref, ip_cat_long, ip_rf_some, Nat.reduceAdd, Nat.reduceLeDiff, Nat.reduceLT, Nat.le_refl, Nat.zero_le, g1, true_or, or_true, Bool.false_eq_true, Bool.true_eq_false, if_true, if_false, not_true_eq_false, not_false_eq_true, zle, eq_self]
      · have g1 : ((400 : Int32) ≤ Int32.ofNat k) = False := eq_false (fun e => g ((nu_le (t := 400) (by omega) (by omega)).mp e))
        simp only [e40_174, e40_177, e40_180, e40_181, e40_184, e40_185, e40_188, e40_191, e40_192, e40_195, e40_196, e40_199, e40_200, e40_203, e40_206, e40_207, e40_207r, e40_208, e40_211, e40_212, e40_213, e40_216, e40_219, rk_n, rk_v, nl_n, nl_i, nl_r, cat_n, ip_cat_int, ip_cat_ref, ip_cat_long, ip_rf_some, Nat.reduceAdd, Nat.reduceLeDiff, Nat.reduceLT, Nat.le_refl, Nat.zero_le, g1, g2, h3, up_eq, up_k, Nat.reduceEqDiff, true_or, or_true, Bool.false_eq_true, Bool.true_eq_false, if_true, if_false, not_true_eq_false, not_false_eq_true, zle, eq_self]
/-! keywords -/
theorem mtc_at : ∀ (ws : List Nat) (p : Nat), mtc B ws p = true ↔ ∀ i, i < ws.length → B (p + i) = Int32.ofNat (ws.getD i 0) := by
  intro ws
  induction ws with
  | nil => intro p; exact ⟨fun _ i hi => absurd hi (by simp), fun _ => rfl⟩
  | cons w r ih =>
    intro p
    rw [mtc, Bool.and_eq_true, decide_eq_true_iff, ih (p + 1)]
    constructor
    · rintro ⟨h1, h2⟩ i hi
      cases i with
      | zero => exact h1
      | succ i => rw [show p + (i + 1) = p + 1 + i by omega, List.getD_cons_succ]; exact h2 i (by simpa using hi)
    · intro h
      refine ⟨h 0 (by simp), fun i hi => ?_⟩
      have := h (i + 1) (by simpa using hi)
      rw [show p + (i + 1) = p + 1 + i by omega, List.getD_cons_succ] at this
      exact this
/-- where the class stands: at the token that begins at p -/
def RC (B : Nat → Int32) (t p : Nat) (J : Nat → Nat → Int32) : Prop := J 4 3 = Int32.ofNat t ∧ J 4 4 = Int32.ofNat (enT B t p) ∧ J 4 5 = Int32.ofNat p ∧ J 4 6 = Int32.ofNat (kdT B t p) ∧ ∀ i, i < t → J 3 i = B i
theorem t44 (ht : t ≤ 400) (hr : R 4 1 = some 3) (hb : ∀ i, i < t → J 3 i = B i) (h5 : J 4 5 = Int32.ofNat p) (hk : ∀ i, i < ws.length → (ip_tb.getD 0 []).getD (b + i) 0 = ws.getD i 0) (hl : b + ws.length ≤ 68) (hp : p + ws.length ≤ t) : ∀ m i, i + m = ws.length → rf d 44 19 [some (.ref 4), some (.int (Int32.ofNat b)), some (.int (Int32.ofNat (b + ws.length))), some (.int (Int32.ofNat i))] [] (SH n, J, L, R, nc, ns, nx) = some (.inl (some (.int (if mtc B (ws.drop i) (p + i) = true then 1 else 0))), (SH n, J, L, R, nc, ns, nx)) := by
  have es : Int32.ofNat (b + ws.length) - Int32.ofNat b = Int32.ofNat ws.length := by
    rw [← nu_add, Int32.add_comm, Int32.add_sub_cancel]
  have kl : (ip_tb.getD 0 []).length = 68 := by decide
  intro m
  induction m with
  | zero =>
    intro i hi
    have g : (Int32.ofNat ws.length ≤ Int32.ofNat i) = True := eq_true ((nu_le (by omega) (by omega)).mpr (by omega))
    rw [List.drop_eq_nil_of_le (by omega), mtc, if_pos rfl, e44_19]
    simp only [e44_0, e44_1, e44_2, e44_3, e44_4, e44_7, e44_8, e44_11, e44_12, e44_15, e44_16, e44_17, e44_18, e44_20, e44_21, e44_22, e44_23, e44_26, e44_28, e44_29, e44_30, e44_31, e44_34, e44_35, e44_38, e44_39, e44_42, e44_43, e44_44, e44_45, e44_48, e44_49, e44_50, e44_53, e44_56, e44_57, rk_n, rk_v, nl_n, nl_i, nl_r, cat_n, ip_cat_int, ip_cat_ref, ip_cat_long, ip_rf_some, Nat.reduceAdd, Nat.reduceLeDiff, Nat.reduceLT, Nat.le_refl, Nat.zero_le, es, g, true_or, or_true, Bool.false_eq_true, Bool.true_eq_false, if_true, if_false, not_true_eq_false, not_false_eq_true, zle, eq_self]
  | succ m ih =>
    intro i hi
    have g : (Int32.ofNat ws.length ≤ Int32.ofNat i) = False := eq_false (fun e => by have := (nu_le (by omega) (by omega)).mp e; omega)
    have e1 : Int32.ofNat i + 1 = Int32.ofNat (i + 1) := nu_add (s := 1)
    have l1 : b + i < 2147483648 := by omega
    have l2 : b + i < (ip_tb.getD 0 []).length := by omega
    have l3 : p + i < 2147483648 := by omega
    have l4 : p + i < 400 := by omega
    have q := hk i (by omega)
    have IH := ih (i + 1) (by omega)
    have dr : ws.drop i = ws.getD i 0 :: ws.drop (i + 1) := by rw [List.drop_eq_getElem_cons (by omega), getD_in (by omega)]
    rw [dr, mtc, e44_19]
    by_cases h : B (p + i) = Int32.ofNat (ws.getD i 0)
    · rw [decide_eq_true h, Bool.true_and, show p + i + 1 = p + (i + 1) by omega, ← IH]
      simp only [e44_0, e44_1, e44_2, e44_3, e44_4, e44_7, e44_8, e44_11, e44_12, e44_15, e44_16, e44_17, e44_18, e44_20, e44_21, e44_22, e44_23, e44_26, e44_28, e44_29, e44_30, e44_31, e44_34, e44_35, e44_38, e44_39, e44_42, e44_43, e44_44, e44_45, e44_48, e44_49, e44_50, e44_53, e44_56, e44_57, rk_n, rk_v, nl_n, nl_i, nl_r, cat_n, ip_cat_int, ip_cat_ref, ip_cat_long, ip_rf_some, Nat.reduceAdd, Nat.reduceLeDiff, Nat.reduceLT, Nat.le_refl, Nat.zero_le, es, g, nu_add, hr, h5, ia_lit, nu_i, nu_tn, l1, l2, l3, l4, (by decide : 0 < 39), q, hb (p + i) (by omega), h, e1, true_or, or_true, Bool.false_eq_true, Bool.true_eq_false, if_true, if_false, not_true_eq_false, not_false_eq_true, zle, eq_self]
    · rw [decide_eq_false h, Bool.false_and]
      have h' : ¬ Int32.ofNat (ws.getD i 0) = B (p + i) := fun e => h e.symm
      simp only [e44_0, e44_1, e44_2, e44_3, e44_4, e44_7, e44_8, e44_11, e44_12, e44_15, e44_16, e44_17, e44_18, e44_20, e44_21, e44_22, e44_23, e44_26, e44_28, e44_29, e44_30, e44_31, e44_34, e44_35, e44_38, e44_39, e44_42, e44_43, e44_44, e44_45, e44_48, e44_49, e44_50, e44_53, e44_56, e44_57, rk_n, rk_v, nl_n, nl_i, nl_r, cat_n, ip_cat_int, ip_cat_ref, ip_cat_long, ip_rf_some, Nat.reduceAdd, Nat.reduceLeDiff, Nat.reduceLT, Nat.le_refl, Nat.zero_le, es, g, nu_add, hr, h5, ia_lit, nu_i, nu_tn, l1, l2, l3, l4, (by decide : 0 < 39), q, hb (p + i) (by omega), h', true_or, or_true, Bool.false_eq_true, Bool.true_eq_false, if_true, if_false, not_true_eq_false, not_false_eq_true, zle, eq_self]
theorem c44 (ht : t ≤ 400) (hr : R 4 1 = some 3) (hb : ∀ i, i < t → J 3 i = B i) (h4 : J 4 4 = Int32.ofNat (rnn lxL B t p)) (h5 : J 4 5 = Int32.ofNat p) (pt : p ≤ t) (hk : ∀ i, i < ws.length → (ip_tb.getD 0 []).getD (b + i) 0 = ws.getD i 0) (hl : b + ws.length ≤ 68) : cf d 44 [.ref 4, .int (Int32.ofNat b), .int (Int32.ofNat (b + ws.length))] (SH n, J, L, R, nc, ns, nx) = some (.inl (some (.int (if isW B t ws p = true then 1 else 0))), (SH n, J, L, R, nc, ns, nx)) := by
  have rl := rnn_le (P := lxL) (B := B) (t := t) _ p (Nat.le_refl _) pt
  have es : Int32.ofNat (b + ws.length) - Int32.ofNat b = Int32.ofNat ws.length := by
    rw [← nu_add, Int32.add_comm, Int32.add_sub_cancel]
  have ee : Int32.ofNat (rnn lxL B t p) - Int32.ofNat p = Int32.ofNat (rnn lxL B t p - p) := by
    rw [show rnn lxL B t p = p + (rnn lxL B t p - p) by omega, ← nu_add, Int32.add_comm, Int32.add_sub_cancel]
    congr 1; omega
  unfold isW
  by_cases h : rnn lxL B t p - p = ws.length
  · rw [decide_eq_true h, Bool.true_and]
    have A := t44 (d := d) (n := n) (L := L) (nc := nc) (ns := ns) (nx := nx) (b := b) ht hr hb h5 hk hl (by omega) ws.length 0 (by omega)
    rw [List.drop_zero, Nat.add_zero] at A
    have A : rf d 44 19 [some (.ref 4), some (.int (Int32.ofNat b)), some (.int (Int32.ofNat (b + ws.length))), some (.int 0)] [] (SH n, J, L, R, nc, ns, nx) = _ := A
    rw [← A]
    simp only [en44, e44_0, e44_1, e44_2, e44_3, e44_4, e44_7, e44_8, e44_11, e44_12, e44_15, e44_16, e44_17, e44_18, e44_20, e44_21, e44_22, e44_23, e44_26, e44_28, e44_29, e44_30, e44_31, e44_34, e44_35, e44_38, e44_39, e44_42, e44_43, e44_44, e44_45, e44_48, e44_49, e44_50, e44_53, e44_56, e44_57, rk_n, rk_v, nl_n, nl_i, nl_r, cat_n, ip_cat_int, ip_cat_ref, ip_cat_long, ip_rf_some, Nat.reduceAdd, Nat.reduceLeDiff, Nat.reduceLT, Nat.le_refl, Nat.zero_le, es, h4, h5, ee, h, true_or, or_true, Bool.false_eq_true, Bool.true_eq_false, if_true, if_false, not_true_eq_false, not_false_eq_true, zle, eq_self]
  · rw [decide_eq_false h, Bool.false_and]
    have g : (Int32.ofNat ws.length = Int32.ofNat (rnn lxL B t p - p)) = False := eq_false (fun e => by have := (nu_inj (by omega) (by omega)).mp e; omega)
    simp only [en44, e44_0, e44_1, e44_2, e44_3, e44_4, e44_7, e44_8, e44_11, e44_12, e44_15, e44_16, e44_17, e44_18, e44_20, e44_21, e44_22, e44_23, e44_26, e44_28, e44_29, e44_30, e44_31, e44_34, e44_35, e44_38, e44_39, e44_42, e44_43, e44_44, e44_45, e44_48, e44_49, e44_50, e44_53, e44_56, e44_57, rk_n, rk_v, nl_n, nl_i, nl_r, cat_n, ip_cat_int, ip_cat_ref, ip_cat_long, ip_rf_some, Nat.reduceAdd, Nat.reduceLeDiff, Nat.reduceLT, Nat.le_refl, Nat.zero_le, es, h4, h5, ee, g, true_or, or_true, Bool.false_eq_true, Bool.true_eq_false, if_true, if_false, not_true_eq_false, not_false_eq_true, zle, eq_self]
end LXC
