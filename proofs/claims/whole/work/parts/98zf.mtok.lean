/-! READ: the model's tokens -/
def wrM (J : Nat → Nat → Int32) (p : Nat) : Nat → Nat → Int32 := ip_up (atM J p) 265 5 (Int32.ofNat p)
def wl (B : Nat → Int32) (t p : Nat) : List Nat := (List.range (rnn lxL B t p - p)).map (fun i => sN (B (p + i)) - 96)
theorem lxL_v {x : Int32} (h : lxL x = true) : ∃ v, 1 ≤ v ∧ v ≤ 26 ∧ x = Int32.ofNat (96 + v) ∧ sN x = 96 + v := by
  obtain ⟨h1, h2⟩ := of_decide_eq_true h
  have n0 : ¬ x < 0 := by
    intro e
    rw [Int32.lt_iff_toInt_lt] at h1 e
    have z : (97 : Int32).toInt = 97 := by decide
    have z0 : (0 : Int32).toInt = 0 := by decide
    omega
  obtain ⟨v, hv, rfl⟩ := nu_of n0
  have a1 : 97 ≤ v := Nat.le_of_not_lt (fun e => h1 ((nu_lt (s := 97) hv (by omega)).mpr e))
  have a2 : v ≤ 122 := Nat.le_of_not_lt (fun e => h2 ((nu_lt (t := 122) (by omega) hv).mpr e))
  exact ⟨v - 96, by omega, by omega, by congr 1; omega, by rw [sN_of hv]; omega⟩
theorem pck_snoc (l : List Nat) (x : Nat) : pck (l ++ [x]) = 32 * pck l + x := by
  unfold pck; rw [List.foldl_append]; rfl
theorem pkl_inj : ∀ (a b : List Nat), okl a → okl b → pkl a = pkl b → a = b := by
  intro a
  induction a with
  | nil =>
    intro b _ hb h
    cases b with
    | nil => rfl
    | cons y s => have := hb y (List.mem_cons_self ..); have : pkl (y :: s) = y + 32 * pkl s := rfl; have : pkl [] = 0 := rfl; omega
  | cons x r ih =>
    intro b ha hb h
    have h1 := ha x (List.mem_cons_self ..)
    cases b with
    | nil => have : pkl (x :: r) = x + 32 * pkl r := rfl; have : pkl [] = 0 := rfl; omega
    | cons y s =>
      have h2 := hb y (List.mem_cons_self ..)
      have e1 : pkl (x :: r) = x + 32 * pkl r := rfl
      have e2 : pkl (y :: s) = y + 32 * pkl s := rfl
      have e3 : x = y := by omega
      have e4 := ih s (fun z hz => ha z (List.mem_cons_of_mem _ hz)) (fun z hz => hb z (List.mem_cons_of_mem _ hz)) (by omega)
      rw [e3, e4]
theorem pck_inj {a b : List Nat} (ha : okl a) (hb : okl b) (h : pck a = pck b) : a = b := by
  rw [pck_pkl, pck_pkl] at h
  have := pkl_inj _ _ (fun x hx => ha x (List.mem_reverse.mp hx)) (fun x hx => hb x (List.mem_reverse.mp hx)) h
  exact List.reverse_inj.mp this
theorem pck_30 {a : List Nat} (ha : okl a) (hl : a.length ≤ 6) : pck a < 1073741824 := by
  rw [pck_pkl]
  exact pkl_30 (fun x hx => ha x (List.mem_reverse.mp hx)) (by rw [List.length_reverse]; exact hl)
theorem lg_inj {a b : Nat} (h : a < 9223372036854775808) (g : b < 9223372036854775808) : Int64.ofNat a = Int64.ofNat b ↔ a = b := by
  constructor
  · intro e
    have := congrArg Int64.toInt e
    rw [lg_int h, lg_int g] at this
    omega
  · rintro rfl; rfl
theorem lg_cz (u v : Int64) : (lg_cmp u v = 0) = (u = v) := by
  apply propext
  unfold lg_cmp
  by_cases e : u = v
  · subst e
    have : ¬ u < u := by rw [Int64.lt_iff_toInt_lt]; omega
    simp [this]
  · constructor
    · intro h
      by_cases g : u > v
      · simp [g] at h
      · simp [g, e] at h
    · intro h; exact absurd h e
section MT
variable {n d a b c k t p T τ j : Nat} {B : Nat → Int32} {I J K : Nat → Nat → Int32} {L L' : Nat → Nat → Int64} {R R' : Nat → Nat → Option Nat} {nc ns : Nat} {nx : Bool} {x y : Int32} {h : ip_H} {ws : List Nat} {f : Nat → List Nat}
theorem wl_len : (wl B t p).length = rnn lxL B t p - p := by unfold wl; rw [List.length_map, List.length_range]
theorem wl_at {i : Nat} (hi : i < rnn lxL B t p - p) : (wl B t p).getD i 0 = sN (B (p + i)) - 96 := by
  rw [getD_in (by rw [wl_len]; exact hi)]
  unfold wl
  rw [List.getElem_map, List.getElem_range]
theorem wl_ok : okl (wl B t p) := by
  intro x hx
  unfold wl at hx
  rw [List.mem_map] at hx
  obtain ⟨i, h1, rfl⟩ := hx
  rw [List.mem_range] at h1
  obtain ⟨v, a1, a2, -, a4⟩ := lxL_v (rnn_all (P := lxL) (B := B) (t := t) _ p (Nat.le_refl _) (p + i) (by omega) (by omega))
  omega
theorem atM_at {q : Nat} : atM (atM J p) q = atM J q := up_up
theorem c197 (h4 : J 265 4 = Int32.ofNat p) (F : J 265 5 = -1) : cf d 197 [.ref 265] (SH n, J, L, R, nc, ns, nx) = some (.inl none, (SH n, ip_up J 265 5 (Int32.ofNat p), L, R, nc, ns, nx)) := by
  simp only [en197, e197_0, e197_1, e197_4, e197_5, e197_8, e197_9, e197_10, e197_13, e197_16, rk_n, rk_v, nl_n, nl_i, nl_r, cat_n, ip_cat_int, ip_cat_ref, ip_cat_long, ip_rf_some, Nat.reduceAdd, Nat.reduceLeDiff, Nat.reduceLT, Nat.le_refl, Nat.zero_le, h4, F, Bool.false_eq_true, Bool.true_eq_false, if_true, if_false, not_true_eq_false, not_false_eq_true, zle, eq_self]
theorem c197f (F : ¬ J 265 5 = -1) : cf d 197 [.ref 265] (SH n, J, L, R, nc, ns, nx) = some (.inl none, (SH n, J, L, R, nc, ns, nx)) := by
  simp only [en197, e197_0, e197_1, e197_4, e197_5, e197_8, e197_9, e197_10, e197_13, e197_16, rk_n, rk_v, nl_n, nl_i, nl_r, cat_n, ip_cat_int, ip_cat_ref, ip_cat_long, ip_rf_some, Nat.reduceAdd, Nat.reduceLeDiff, Nat.reduceLT, Nat.le_refl, Nat.zero_le, F, Bool.false_eq_true, Bool.true_eq_false, if_true, if_false, not_true_eq_false, not_false_eq_true, zle, eq_self]
theorem wrM_c (X : RM B t a J) (F : J 265 5 = -1) : cf d 197 [.ref 265] (SH n, atM J p, L, R, nc, ns, nx) = some (.inl none, (SH n, wrM J p, L, R, nc, ns, nx)) := c197 up_eq ((up_k (by decide)).trans F)
/-- the words of the model are the keywords -/
theorem kwt : ip_tb.getD 28 [] = kwl.getD 0 [] ∧ ip_tb.getD 29 [] = kwl.getD 1 [] ∧ ip_tb.getD 30 [] = kwl.getD 2 [] ∧ ip_tb.getD 31 [] = kwl.getD 3 [] ∧ ip_tb.getD 32 [] = kwl.getD 4 [] ∧ ip_tb.getD 33 [] = kwl.getD 5 [] ∧ ip_tb.getD 21 [] = kwl.getD 6 [] ∧ ip_tb.getD 22 [] = kwl.getD 7 [] ∧ ip_tb.getD 34 [] = kwl.getD 8 [] ∧ ip_tb.getD 35 [] = kwl.getD 9 [] ∧ ip_tb.getD 36 [] = kwl.getD 10 [] ∧ ip_tb.getD 37 [] = kwl.getD 11 [] ∧ ip_tb.getD 38 [] = kwl.getD 12 [] := ⟨rfl, rfl, rfl, rfl, rfl, rfl, rfl, rfl, rfl, rfl, rfl, rfl, rfl⟩
/-- is -/
theorem ms (hR : LYR R) (ht : t ≤ 400) (hB : ∀ i, i < t → ¬ B i = -1) (X : RM B t a J) (ha : a ≤ t) (hs : skT B t a = p) (hτ : τ < 39) (hj : j < 13) (hw : ip_tb.getD τ [] = kwl.getD j []) : cf (d + 2) 194 [.ref 265, .ref (tx τ)] (SH n, J, L, R, nc, ns, nx) = some (.inl (some (.int (if kdT B t p = j then 1 else 0))), (SH n, atM J p, L, R, nc, ns, nx)) := by
  rw [c194 hR ht hB X ha hs hτ hw (by have := (kwl_ok j hj).2.2; omega), kd_kwb hj]
  simp only [decide_eq_true_eq]
theorem c202 (hR : LYR R) (ht : t ≤ 400) (hB : ∀ i, i < t → ¬ B i = -1) (X : RM B t a J) (ha : a ≤ t) (hs : skT B t a = p) (F : J 265 5 = -1) (hτ : τ < 39) (hj : j < 13) (hw : ip_tb.getD τ [] = kwl.getD j []) (e : kdT B t p = j) : cf (d + 3) 202 [.ref 265, .ref (tx τ)] (SH n, J, L, R, nc, ns, nx) = some (.inl (some (.int 1)), (SH n, atM J (enT B t p), L, R, nc, ns, nx)) := by
  have C := fun d => ms (d := d) (n := n) (L := L) (nc := nc) (ns := ns) (nx := nx) hR ht hB X ha hs hτ hj hw
  rw [if_pos e] at C
  obtain ⟨e1, e2, e3⟩ := kd_en hj e
  have k4 : atM J p 265 4 = Int32.ofNat p := up_eq
  have e4 : Int32.ofNat p + Int32.ofNat (kwl.getD j []).length = Int32.ofNat (enT B t p) := by rw [nu_add, e1]
  have e5 : ip_up (atM J p) 265 4 (Int32.ofNat (enT B t p)) = atM J (enT B t p) := up_up
  simp only [en202, e202_0, e202_1, e202_4, e202_5, e202_8, e202_9, e202_10, e202_13, e202_16, e202_17, e202_18, e202_19, e202_19r, e202_20, e202_23, e202_24, e202_27, e202_28, e202_31, e202_32, rk_n, rk_v, nl_n, nl_i, nl_r, cat_n, ip_cat_int, ip_cat_ref, ip_cat_long, ip_rf_some, Nat.reduceAdd, Nat.reduceLeDiff, Nat.reduceLT, Nat.le_refl, Nat.zero_le, F, C, k4, hτ, hw, e4, e5, (by decide : ¬ (1 : Int32) = 0), true_or, or_true, Bool.false_eq_true, Bool.true_eq_false, if_true, if_false, not_true_eq_false, not_false_eq_true, zle, eq_self]
theorem c202n (hR : LYR R) (ht : t ≤ 400) (hB : ∀ i, i < t → ¬ B i = -1) (X : RM B t a J) (ha : a ≤ t) (hs : skT B t a = p) (F : J 265 5 = -1) (hτ : τ < 39) (hj : j < 13) (hw : ip_tb.getD τ [] = kwl.getD j []) (e : ¬ kdT B t p = j) : cf (d + 3) 202 [.ref 265, .ref (tx τ)] (SH n, J, L, R, nc, ns, nx) = some (.inl (some (.int 0)), (SH n, atM J p, L, R, nc, ns, nx)) := by
  have C := fun d => ms (d := d) (n := n) (L := L) (nc := nc) (ns := ns) (nx := nx) hR ht hB X ha hs hτ hj hw
  rw [if_neg e] at C
  simp only [en202, e202_0, e202_1, e202_4, e202_5, e202_8, e202_9, e202_10, e202_13, e202_16, e202_17, e202_18, e202_19, e202_19r, e202_20, e202_23, e202_24, e202_27, e202_28, e202_31, e202_32, rk_n, rk_v, nl_n, nl_i, nl_r, cat_n, ip_cat_int, ip_cat_ref, ip_cat_long, ip_rf_some, Nat.reduceAdd, Nat.reduceLeDiff, Nat.reduceLT, Nat.le_refl, Nat.zero_le, F, C, true_or, or_true, Bool.false_eq_true, Bool.true_eq_false, if_true, if_false, not_true_eq_false, not_false_eq_true, zle, eq_self]
theorem c202f (F : ¬ J 265 5 = -1) : cf d 202 [.ref 265, .ref a] (SH n, J, L, R, nc, ns, nx) = some (.inl (some (.int 0)), (SH n, J, L, R, nc, ns, nx)) := by
  simp only [en202, e202_0, e202_1, e202_4, e202_5, e202_8, e202_9, e202_10, e202_13, e202_16, e202_17, e202_18, e202_19, e202_19r, e202_20, e202_23, e202_24, e202_27, e202_28, e202_31, e202_32, rk_n, rk_v, nl_n, nl_i, nl_r, cat_n, ip_cat_int, ip_cat_ref, ip_cat_long, ip_rf_some, Nat.reduceAdd, Nat.reduceLeDiff, Nat.reduceLT, Nat.le_refl, Nat.zero_le, F, true_or, or_true, Bool.false_eq_true, Bool.true_eq_false, if_true, if_false, not_true_eq_false, not_false_eq_true, zle, eq_self]
/-- isOwn, at a token -/
theorem c199 (hR : LYR R) (ht : t ≤ 400) (hB : ∀ i, i < t → ¬ B i = -1) (X : RM B t p J) (hp : p ≤ t) (hs : skT B t p = p) : cf (d + 3) 199 [.ref 265] (SH n, J, L, R, nc, ns, nx) = some (.inl (some (.int (if own B t p = true then 1 else 0))), (SH n, J, L, R, nc, ns, nx)) := by
  have M := fun τ j (hτ : τ < 39) (hj : j < 13) (hw : ip_tb.getD τ [] = kwl.getD j []) d => ms (d := d) (n := n) (L := L) (nc := nc) (ns := ns) (nx := nx) hR ht hB X hp hs hτ hj hw
  rw [atM_s X] at M
  have M0 := M 28 0 (by decide) (by decide) rfl
  have M1 := M 29 1 (by decide) (by decide) rfl
  have M2 := M 30 2 (by decide) (by decide) rfl
  have M3 := M 31 3 (by decide) (by decide) rfl
  have M4 := M 32 4 (by decide) (by decide) rfl
  have M5 := M 33 5 (by decide) (by decide) rfl
  have M6 := M 21 6 (by decide) (by decide) rfl
  have M7 := M 22 7 (by decide) (by decide) rfl
  have M8 := M 34 8 (by decide) (by decide) rfl
  have M9 := M 35 9 (by decide) (by decide) rfl
  have M10 := M 36 10 (by decide) (by decide) rfl
  have M11 := M 37 11 (by decide) (by decide) rfl
  have M12 := M 38 12 (by decide) (by decide) rfl
  unfold own
  generalize kdT B t p = k at *
  by_cases h : k < 13
  · rw [decide_eq_true h]
    have h2 : k = 0 ∨ k = 1 ∨ k = 2 ∨ k = 3 ∨ k = 4 ∨ k = 5 ∨ k = 6 ∨ k = 7 ∨ k = 8 ∨ k = 9 ∨ k = 10 ∨ k = 11 ∨ k = 12 := by omega
    rcases h2 with rfl | rfl | rfl | rfl | rfl | rfl | rfl | rfl | rfl | rfl | rfl | rfl | rfl <;>
    simp only [en199, e199_0, e199_1, e199_3, e199_6, e199_9, e199_10, e199_12, e199_15, e199_18, e199_19, e199_21, e199_24, e199_27, e199_28, e199_30, e199_33, e199_36, e199_37, e199_39, e199_42, e199_45, e199_46, e199_48, e199_51, e199_54, e199_55, e199_57, e199_60, e199_63, e199_64, e199_65, e199_66, e199_68, e199_71, e199_74, e199_75, e199_77, e199_80, e199_83, e199_84, e199_86, e199_89, e199_92, e199_93, e199_95, e199_98, e199_101, e199_102, e199_104, e199_107, e199_110, e199_111, e199_113, e199_116, e199_119, e199_120, e199_123, e199_124, rk_n, rk_v, nl_n, nl_i, nl_r, cat_n, ip_cat_int, ip_cat_ref, ip_cat_long, ip_rf_some, Nat.reduceAdd, Nat.reduceLeDiff, Nat.reduceLT, Nat.le_refl, Nat.zero_le, M0, M1, M2, M3, M4, M5, M6, M7, M8, M9, M10, M11, M12, Nat.reduceEqDiff, (by decide : ¬ (1 : Int32) = 0), true_or, or_true, Bool.false_eq_true, Bool.true_eq_false, if_true, if_false, not_true_eq_false, not_false_eq_true, zle, eq_self]
  · rw [decide_eq_false h]
    have q : ¬ k = 0 ∧ ¬ k = 1 ∧ ¬ k = 2 ∧ ¬ k = 3 ∧ ¬ k = 4 ∧ ¬ k = 5 ∧ ¬ k = 6 ∧ ¬ k = 7 ∧ ¬ k = 8 ∧ ¬ k = 9 ∧ ¬ k = 10 ∧ ¬ k = 11 ∧ ¬ k = 12 := by omega
    simp only [en199, e199_0, e199_1, e199_3, e199_6, e199_9, e199_10, e199_12, e199_15, e199_18, e199_19, e199_21, e199_24, e199_27, e199_28, e199_30, e199_33, e199_36, e199_37, e199_39, e199_42, e199_45, e199_46, e199_48, e199_51, e199_54, e199_55, e199_57, e199_60, e199_63, e199_64, e199_65, e199_66, e199_68, e199_71, e199_74, e199_75, e199_77, e199_80, e199_83, e199_84, e199_86, e199_89, e199_92, e199_93, e199_95, e199_98, e199_101, e199_102, e199_104, e199_107, e199_110, e199_111, e199_113, e199_116, e199_119, e199_120, e199_123, e199_124, rk_n, rk_v, nl_n, nl_i, nl_r, cat_n, ip_cat_int, ip_cat_ref, ip_cat_long, ip_rf_some, Nat.reduceAdd, Nat.reduceLeDiff, Nat.reduceLT, Nat.le_refl, Nat.zero_le, M0, M1, M2, M3, M4, M5, M6, M7, M8, M9, M10, M11, M12, q, true_or, or_true, Bool.false_eq_true, Bool.true_eq_false, if_true, if_false, not_true_eq_false, not_false_eq_true, zle, eq_self]
theorem c198 (hR : LYR R) (ht : t ≤ 400) (hB : ∀ i, i < t → ¬ B i = -1) (X : RM B t a J) (ha : a ≤ t) (hs : skT B t a = p) : cf (d + 4) 198 [.ref 265] (SH n, J, L, R, nc, ns, nx) = some (.inl (some (.int (if kdT B t p = 13 then 1 else 0))), (SH n, atM J p, L, R, nc, ns, nx)) := by
  have C := fun d => c195 (d := d) (n := n) (L := L) (nc := nc) (ns := ns) (nx := nx) hR ht hB X ha hs
  have hp : p ≤ t := hs ▸ (skT_le ha).2
  have rl := rnn_le (P := lxL) (B := B) (t := t) _ p (Nat.le_refl _) hp
  have O := fun d => c199 (d := d) (n := n) (L := L) (nc := nc) (ns := ns) (nx := nx) hR ht hB (RM_at (p := p) X) hp (by rw [← hs, skT_sk ha])
  have g1 : (Int32.ofNat (rnn lxL B t p - p) ≤ 0) = ¬ (0 < rnn lxL B t p - p) := by
    apply propext
    constructor
    · intro e h; have := (nu_le (s := 0) (by omega) (by omega)).mp e; omega
    · intro e; exact (nu_le (s := 0) (by omega) (by omega)).mpr (by omega)
  have g2 : ((6 : Int32) < Int32.ofNat (rnn lxL B t p - p)) = ¬ (rnn lxL B t p - p ≤ 6) := by
    apply propext
    constructor
    · intro e h; have := (nu_lt (t := 6) (by omega) (by omega)).mp e; omega
    · intro e; exact (nu_lt (t := 6) (by omega) (by omega)).mpr (by omega)
  by_cases h : kdT B t p = 13
  · rw [if_pos h]
    obtain ⟨q1, q2, q3⟩ := kd_nm.mp h
    simp only [en198, e198_0, e198_1, e198_4, e198_5, e198_6, e198_9, e198_10, e198_12, e198_15, e198_16, e198_19, e198_22, e198_23, e198_26, e198_27, rk_n, rk_v, nl_n, nl_i, nl_r, cat_n, ip_cat_int, ip_cat_ref, ip_cat_long, ip_rf_some, Nat.reduceAdd, Nat.reduceLeDiff, Nat.reduceLT, Nat.le_refl, Nat.zero_le, C, O, g1, g2, q1, q2, q3, true_or, or_true, Bool.false_eq_true, Bool.true_eq_false, if_true, if_false, not_true_eq_false, not_false_eq_true, zle, eq_self]
  · rw [if_neg h]
    by_cases q1 : 0 < rnn lxL B t p - p
    · by_cases q2 : rnn lxL B t p - p ≤ 6
      · have q3 : own B t p = true := by
          cases e : own B t p with
          | true => rfl
          | false => exact absurd (kd_nm.mpr ⟨q1, q2, e⟩) h
        simp only [en198, e198_0, e198_1, e198_4, e198_5, e198_6, e198_9, e198_10, e198_12, e198_15, e198_16, e198_19, e198_22, e198_23, e198_26, e198_27, rk_n, rk_v, nl_n, nl_i, nl_r, cat_n, ip_cat_int, ip_cat_ref, ip_cat_long, ip_rf_some, Nat.reduceAdd, Nat.reduceLeDiff, Nat.reduceLT, Nat.le_refl, Nat.zero_le, C, O, g1, g2, q1, q2, q3, (by decide : ¬ (1 : Int32) = 0), true_or, or_true, Bool.false_eq_true, Bool.true_eq_false, if_true, if_false, not_true_eq_false, not_false_eq_true, zle, eq_self]
      · simp only [en198, e198_0, e198_1, e198_4, e198_5, e198_6, e198_9, e198_10, e198_12, e198_15, e198_16, e198_19, e198_22, e198_23, e198_26, e198_27, rk_n, rk_v, nl_n, nl_i, nl_r, cat_n, ip_cat_int, ip_cat_ref, ip_cat_long, ip_rf_some, Nat.reduceAdd, Nat.reduceLeDiff, Nat.reduceLT, Nat.le_refl, Nat.zero_le, C, g1, g2, q1, q2, true_or, or_true, Bool.false_eq_true, Bool.true_eq_false, if_true, if_false, not_true_eq_false, not_false_eq_true, zle, eq_self]
    · simp only [en198, e198_0, e198_1, e198_4, e198_5, e198_6, e198_9, e198_10, e198_12, e198_15, e198_16, e198_19, e198_22, e198_23, e198_26, e198_27, rk_n, rk_v, nl_n, nl_i, nl_r, cat_n, ip_cat_int, ip_cat_ref, ip_cat_long, ip_rf_some, Nat.reduceAdd, Nat.reduceLeDiff, Nat.reduceLT, Nat.le_refl, Nat.zero_le, C, g1, q1, true_or, or_true, Bool.false_eq_true, Bool.true_eq_false, if_true, if_false, not_true_eq_false, not_false_eq_true, zle, eq_self]
end MT
