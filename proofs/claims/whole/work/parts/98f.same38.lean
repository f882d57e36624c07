/-! CALL BY CALL: leaf, child -/
section S38
variable {n d a b T c s t z o w m p lev k side ap b0 b1 N q B C F A i : Nat} {I J K M I1 I2 : Nat → Nat → Int32} {L L' : Nat → Nat → Int64} {R R' : Nat → Nat → Option Nat} {nc ns : Nat} {nx : Bool} {x y j v u code x1 x2 x3 : Int32} {P : Nat → Nat → Prop} {h' h : ip_H} {r : Nat → Int32} {f g : Nat → Int32}
theorem nxt_big : ∀ q k q', c - k ≤ q → c - k ≤ q' → nxt f c x q k = nxt f c x q' k := by
  intro q
  induction q with
  | zero =>
    intro k q' h1 h2
    cases q' with
    | zero => rfl
    | succ q' => rw [nxt, nxt, if_neg (by omega)]
  | succ q ih =>
    intro k q' h1 h2
    cases q' with
    | zero => rw [nxt, nxt, if_neg (by omega)]
    | succ q' => rw [nxt, nxt, ih (k + 1) q' (by omega) (by omega)]
theorem nxt_ext : ∀ q k, (∀ i, i < c → f i = g i) → nxt f c x q k = nxt g c x q k := by
  intro q
  induction q with
  | zero => intro k _; rfl
  | succ q ih =>
    intro k h
    rw [nxt, nxt, ih _ h]
    by_cases hk : k < c
    · rw [h k hk]
    · rw [if_neg hk, if_neg hk]
theorem nxt_skip : ∀ m a q q', (∀ i, a ≤ i → i < a + m → i < c → ¬ f i = x) → c - a ≤ q → c - (a + m) ≤ q' → nxt f c x q a = nxt f c x q' (a + m) := by
  intro m
  induction m with
  | zero => intro a q q' _ h1 h2; exact nxt_big _ _ _ h1 h2
  | succ m ih =>
    intro a q q' h h1 h2
    rw [show a + (m + 1) = a + 1 + m by omega] at *
    rw [← ih (a + 1) (c - (a + 1)) q' (fun i h3 h4 => h i (by omega) (by omega)) (by omega) h2]
    cases q with
    | zero => rw [show c - (a + 1) = 0 by omega]; rfl
    | succ q =>
      rw [nxt]
      by_cases hk : a < c
      · rw [if_pos hk, if_neg (h a (by omega) (by omega) hk)]; exact nxt_big _ _ _ (by omega) (by omega)
      · rw [if_neg hk, show c - (a + 1) = 0 by omega]; rfl
theorem nxt_val : ∀ q k, nxt f c x q k = -1 ∨ ∃ j, k ≤ j ∧ j < c ∧ nxt f c x q k = Int32.ofNat j := by
  intro q
  induction q with
  | zero => intro k; exact Or.inl rfl
  | succ q ih =>
    intro k
    rw [nxt]
    by_cases hk : k < c
    · rw [if_pos hk]
      by_cases g : f k = x
      · rw [if_pos g]; exact Or.inr ⟨k, Nat.le_refl _, hk, rfl⟩
      · rw [if_neg g]
        rcases ih (k + 1) with h | ⟨j, h1, h2, h3⟩
        · exact Or.inl h
        · exact Or.inr ⟨j, by omega, h2, h3⟩
    · rw [if_neg hk]; exact Or.inl rfl
/-- children, in both: from one on -/
theorem kidC (X : REL T c N w t p I L R) (hk : k < N) (hq : q < N) : (∀ d n nc ns nx, cf d 27 [.ref 2, .int (Int32.ofNat k), .int (Int32.ofNat q)] (SH n, I, L, R, nc, ns, nx) = some (.inl (some (.int (nxt (fun k => I 290 k) N (Int32.ofNat k) 42 (q + 1)))), (SH n, I, L, R, nc, ns, nx))) ∧ (∀ d n K L' nc ns nx, K 265 37 = I 265 37 → (∀ i, K 290 i = I 290 i) → cf d 262 [.ref 265, .int (Int32.ofNat k), .int (Int32.ofNat q)] (SH n, K, L', R, nc, ns, nx) = some (.inl (some (.int (nxt (fun k => I 290 k) N (Int32.ofNat k) 42 (q + 1)))), (SH n, K, L', R, nc, ns, nx))) ∧ nxt (fun k => I 290 k) N (Int32.ofNat k) 42 (k + 1) = nxt (fun k => I 290 k) N (Int32.ofNat k) 42 (0 + 1) := by
  have hR := X.1
  obtain ⟨⟨n1, n2, n3⟩, ⟨y1, y2⟩, ⟨y3, y4⟩, y5⟩ := X.2.2.1
  refine ⟨fun d n nc ns nx => ?_, fun d n K L' nc ns nx h1 h2 => ?_, ?_⟩
  · rw [c27 hR y1 n2 (by omega), nxt_ext (g := fun k => I 290 k) _ _ (fun i hi => (y5 i hi).2.1.1)]
  · rw [c262 hR (h1.trans y2) n2 (by omega), nxt_ext (g := fun k => I 290 k) _ _ (fun i hi => h2 i)]
  · rw [show k + 1 = (0 + 1) + k by omega]
    symm
    refine nxt_skip k (0 + 1) 42 42 (fun i h1 h2 h3 e => ?_) (by omega) (by omega)
    obtain ⟨q, z1, z2, z3⟩ := (y5 i h3).2.1.2.2 (by omega)
    have e : I 290 i = Int32.ofNat k := e
    rw [z2] at e
    have := (nu_inj (by omega) (by omega)).mp e
    omega
theorem t38 (X : REL T c N w t p I L R) (hk : k < N) (hx : ¬ x2 < 0) : ∀ m j i, N - j ≤ m → j < N → i < 2147483648 → ∃ v : Int32, (N ≤ j + i → v = -1) ∧ (∀ d n nc ns nx y, rf (d + 1) 182 27 [some (.ref 2), some (.int (Int32.ofNat k)), some (.int y), some (.int (Int32.ofNat j)), some (.int (Int32.ofNat i))] [] (SH n, I, L, R, nc, ns, nx) = some (.inl (some (.int v)), (SH n, I, L, R, nc, ns, nx))) ∧ (∀ d n L' nc ns nx, rf (d + 1) 282 36 [some (.ref 265), some (.int (Int32.ofNat k)), some (.int x2), some (.int (Int32.ofNat i)), some (.int (Int32.ofNat j))] [] (SH n, ip_up I 265 0 0, L', R, nc, ns, nx) = some (.inl (some (.int v)), (SH n, ip_up I 265 0 0, L', R, nc, ns, nx))) := by
  have n2 : N ≤ 40 := X.2.2.1.1.2.1
  intro m
  induction m with
  | zero => intro j i h1 h2; omega
  | succ m ih =>
    intro j i h1 h2 h3
    obtain ⟨K1, K2, -⟩ := kidC X hk h2
    have em := nu_m1 (t := j) (by omega)
    by_cases i0 : i = 0
    · subst i0
      have l0 : Int32.ofNat 0 ≤ 0 := by decide
      have l1 : Int32.ofNat 0 = 0 := rfl
      refine ⟨Int32.ofNat j, fun h => by omega, fun d n nc ns nx y => ?_, fun d n L' nc ns nx => ?_⟩
      · rw [e182_27]
        simp only [e182_0, e182_1, e182_2, e182_5, e182_6, e182_9, e182_10, e182_12, e182_15, e182_16, e182_17, e182_18, e182_19, e182_20, e182_23, e182_24, e182_25, e182_29, e182_32, e182_33, e182_34, e182_37, e182_38, e182_39, e182_40, e182_43, e182_44, e182_47, e182_50, e182_51, rk_n, rk_v, nl_n, nl_i, nl_r, cat_n, ip_cat_int, ip_cat_ref, ip_cat_long, ip_rf_some, Nat.reduceAdd, Nat.reduceLeDiff, Nat.reduceLT, Nat.le_refl, Nat.zero_le, l0, Bool.false_eq_true, Bool.true_eq_false, if_true, if_false, not_true_eq_false, not_false_eq_true, zle, eq_self]
      · rw [e282_36]
        simp only [e282_0, e282_1, e282_2, e282_3, e282_6, e282_9, e282_10, e282_13, e282_14, e282_17, e282_18, e282_21, e282_24, e282_25, e282_26, e282_27, e282_28, e282_29, e282_30, e282_31, e282_34, e282_38, e282_39, e282_42, e282_43, e282_46, e282_47, e282_50, e282_52, e282_53, e282_56, e282_57, e282_58, e282_60, e282_63, e282_65, e282_68, e282_69, rk_n, rk_v, nl_n, nl_i, nl_r, cat_n, ip_cat_int, ip_cat_ref, ip_cat_long, ip_rf_some, Nat.reduceAdd, Nat.reduceLeDiff, Nat.reduceLT, Nat.le_refl, Nat.zero_le, em, hx, l1, Bool.false_eq_true, Bool.true_eq_false, if_true, if_false, not_true_eq_false, not_false_eq_true, zle, eq_self]
    · have l0 : (Int32.ofNat i ≤ 0) = (i ≤ 0) := propext (nu_le (s := 0) h3 (by omega))
      have l1 : (Int32.ofNat i = 0) = (i = 0) := propext (nu_inj (s := 0) h3 (by omega))
      have l2 : ¬ i ≤ 0 := by omega
      have l3 : Int32.ofNat i + -1 = Int32.ofNat (i - 1) := by
        obtain ⟨i', rfl⟩ : ∃ i', i = i' + 1 := ⟨i - 1, by omega⟩
        rw [← nu_add (s := 1), Int32.add_assoc]
        show Int32.ofNat i' + (1 + -1) = _
        rw [show (1 : Int32) + -1 = 0 from rfl, Int32.add_zero]
        rfl
      rcases nxt_val (f := fun k => I 290 k) (c := N) (x := Int32.ofNat k) 42 (j + 1) with e | ⟨j', z1, z2, e⟩
      · rw [e] at K1 K2
        have K2' := fun d n L' nc ns nx => K2 d n (ip_up I 265 0 0) L' nc ns nx (up_k (by decide)) (fun i => up_a (by decide))
        refine ⟨-1, fun _ => rfl, fun d n nc ns nx y => ?_, fun d n L' nc ns nx => ?_⟩
        · rw [e182_27]
          simp only [e182_0, e182_1, e182_2, e182_5, e182_6, e182_9, e182_10, e182_12, e182_15, e182_16, e182_17, e182_18, e182_19, e182_20, e182_23, e182_24, e182_25, e182_29, e182_32, e182_33, e182_34, e182_37, e182_38, e182_39, e182_40, e182_43, e182_44, e182_47, e182_50, e182_51, rk_n, rk_v, nl_n, nl_i, nl_r, cat_n, ip_cat_int, ip_cat_ref, ip_cat_long, ip_rf_some, Nat.reduceAdd, Nat.reduceLeDiff, Nat.reduceLT, Nat.le_refl, Nat.zero_le, l0, l2, l3, em, K1, Bool.false_eq_true, Bool.true_eq_false, if_true, if_false, not_true_eq_false, not_false_eq_true, zle, eq_self]
          rw [e182_27]
          by_cases g : Int32.ofNat (i - 1) ≤ 0
          · simp only [e182_0, e182_1, e182_2, e182_5, e182_6, e182_9, e182_10, e182_12, e182_15, e182_16, e182_17, e182_18, e182_19, e182_20, e182_23, e182_24, e182_25, e182_29, e182_32, e182_33, e182_34, e182_37, e182_38, e182_39, e182_40, e182_43, e182_44, e182_47, e182_50, e182_51, rk_n, rk_v, nl_n, nl_i, nl_r, cat_n, ip_cat_int, ip_cat_ref, ip_cat_long, ip_rf_some, Nat.reduceAdd, Nat.reduceLeDiff, Nat.reduceLT, Nat.le_refl, Nat.zero_le, g, Bool.false_eq_true, Bool.true_eq_false, if_true, if_false, not_true_eq_false, not_false_eq_true, zle, eq_self]
          · simp only [e182_0, e182_1, e182_2, e182_5, e182_6, e182_9, e182_10, e182_12, e182_15, e182_16, e182_17, e182_18, e182_19, e182_20, e182_23, e182_24, e182_25, e182_29, e182_32, e182_33, e182_34, e182_37, e182_38, e182_39, e182_40, e182_43, e182_44, e182_47, e182_50, e182_51, rk_n, rk_v, nl_n, nl_i, nl_r, cat_n, ip_cat_int, ip_cat_ref, ip_cat_long, ip_rf_some, Nat.reduceAdd, Nat.reduceLeDiff, Nat.reduceLT, Nat.le_refl, Nat.zero_le, g, Bool.false_eq_true, Bool.true_eq_false, if_true, if_false, not_true_eq_false, not_false_eq_true, zle, eq_self]
        · rw [e282_36]
          simp only [e282_0, e282_1, e282_2, e282_3, e282_6, e282_9, e282_10, e282_13, e282_14, e282_17, e282_18, e282_21, e282_24, e282_25, e282_26, e282_27, e282_28, e282_29, e282_30, e282_31, e282_34, e282_38, e282_39, e282_42, e282_43, e282_46, e282_47, e282_50, e282_52, e282_53, e282_56, e282_57, e282_58, e282_60, e282_63, e282_65, e282_68, e282_69, rk_n, rk_v, nl_n, nl_i, nl_r, cat_n, ip_cat_int, ip_cat_ref, ip_cat_long, ip_rf_some, Nat.reduceAdd, Nat.reduceLeDiff, Nat.reduceLT, Nat.le_refl, Nat.zero_le, em, hx, i0, l1, l3, K2', Bool.false_eq_true, Bool.true_eq_false, if_true, if_false, not_true_eq_false, not_false_eq_true, zle, eq_self]
          rw [e282_36]
          simp only [e282_0, e282_1, e282_2, e282_3, e282_6, e282_9, e282_10, e282_13, e282_14, e282_17, e282_18, e282_21, e282_24, e282_25, e282_26, e282_27, e282_28, e282_29, e282_30, e282_31, e282_34, e282_38, e282_39, e282_42, e282_43, e282_46, e282_47, e282_50, e282_52, e282_53, e282_56, e282_57, e282_58, e282_60, e282_63, e282_65, e282_68, e282_69, rk_n, rk_v, nl_n, nl_i, nl_r, cat_n, ip_cat_int, ip_cat_ref, ip_cat_long, ip_rf_some, Nat.reduceAdd, Nat.reduceLeDiff, Nat.reduceLT, Nat.le_refl, Nat.zero_le, Bool.false_eq_true, Bool.true_eq_false, if_true, if_false, not_true_eq_false, not_false_eq_true, zle, eq_self]
      · rw [e] at K1 K2
        have K2' := fun d n L' nc ns nx => K2 d n (ip_up I 265 0 0) L' nc ns nx (up_k (by decide)) (fun i => up_a (by decide))
        obtain ⟨v, V0, V1, V2⟩ := ih j' (i - 1) (by omega) z2 (by omega)
        refine ⟨v, fun h => V0 (by omega), fun d n nc ns nx y => ?_, fun d n L' nc ns nx => ?_⟩
        · rw [e182_27, ← V1 d n nc ns nx y]
          simp only [e182_0, e182_1, e182_2, e182_5, e182_6, e182_9, e182_10, e182_12, e182_15, e182_16, e182_17, e182_18, e182_19, e182_20, e182_23, e182_24, e182_25, e182_29, e182_32, e182_33, e182_34, e182_37, e182_38, e182_39, e182_40, e182_43, e182_44, e182_47, e182_50, e182_51, rk_n, rk_v, nl_n, nl_i, nl_r, cat_n, ip_cat_int, ip_cat_ref, ip_cat_long, ip_rf_some, Nat.reduceAdd, Nat.reduceLeDiff, Nat.reduceLT, Nat.le_refl, Nat.zero_le, l0, l2, l3, em, K1, Bool.false_eq_true, Bool.true_eq_false, if_true, if_false, not_true_eq_false, not_false_eq_true, zle, eq_self]
        · rw [e282_36, ← V2 d n L' nc ns nx]
          simp only [e282_0, e282_1, e282_2, e282_3, e282_6, e282_9, e282_10, e282_13, e282_14, e282_17, e282_18, e282_21, e282_24, e282_25, e282_26, e282_27, e282_28, e282_29, e282_30, e282_31, e282_34, e282_38, e282_39, e282_42, e282_43, e282_46, e282_47, e282_50, e282_52, e282_53, e282_56, e282_57, e282_58, e282_60, e282_63, e282_65, e282_68, e282_69, rk_n, rk_v, nl_n, nl_i, nl_r, cat_n, ip_cat_int, ip_cat_ref, ip_cat_long, ip_rf_some, Nat.reduceAdd, Nat.reduceLeDiff, Nat.reduceLT, Nat.le_refl, Nat.zero_le, em, hx, i0, l1, l3, K2', Bool.false_eq_true, Bool.true_eq_false, if_true, if_false, not_true_eq_false, not_false_eq_true, zle, eq_self]
theorem S38 : SAMEX 181 282 [.int x1, .int x2] Int32.toInt64 := by
  intro n I L R nc ns nx T c N w t p X
  have X0 := X
  have hR := X.1
  obtain ⟨⟨n1, n2, n3⟩, ⟨y1, y2⟩, ⟨y3, y4⟩, y5⟩ := X.2.2.1
  rcases nodC (x := x1) X with ⟨k, hk, rfl, C1, M1⟩ | ⟨C1, M1⟩
  · obtain ⟨K1, -, K3⟩ := kidC X hk hk
    obtain ⟨-, K2, -⟩ := kidC X hk (q := 0) (by omega)
    rw [K3] at K1
    have K2' := fun d n L' nc ns nx => K2 d n (ip_up I 265 0 0) L' nc ns nx (up_k (by decide)) (fun i => up_a (by decide))
    have K2' : ∀ d n L' nc ns nx, cf d 262 [.ref 265, .int (Int32.ofNat k), .int 0] (SH n, ip_up I 265 0 0, L', R, nc, ns, nx) = some (.inl (some (.int (nxt (fun k => I 290 k) N (Int32.ofNat k) 42 (0 + 1)))), (SH n, ip_up I 265 0 0, L', R, nc, ns, nx)) := K2'
    by_cases g0 : x2 < 0
    · refine same_ok (I1 := I) (I2 := ip_up I 265 0 0) (u := -1) (R1 := R) (nx1 := nx) X0 _ rfl (fun d => w181 ?_) onlyP_refl (fun _ _ _ => rfl) (fun d => ?_) scM_0 up_eq
      · simp only [en182, e182_0, e182_1, e182_2, e182_5, e182_6, e182_9, e182_10, e182_12, e182_15, e182_16, e182_17, e182_18, e182_19, e182_20, e182_23, e182_24, e182_25, e182_29, e182_32, e182_33, e182_34, e182_37, e182_38, e182_39, e182_40, e182_43, e182_44, e182_47, e182_50, e182_51, rk_n, rk_v, nl_n, nl_i, nl_r, cat_n, ip_cat_int, ip_cat_ref, ip_cat_long, ip_rf_some, Nat.reduceAdd, Nat.reduceLeDiff, Nat.reduceLT, Nat.le_refl, Nat.zero_le, C1, g0, Bool.false_eq_true, Bool.true_eq_false, if_true, if_false, not_true_eq_false, not_false_eq_true, zle, eq_self]
      · simp only [en282, e282_0, e282_1, e282_2, e282_3, e282_6, e282_9, e282_10, e282_13, e282_14, e282_17, e282_18, e282_21, e282_24, e282_25, e282_26, e282_27, e282_28, e282_29, e282_30, e282_31, e282_34, e282_38, e282_39, e282_42, e282_43, e282_46, e282_47, e282_50, e282_52, e282_53, e282_56, e282_57, e282_58, e282_60, e282_63, e282_65, e282_68, e282_69, rk_n, rk_v, nl_n, nl_i, nl_r, cat_n, ip_cat_int, ip_cat_ref, ip_cat_long, ip_rf_some, Nat.reduceAdd, Nat.reduceLeDiff, Nat.reduceLT, Nat.le_refl, Nat.zero_le, M1 _ _ _ _ _ _ _ _ rfl, K2', up_eq, true_or, or_true, Bool.false_eq_true, Bool.true_eq_false, if_true, if_false, not_true_eq_false, not_false_eq_true, zle, eq_self]
        rw [e282_36]
        by_cases g1 : nxt (fun k => I 290 k) N (Int32.ofNat k) 42 (0 + 1) = -1
        · simp only [e282_0, e282_1, e282_2, e282_3, e282_6, e282_9, e282_10, e282_13, e282_14, e282_17, e282_18, e282_21, e282_24, e282_25, e282_26, e282_27, e282_28, e282_29, e282_30, e282_31, e282_34, e282_38, e282_39, e282_42, e282_43, e282_46, e282_47, e282_50, e282_52, e282_53, e282_56, e282_57, e282_58, e282_60, e282_63, e282_65, e282_68, e282_69, rk_n, rk_v, nl_n, nl_i, nl_r, cat_n, ip_cat_int, ip_cat_ref, ip_cat_long, ip_rf_some, Nat.reduceAdd, Nat.reduceLeDiff, Nat.reduceLT, Nat.le_refl, Nat.zero_le, g1, Bool.false_eq_true, Bool.true_eq_false, if_true, if_false, not_true_eq_false, not_false_eq_true, zle, eq_self]
        · simp only [e282_0, e282_1, e282_2, e282_3, e282_6, e282_9, e282_10, e282_13, e282_14, e282_17, e282_18, e282_21, e282_24, e282_25, e282_26, e282_27, e282_28, e282_29, e282_30, e282_31, e282_34, e282_38, e282_39, e282_42, e282_43, e282_46, e282_47, e282_50, e282_52, e282_53, e282_56, e282_57, e282_58, e282_60, e282_63, e282_65, e282_68, e282_69, rk_n, rk_v, nl_n, nl_i, nl_r, cat_n, ip_cat_int, ip_cat_ref, ip_cat_long, ip_rf_some, Nat.reduceAdd, Nat.reduceLeDiff, Nat.reduceLT, Nat.le_refl, Nat.zero_le, g0, g1, Bool.false_eq_true, Bool.true_eq_false, if_true, if_false, not_true_eq_false, not_false_eq_true, zle, eq_self]
    · obtain ⟨i, hi, rfl⟩ := nu_of g0
      have g1 : (Int32.ofNat i < 40) = (i < 40) := propext (nu_lt (s := 40) hi (by omega))
      have AN : ∃ v : Int32, (40 ≤ i → v = -1) ∧ (i < 40 → ∀ d n nc ns nx y, rf (d + 1) 182 27 [some (.ref 2), some (.int (Int32.ofNat k)), some (.int y), some (.int (nxt (fun k => I 290 k) N (Int32.ofNat k) 42 (0 + 1))), some (.int (Int32.ofNat i))] [] (SH n, I, L, R, nc, ns, nx) = some (.inl (some (.int v)), (SH n, I, L, R, nc, ns, nx))) ∧ (∀ d n L' nc ns nx, rf (d + 1) 282 36 [some (.ref 265), some (.int (Int32.ofNat k)), some (.int (Int32.ofNat i)), some (.int (Int32.ofNat i)), some (.int (nxt (fun k => I 290 k) N (Int32.ofNat k) 42 (0 + 1)))] [] (SH n, ip_up I 265 0 0, L', R, nc, ns, nx) = some (.inl (some (.int v)), (SH n, ip_up I 265 0 0, L', R, nc, ns, nx))) := by
        rcases nxt_val (f := fun k => I 290 k) (c := N) (x := Int32.ofNat k) 42 (0 + 1) with e | ⟨j', z1, z2, e⟩
        · rw [e]
          refine ⟨-1, fun _ => rfl, fun _ d n nc ns nx y => ?_, fun d n L' nc ns nx => ?_⟩
          · rw [e182_27]
            by_cases g : Int32.ofNat i ≤ 0
            · simp only [e182_0, e182_1, e182_2, e182_5, e182_6, e182_9, e182_10, e182_12, e182_15, e182_16, e182_17, e182_18, e182_19, e182_20, e182_23, e182_24, e182_25, e182_29, e182_32, e182_33, e182_34, e182_37, e182_38, e182_39, e182_40, e182_43, e182_44, e182_47, e182_50, e182_51, rk_n, rk_v, nl_n, nl_i, nl_r, cat_n, ip_cat_int, ip_cat_ref, ip_cat_long, ip_rf_some, Nat.reduceAdd, Nat.reduceLeDiff, Nat.reduceLT, Nat.le_refl, Nat.zero_le, g, Bool.false_eq_true, Bool.true_eq_false, if_true, if_false, not_true_eq_false, not_false_eq_true, zle, eq_self]
            · simp only [e182_0, e182_1, e182_2, e182_5, e182_6, e182_9, e182_10, e182_12, e182_15, e182_16, e182_17, e182_18, e182_19, e182_20, e182_23, e182_24, e182_25, e182_29, e182_32, e182_33, e182_34, e182_37, e182_38, e182_39, e182_40, e182_43, e182_44, e182_47, e182_50, e182_51, rk_n, rk_v, nl_n, nl_i, nl_r, cat_n, ip_cat_int, ip_cat_ref, ip_cat_long, ip_rf_some, Nat.reduceAdd, Nat.reduceLeDiff, Nat.reduceLT, Nat.le_refl, Nat.zero_le, g, Bool.false_eq_true, Bool.true_eq_false, if_true, if_false, not_true_eq_false, not_false_eq_true, zle, eq_self]
          · rw [e282_36]
            simp only [e282_0, e282_1, e282_2, e282_3, e282_6, e282_9, e282_10, e282_13, e282_14, e282_17, e282_18, e282_21, e282_24, e282_25, e282_26, e282_27, e282_28, e282_29, e282_30, e282_31, e282_34, e282_38, e282_39, e282_42, e282_43, e282_46, e282_47, e282_50, e282_52, e282_53, e282_56, e282_57, e282_58, e282_60, e282_63, e282_65, e282_68, e282_69, rk_n, rk_v, nl_n, nl_i, nl_r, cat_n, ip_cat_int, ip_cat_ref, ip_cat_long, ip_rf_some, Nat.reduceAdd, Nat.reduceLeDiff, Nat.reduceLT, Nat.le_refl, Nat.zero_le, Bool.false_eq_true, Bool.true_eq_false, if_true, if_false, not_true_eq_false, not_false_eq_true, zle, eq_self]
        · rw [e]
          obtain ⟨v, V0, V1, V2⟩ := t38 (x2 := Int32.ofNat i) X hk g0 (N - j') j' i (Nat.le_refl _) z2 hi
          exact ⟨v, fun h => V0 (by omega), fun _ => V1, V2⟩
      obtain ⟨v, V0, V1, V2⟩ := AN
      refine same_ok (I1 := I) (I2 := ip_up I 265 0 0) (u := v) (R1 := R) (nx1 := nx) X0 _ rfl (fun d => w181 ?_) onlyP_refl (fun _ _ _ => rfl) (fun d => ?_) scM_0 up_eq
      · by_cases g2 : i < 40
        · simp only [en182, e182_0, e182_1, e182_2, e182_5, e182_6, e182_9, e182_10, e182_12, e182_15, e182_16, e182_17, e182_18, e182_19, e182_20, e182_23, e182_24, e182_25, e182_29, e182_32, e182_33, e182_34, e182_37, e182_38, e182_39, e182_40, e182_43, e182_44, e182_47, e182_50, e182_51, rk_n, rk_v, nl_n, nl_i, nl_r, cat_n, ip_cat_int, ip_cat_ref, ip_cat_long, ip_rf_some, Nat.reduceAdd, Nat.reduceLeDiff, Nat.reduceLT, Nat.le_refl, Nat.zero_le, C1, g0, g1, g2, K1, V1 g2, Bool.false_eq_true, Bool.true_eq_false, if_true, if_false, not_true_eq_false, not_false_eq_true, zle, eq_self]
        · rw [V0 (by omega)]
          simp only [en182, e182_0, e182_1, e182_2, e182_5, e182_6, e182_9, e182_10, e182_12, e182_15, e182_16, e182_17, e182_18, e182_19, e182_20, e182_23, e182_24, e182_25, e182_29, e182_32, e182_33, e182_34, e182_37, e182_38, e182_39, e182_40, e182_43, e182_44, e182_47, e182_50, e182_51, rk_n, rk_v, nl_n, nl_i, nl_r, cat_n, ip_cat_int, ip_cat_ref, ip_cat_long, ip_rf_some, Nat.reduceAdd, Nat.reduceLeDiff, Nat.reduceLT, Nat.le_refl, Nat.zero_le, C1, g0, g1, g2, Bool.false_eq_true, Bool.true_eq_false, if_true, if_false, not_true_eq_false, not_false_eq_true, zle, eq_self]
      · simp only [en282, e282_0, e282_1, e282_2, e282_3, e282_6, e282_9, e282_10, e282_13, e282_14, e282_17, e282_18, e282_21, e282_24, e282_25, e282_26, e282_27, e282_28, e282_29, e282_30, e282_31, e282_34, e282_38, e282_39, e282_42, e282_43, e282_46, e282_47, e282_50, e282_52, e282_53, e282_56, e282_57, e282_58, e282_60, e282_63, e282_65, e282_68, e282_69, rk_n, rk_v, nl_n, nl_i, nl_r, cat_n, ip_cat_int, ip_cat_ref, ip_cat_long, ip_rf_some, Nat.reduceAdd, Nat.reduceLeDiff, Nat.reduceLT, Nat.le_refl, Nat.zero_le, M1 _ _ _ _ _ _ _ _ rfl, K2', V2, up_eq, true_or, or_true, Bool.false_eq_true, Bool.true_eq_false, if_true, if_false, not_true_eq_false, not_false_eq_true, zle, eq_self]
  · refine same_x (I1 := I) (I2 := ip_up I 265 0 1) (u := 0) (R1 := R) (code := 1) X0 (by decide) (fun d => ?_) onlyP_refl (fun _ _ _ => rfl) (fun d => ?_) scM_0 up_eq
    · refine w181x1 (d := d + 13) ?_
      simp only [en182, e182_0, e182_1, e182_2, e182_5, e182_6, e182_9, e182_10, e182_12, e182_15, e182_16, e182_17, e182_18, e182_19, e182_20, e182_23, e182_24, e182_25, e182_29, e182_32, e182_33, e182_34, e182_37, e182_38, e182_39, e182_40, e182_43, e182_44, e182_47, e182_50, e182_51, rk_n, rk_v, nl_n, nl_i, nl_r, cat_n, ip_cat_int, ip_cat_ref, ip_cat_long, ip_rf_some, Nat.reduceAdd, Nat.reduceLeDiff, Nat.reduceLT, Nat.le_refl, Nat.zero_le, C1, rk_x hh182, Bool.false_eq_true, Bool.true_eq_false, if_true, if_false, not_true_eq_false, not_false_eq_true, zle, eq_self]
      rfl
    · simp only [en282, e282_0, e282_1, e282_2, e282_3, e282_6, e282_9, e282_10, e282_13, e282_14, e282_17, e282_18, e282_21, e282_24, e282_25, e282_26, e282_27, e282_28, e282_29, e282_30, e282_31, e282_34, e282_38, e282_39, e282_42, e282_43, e282_46, e282_47, e282_50, e282_52, e282_53, e282_56, e282_57, e282_58, e282_60, e282_63, e282_65, e282_68, e282_69, rk_n, rk_v, nl_n, nl_i, nl_r, cat_n, ip_cat_int, ip_cat_ref, ip_cat_long, ip_rf_some, Nat.reduceAdd, Nat.reduceLeDiff, Nat.reduceLT, Nat.le_refl, Nat.zero_le, M1 _ _ _ _ _ _ _ _ rfl, up_eq, true_or, Bool.false_eq_true, Bool.true_eq_false, if_true, if_false, not_true_eq_false, not_false_eq_true, zle, eq_self]
theorem pred_n {i : Nat} (h : ¬ i = 0) : Int32.ofNat i + -1 = Int32.ofNat (i - 1) := by
  obtain ⟨i', rfl⟩ : ∃ i', i = i' + 1 := ⟨i - 1, by omega⟩
  rw [← nu_add (s := 1), Int32.add_assoc]
  show Int32.ofNat i' + (1 + -1) = _
  rw [show (1 : Int32) + -1 = 0 from rfl, Int32.add_zero]
  rfl
theorem t34 (X : REL T c N w t p I L R) (hx : ¬ x2 < 0) : ∀ m j i, N - j ≤ m → j ≤ N → i < 2147483648 → ∃ v : Int32, (∀ d n nc ns nx y, rf (d + 1) 26 4 [some (.ref 2), some (.int y), some (.int (Int32.ofNat i)), some (.int (Int32.ofNat j))] [] (SH n, I, L, R, nc, ns, nx) = some (.inl (some (.int v)), (SH n, I, L, R, nc, ns, nx))) ∧ (∀ d n L' nc ns nx, rf (d + 1) 261 9 [some (.ref 265), some (.int x2), some (.int (Int32.ofNat i)), some (.int (Int32.ofNat j))] [] (SH n, ip_up I 265 0 0, L', R, nc, ns, nx) = some (.inl (some (.int v)), (SH n, ip_up I 265 0 0, L', R, nc, ns, nx))) := by
  obtain ⟨⟨n1, n2, n3⟩, ⟨y1, y2⟩, -, -⟩ := X.2.2.1
  intro m
  induction m with
  | zero =>
    intro j i h1 h2 h3
    have g : ((Int32.ofNat N : Int32) ≤ Int32.ofNat j) = (N ≤ j) := nu_lit (by omega) (by omega)
    have g1 : N ≤ j := by omega
    have y2' : ip_up I 265 0 0 265 37 = Int32.ofNat N := (up_k (by decide)).trans y2
    refine ⟨-1, fun d n nc ns nx y => ?_, fun d n L' nc ns nx => ?_⟩
    · rw [e26_4]
      simp only [e26_0, e26_1, e26_2, e26_3, e26_5, e26_6, e26_9, e26_12, e26_13, e26_16, e26_17, e26_18, e26_19, e26_22, e26_23, e26_26, e26_27, e26_30, e26_31, e26_32, e26_35, e26_38, e26_41, e26_42, rk_n, rk_v, nl_n, nl_i, nl_r, cat_n, ip_cat_int, ip_cat_ref, ip_cat_long, ip_rf_some, Nat.reduceAdd, Nat.reduceLeDiff, Nat.reduceLT, Nat.le_refl, Nat.zero_le, y1, g, g1, Bool.false_eq_true, Bool.true_eq_false, if_true, if_false, not_true_eq_false, not_false_eq_true, zle, eq_self]
    · rw [e261_9]
      simp only [e261_0, e261_1, e261_2, e261_5, e261_6, e261_7, e261_8, e261_10, e261_11, e261_14, e261_17, e261_18, e261_21, e261_22, e261_23, e261_24, e261_27, e261_28, e261_31, e261_34, e261_35, e261_38, e261_39, e261_40, e261_43, e261_46, e261_49, e261_50, rk_n, rk_v, nl_n, nl_i, nl_r, cat_n, ip_cat_int, ip_cat_ref, ip_cat_long, ip_rf_some, Nat.reduceAdd, Nat.reduceLeDiff, Nat.reduceLT, Nat.le_refl, Nat.zero_le, y2', g, g1, Bool.false_eq_true, Bool.true_eq_false, if_true, if_false, not_true_eq_false, not_false_eq_true, zle, eq_self]
  | succ m ih =>
    intro j i h1 h2 h3
    have g : ((Int32.ofNat N : Int32) ≤ Int32.ofNat j) = (N ≤ j) := nu_lit (by omega) (by omega)
    have y2' : ip_up I 265 0 0 265 37 = Int32.ofNat N := (up_k (by decide)).trans y2
    by_cases hj : N ≤ j
    · exact ih j i (by omega) h2 h3
    · obtain ⟨K1, -, K3⟩ := kidC X (k := j) (q := j) (by omega) (by omega)
      obtain ⟨-, K2, -⟩ := kidC X (k := j) (q := 0) (by omega) (by omega)
      rw [K3] at K1
      have K2' : ∀ d n L' nc ns nx, cf d 262 [.ref 265, .int (Int32.ofNat j), .int 0] (SH n, ip_up I 265 0 0, L', R, nc, ns, nx) = some (.inl (some (.int (nxt (fun k => I 290 k) N (Int32.ofNat j) 42 (0 + 1)))), (SH n, ip_up I 265 0 0, L', R, nc, ns, nx)) := fun d n L' nc ns nx => K2 d n (ip_up I 265 0 0) L' nc ns nx (up_k (by decide)) (fun i => up_a (by decide))
      have nn := nu_nn h3
      have a1 : Int32.ofNat j + 1 = Int32.ofNat (j + 1) := nu_add (s := 1)
      by_cases g1 : nxt (fun k => I 290 k) N (Int32.ofNat j) 42 (0 + 1) = -1
      · by_cases i0 : i = 0
        · subst i0
          have l1 : Int32.ofNat 0 = 0 := rfl
          have nn' : ¬ (0 : Int32) < 0 := by decide
          refine ⟨Int32.ofNat j, fun d n nc ns nx y => ?_, fun d n L' nc ns nx => ?_⟩
          · rw [e26_4]
            simp only [e26_0, e26_1, e26_2, e26_3, e26_5, e26_6, e26_9, e26_12, e26_13, e26_16, e26_17, e26_18, e26_19, e26_22, e26_23, e26_26, e26_27, e26_30, e26_31, e26_32, e26_35, e26_38, e26_41, e26_42, rk_n, rk_v, nl_n, nl_i, nl_r, cat_n, ip_cat_int, ip_cat_ref, ip_cat_long, ip_rf_some, Nat.reduceAdd, Nat.reduceLeDiff, Nat.reduceLT, Nat.le_refl, Nat.zero_le, y1, g, hj, nn', l1, K1, g1, Bool.false_eq_true, Bool.true_eq_false, if_true, if_false, not_true_eq_false, not_false_eq_true, zle, eq_self]
          · rw [e261_9]
            simp only [e261_0, e261_1, e261_2, e261_5, e261_6, e261_7, e261_8, e261_10, e261_11, e261_14, e261_17, e261_18, e261_21, e261_22, e261_23, e261_24, e261_27, e261_28, e261_31, e261_34, e261_35, e261_38, e261_39, e261_40, e261_43, e261_46, e261_49, e261_50, rk_n, rk_v, nl_n, nl_i, nl_r, cat_n, ip_cat_int, ip_cat_ref, ip_cat_long, ip_rf_some, Nat.reduceAdd, Nat.reduceLeDiff, Nat.reduceLT, Nat.le_refl, Nat.zero_le, y2', g, hj, hx, l1, K2', g1, Bool.false_eq_true, Bool.true_eq_false, if_true, if_false, not_true_eq_false, not_false_eq_true, zle, eq_self]
        · have l1 : (Int32.ofNat i = 0) = (i = 0) := propext (nu_inj (s := 0) h3 (by omega))
          have l3 := pred_n i0
          obtain ⟨v, V1, V2⟩ := ih (j + 1) (i - 1) (by omega) (by omega) (by omega)
          refine ⟨v, fun d n nc ns nx y => ?_, fun d n L' nc ns nx => ?_⟩
          · rw [e26_4, ← V1 d n nc ns nx y]
            simp only [e26_0, e26_1, e26_2, e26_3, e26_5, e26_6, e26_9, e26_12, e26_13, e26_16, e26_17, e26_18, e26_19, e26_22, e26_23, e26_26, e26_27, e26_30, e26_31, e26_32, e26_35, e26_38, e26_41, e26_42, rk_n, rk_v, nl_n, nl_i, nl_r, cat_n, ip_cat_int, ip_cat_ref, ip_cat_long, ip_rf_some, Nat.reduceAdd, Nat.reduceLeDiff, Nat.reduceLT, Nat.le_refl, Nat.zero_le, y1, g, hj, nn, l1, i0, l3, a1, K1, g1, Bool.false_eq_true, Bool.true_eq_false, if_true, if_false, not_true_eq_false, not_false_eq_true, zle, eq_self]
          · rw [e261_9, ← V2 d n L' nc ns nx]
            simp only [e261_0, e261_1, e261_2, e261_5, e261_6, e261_7, e261_8, e261_10, e261_11, e261_14, e261_17, e261_18, e261_21, e261_22, e261_23, e261_24, e261_27, e261_28, e261_31, e261_34, e261_35, e261_38, e261_39, e261_40, e261_43, e261_46, e261_49, e261_50, rk_n, rk_v, nl_n, nl_i, nl_r, cat_n, ip_cat_int, ip_cat_ref, ip_cat_long, ip_rf_some, Nat.reduceAdd, Nat.reduceLeDiff, Nat.reduceLT, Nat.le_refl, Nat.zero_le, y2', g, hj, hx, l1, i0, l3, a1, K2', g1, Bool.false_eq_true, Bool.true_eq_false, if_true, if_false, not_true_eq_false, not_false_eq_true, zle, eq_self]
      · obtain ⟨v, V1, V2⟩ := ih (j + 1) i (by omega) (by omega) (by omega)
        refine ⟨v, fun d n nc ns nx y => ?_, fun d n L' nc ns nx => ?_⟩
        · rw [e26_4, ← V1 d n nc ns nx y]
          simp only [e26_0, e26_1, e26_2, e26_3, e26_5, e26_6, e26_9, e26_12, e26_13, e26_16, e26_17, e26_18, e26_19, e26_22, e26_23, e26_26, e26_27, e26_30, e26_31, e26_32, e26_35, e26_38, e26_41, e26_42, rk_n, rk_v, nl_n, nl_i, nl_r, cat_n, ip_cat_int, ip_cat_ref, ip_cat_long, ip_rf_some, Nat.reduceAdd, Nat.reduceLeDiff, Nat.reduceLT, Nat.le_refl, Nat.zero_le, y1, g, hj, nn, a1, K1, g1, Bool.false_eq_true, Bool.true_eq_false, if_true, if_false, not_true_eq_false, not_false_eq_true, zle, eq_self]
        · rw [e261_9, ← V2 d n L' nc ns nx]
          simp only [e261_0, e261_1, e261_2, e261_5, e261_6, e261_7, e261_8, e261_10, e261_11, e261_14, e261_17, e261_18, e261_21, e261_22, e261_23, e261_24, e261_27, e261_28, e261_31, e261_34, e261_35, e261_38, e261_39, e261_40, e261_43, e261_46, e261_49, e261_50, rk_n, rk_v, nl_n, nl_i, nl_r, cat_n, ip_cat_int, ip_cat_ref, ip_cat_long, ip_rf_some, Nat.reduceAdd, Nat.reduceLeDiff, Nat.reduceLT, Nat.le_refl, Nat.zero_le, y2', g, hj, hx, a1, K2', g1, Bool.false_eq_true, Bool.true_eq_false, if_true, if_false, not_true_eq_false, not_false_eq_true, zle, eq_self]
theorem S34 : SAMEB 26 261 [.int x1] := by
  intro n I L R nc ns nx T c N w t p X
  have X0 := X
  obtain ⟨⟨n1, n2, n3⟩, ⟨y1, y2⟩, -, -⟩ := X.2.2.1
  have AN : ∃ v : Int32, (∀ d, cf (d + 14) 26 [.ref 2, .int x1] (SH n, I, L, R, nc, ns, nx) = some (.inl (some (.int v)), (SH n, I, L, R, nc, ns, nx))) ∧ (∀ d, cf (d + 14) 261 [.ref 265, .int x1] (SH n, I, L, R, nc, ns, nx) = some (.inl (some (.int v)), (SH n, ip_up I 265 0 0, L, R, nc, ns, nx))) := by
    by_cases g0 : x1 < 0
    · have g : ((Int32.ofNat N : Int32) ≤ 0) = (N ≤ 0) := nu_lit (k := 0) (by omega) (by omega)
      have g1 : ¬ N ≤ 0 := by omega
      have y2' : ip_up I 265 0 0 265 37 = Int32.ofNat N := (up_k (by decide)).trans y2
      refine ⟨-1, fun d => ?_, fun d => ?_⟩
      · simp only [en26, e26_0, e26_1, e26_2, e26_3, e26_5, e26_6, e26_9, e26_12, e26_13, e26_16, e26_17, e26_18, e26_19, e26_22, e26_23, e26_26, e26_27, e26_30, e26_31, e26_32, e26_35, e26_38, e26_41, e26_42, rk_n, rk_v, nl_n, nl_i, nl_r, cat_n, ip_cat_int, ip_cat_ref, ip_cat_long, ip_rf_some, Nat.reduceAdd, Nat.reduceLeDiff, Nat.reduceLT, Nat.le_refl, Nat.zero_le, Bool.false_eq_true, Bool.true_eq_false, if_true, if_false, not_true_eq_false, not_false_eq_true, zle, eq_self]
        rw [e26_4]
        simp only [e26_0, e26_1, e26_2, e26_3, e26_5, e26_6, e26_9, e26_12, e26_13, e26_16, e26_17, e26_18, e26_19, e26_22, e26_23, e26_26, e26_27, e26_30, e26_31, e26_32, e26_35, e26_38, e26_41, e26_42, rk_n, rk_v, nl_n, nl_i, nl_r, cat_n, ip_cat_int, ip_cat_ref, ip_cat_long, ip_rf_some, Nat.reduceAdd, Nat.reduceLeDiff, Nat.reduceLT, Nat.le_refl, Nat.zero_le, y1, g, g1, g0, Bool.false_eq_true, Bool.true_eq_false, if_true, if_false, not_true_eq_false, not_false_eq_true, zle, eq_self]
      · simp only [en261, e261_0, e261_1, e261_2, e261_5, e261_6, e261_7, e261_8, e261_10, e261_11, e261_14, e261_17, e261_18, e261_21, e261_22, e261_23, e261_24, e261_27, e261_28, e261_31, e261_34, e261_35, e261_38, e261_39, e261_40, e261_43, e261_46, e261_49, e261_50, rk_n, rk_v, nl_n, nl_i, nl_r, cat_n, ip_cat_int, ip_cat_ref, ip_cat_long, ip_rf_some, Nat.reduceAdd, Nat.reduceLeDiff, Nat.reduceLT, Nat.le_refl, Nat.zero_le, Bool.false_eq_true, Bool.true_eq_false, if_true, if_false, not_true_eq_false, not_false_eq_true, zle, eq_self]
        rw [e261_9]
        simp only [e261_0, e261_1, e261_2, e261_5, e261_6, e261_7, e261_8, e261_10, e261_11, e261_14, e261_17, e261_18, e261_21, e261_22, e261_23, e261_24, e261_27, e261_28, e261_31, e261_34, e261_35, e261_38, e261_39, e261_40, e261_43, e261_46, e261_49, e261_50, rk_n, rk_v, nl_n, nl_i, nl_r, cat_n, ip_cat_int, ip_cat_ref, ip_cat_long, ip_rf_some, Nat.reduceAdd, Nat.reduceLeDiff, Nat.reduceLT, Nat.le_refl, Nat.zero_le, y2', g, g1, g0, Bool.false_eq_true, Bool.true_eq_false, if_true, if_false, not_true_eq_false, not_false_eq_true, zle, eq_self]
    · obtain ⟨i, hi, rfl⟩ := nu_of g0
      obtain ⟨v, V1, V2⟩ := t34 X g0 N 0 i (by omega) (by omega) hi
      refine ⟨v, fun d => ?_, fun d => ?_⟩
      · simp only [en26, e26_0, e26_1, e26_2, e26_3, e26_5, e26_6, e26_9, e26_12, e26_13, e26_16, e26_17, e26_18, e26_19, e26_22, e26_23, e26_26, e26_27, e26_30, e26_31, e26_32, e26_35, e26_38, e26_41, e26_42, rk_n, rk_v, nl_n, nl_i, nl_r, cat_n, ip_cat_int, ip_cat_ref, ip_cat_long, ip_rf_some, Nat.reduceAdd, Nat.reduceLeDiff, Nat.reduceLT, Nat.le_refl, Nat.zero_le, Bool.false_eq_true, Bool.true_eq_false, if_true, if_false, not_true_eq_false, not_false_eq_true, zle, eq_self]
        exact V1 (d + 13) n nc ns nx _
      · simp only [en261, e261_0, e261_1, e261_2, e261_5, e261_6, e261_7, e261_8, e261_10, e261_11, e261_14, e261_17, e261_18, e261_21, e261_22, e261_23, e261_24, e261_27, e261_28, e261_31, e261_34, e261_35, e261_38, e261_39, e261_40, e261_43, e261_46, e261_49, e261_50, rk_n, rk_v, nl_n, nl_i, nl_r, cat_n, ip_cat_int, ip_cat_ref, ip_cat_long, ip_rf_some, Nat.reduceAdd, Nat.reduceLeDiff, Nat.reduceLT, Nat.le_refl, Nat.zero_le, Bool.false_eq_true, Bool.true_eq_false, if_true, if_false, not_true_eq_false, not_false_eq_true, zle, eq_self]
        exact V2 (d + 13) n L nc ns nx
  obtain ⟨v, A1, A2⟩ := AN
  exact ⟨v, I, ip_up I 265 0 0, L, L, R, nc, ns, nx, T, c, N, w, t, p, A1, A2, REL_q X0 (onlyP_mono scM_0 (fun _ _ e => Or.inr e)) (fun _ _ _ => rfl) (fun _ _ _ => rfl), by omega, by omega, fun k => up_a (by decide)⟩
end S38
