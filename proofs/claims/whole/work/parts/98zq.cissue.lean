/-! READ: the class takes an issue -/
def fuN {α : Type} (g : Nat → α) (i : Nat) (v : α) : Nat → α := fun j => if j = i then v else g j
theorem fuN_e {α : Type} {g : Nat → α} {i : Nat} {v : α} : fuN g i v i = v := if_pos rfl
theorem fuN_n {α : Type} {g : Nat → α} {i j : Nat} {v : α} (h : ¬ j = i) : fuN g i v j = g j := if_neg h
theorem restOn_c {r r' : Nat → Nat} {m : Nat} : ∀ k, (∀ i, i < k → r i = r' i) → restOn r m k = restOn r' m k := by
  intro k
  induction k with
  | zero => intro _; rfl
  | succ k ih => intro h; rw [restOn, restOn, ih (fun i hi => h i (by omega)), h k (by omega)]
theorem restOn_0 {r : Nat → Nat} {c : Nat} (h : ∀ i, i ≤ c → r i < 2 ^ i) : ∀ k, k ≤ c + 1 → restOn r (2 ^ c) k = 0 := by
  intro k
  induction k with
  | zero => intro _; rfl
  | succ k ih =>
    intro hk
    rw [restOn, ih (by omega), Nat.or_zero]
    have : r k &&& 2 ^ c = 0 := by
      have h1 := h k (by omega)
      have h2 : r k < 2 ^ c := Nat.lt_of_lt_of_le h1 (Nat.pow_le_pow_right (by omega) (by omega))
      apply Nat.eq_of_testBit_eq
      intro i
      rw [Nat.testBit_and, Nat.zero_testBit, Nat.testBit_two_pow]
      by_cases e : c = i
      · subst e; rw [Nat.testBit_lt_two_pow h2]; rfl
      · rw [decide_eq_false e, Bool.and_false]
    rw [if_pos this]
section CI
variable {n d b c k t p T h nm s0 r0 : Nat} {B : Nat → Int32} {f : Nat → List Nat} {sd rs br : Nat → Nat} {cl : Bool} {J K J' : Nat → Nat → Int32} {L L' : Nat → Nat → Int64} {R : Nat → Nat → Option Nat} {nc ns : Nat} {nx : Bool} {x y : Int32} {v : Nat → Nat}
theorem c51 (hR : LYR R) (ht : t ≤ 400) (hT2 : T = 9 ∨ T = 16) (hT : isT T) (hr : R 4 1 = some 3) (rT : R 4 2 = some T) (X : RC B t p J) (hn : kdT B t p = 13) (hc : c < 8) (h6 : J T 6 = Int32.ofNat c) (hz : ∀ i, i < 6 → J (T + 1) (6 * c + i) = 0) : ∃ J', (∀ d, cf d 51 [.ref 4] (SH n, J, L, R, nc, ns, nx) = some (.inl none, (SH n, J', L, R, nc, ns, nx))) ∧ onlyP (fun a k => a = T + 1 ∧ 6 * c ≤ k ∧ k < 6 * c + 6) J J' ∧ (∀ i, i < 6 → J' (T + 1) (6 * c + i) = Int32.ofNat (if i < (wl B t p).length then 96 + (wl B t p).getD i 0 else 0)) := by
  obtain ⟨e1, pt⟩ := kd_ne hn
  have n6 := (kd_nm.mp hn).2.1
  have rl := rnn_le (P := lxL) (B := B) (t := t) _ p (Nat.le_refl _) (by omega)
  have HH : ∀ m i J0, i + m = 6 → onlyP (fun a k => a = T + 1 ∧ 6 * c ≤ k ∧ k < 6 * c + 6) J J0 → (∀ j, j < 6 → J0 (T + 1) (6 * c + j) = if j < i ∧ j < rnn lxL B t p - p then B (p + j) else 0) → ∃ J', (∀ d, rf d 51 13 [some (.ref 4), some (.int (Int32.ofNat (6 * c))), some (.int (Int32.ofNat i))] [] (SH n, J0, L, R, nc, ns, nx) = some (.inl none, (SH n, J', L, R, nc, ns, nx))) ∧ onlyP (fun a k => a = T + 1 ∧ 6 * c ≤ k ∧ k < 6 * c + 6) J J' ∧ (∀ j, j < 6 → J' (T + 1) (6 * c + j) = if j < rnn lxL B t p - p then B (p + j) else 0) := by
    intro m
    induction m with
    | zero =>
      intro i J0 h1 O P
      have g : ((6 : Int32) ≤ Int32.ofNat i) = True := eq_true ((nu_le (t := 6) (by omega) (by omega)).mpr (by omega))
      refine ⟨J0, fun d => ?_, O, fun j hj => ?_⟩
      · rw [e51_13]
        simp only [e51_0, e51_1, e51_4, e51_7, e51_9, e51_10, e51_11, e51_12, e51_14, e51_16, e51_19, e51_20, e51_23, e51_24, e51_25, e51_26, e51_29, e51_32, e51_33, e51_36, e51_39, e51_40, e51_41, e51_42, e51_43, e51_46, e51_47, e51_50, e51_51, e51_52, e51_53, e51_54, e51_57, e51_60, rk_n, rk_v, nl_n, nl_i, nl_r, cat_n, ip_cat_int, ip_cat_ref, ip_cat_long, ip_rf_some, Nat.reduceAdd, Nat.reduceLeDiff, Nat.reduceLT, Nat.le_refl, Nat.zero_le, g, Bool.false_eq_true, Bool.true_eq_false, if_true, if_false, not_true_eq_false, not_false_eq_true, zle, eq_self]
      · rw [P j hj]
        by_cases z : j < rnn lxL B t p - p
        · rw [if_pos ⟨by omega, z⟩, if_pos z]
        · rw [if_neg (by omega), if_neg z]
    | succ m ih =>
      intro i J0 h1 O P
      have g : ((6 : Int32) ≤ Int32.ofNat i) = False := eq_false (fun e => by have := (nu_le (t := 6) (by omega) (by omega)).mp e; omega)
      have k4 : J0 4 4 = Int32.ofNat (rnn lxL B t p) := by rw [O 4 4 (by omega), X.2.1, e1]
      have k5 : J0 4 5 = Int32.ofNat p := by rw [O 4 5 (by omega)]; exact X.2.2.1
      have e2 : Int32.ofNat i + 1 = Int32.ofNat (i + 1) := nu_add (s := 1)
      have l3 : p + i < 2147483648 := by omega
      by_cases q : p + i < rnn lxL B t p
      · have g2 : (Int32.ofNat (rnn lxL B t p) ≤ Int32.ofNat (p + i)) = False := eq_false (fun e => by have := (nu_le (by omega) (by omega)).mp e; omega)
        have l4 : p + i < 400 := by omega
        have l5 : 6 * c + i < 2147483648 := by omega
        have l6 : 6 * c + i < 48 := by omega
        have kb : J0 3 (p + i) = B (p + i) := by rw [O 3 _ (by omega)]; exact X.2.2.2.2 _ (by omega)
        obtain ⟨J', A, O', P'⟩ := ih (i + 1) (ip_up J0 (T + 1) (6 * c + i) (B (p + i))) (by omega) (onlyP_up O ⟨rfl, by omega, by omega⟩) (fun j hj => by
          by_cases z : j = i
          · subst z; rw [up_eq, if_pos ⟨by omega, by omega⟩]
          · rw [up_k (by omega), P j hj]
            by_cases y : j < i ∧ j < rnn lxL B t p - p
            · rw [if_pos y, if_pos ⟨by omega, y.2⟩]
            · rw [if_neg y, if_neg (by omega)])
        refine ⟨J', fun d => ?_, O', P'⟩
        rw [← A d, e51_13]
        simp only [e51_0, e51_1, e51_4, e51_7, e51_9, e51_10, e51_11, e51_12, e51_14, e51_16, e51_19, e51_20, e51_23, e51_24, e51_25, e51_26, e51_29, e51_32, e51_33, e51_36, e51_39, e51_40, e51_41, e51_42, e51_43, e51_46, e51_47, e51_50, e51_51, e51_52, e51_53, e51_54, e51_57, e51_60, rk_n, rk_v, nl_n, nl_i, nl_r, cat_n, ip_cat_int, ip_cat_ref, ip_cat_long, ip_rf_some, Nat.reduceAdd, Nat.reduceLeDiff, Nat.reduceLT, Nat.le_refl, Nat.zero_le, hR, hr, rT, hT, g, g2, k4, k5, nu_add, ia_lit, ia_T1, nu_i, nu_tn, l3, l4, l5, l6, kb, e2, Bool.false_eq_true, Bool.true_eq_false, if_true, if_false, not_true_eq_false, not_false_eq_true, zle, eq_self]
      · have g2 : (Int32.ofNat (rnn lxL B t p) ≤ Int32.ofNat (p + i)) = True := eq_true ((nu_le (by omega) (by omega)).mpr (by omega))
        refine ⟨J0, fun d => ?_, O, fun j hj => ?_⟩
        · rw [e51_13]
          simp only [e51_0, e51_1, e51_4, e51_7, e51_9, e51_10, e51_11, e51_12, e51_14, e51_16, e51_19, e51_20, e51_23, e51_24, e51_25, e51_26, e51_29, e51_32, e51_33, e51_36, e51_39, e51_40, e51_41, e51_42, e51_43, e51_46, e51_47, e51_50, e51_51, e51_52, e51_53, e51_54, e51_57, e51_60, rk_n, rk_v, nl_n, nl_i, nl_r, cat_n, ip_cat_int, ip_cat_ref, ip_cat_long, ip_rf_some, Nat.reduceAdd, Nat.reduceLeDiff, Nat.reduceLT, Nat.le_refl, Nat.zero_le, g, g2, k4, k5, nu_add, Bool.false_eq_true, Bool.true_eq_false, if_true, if_false, not_true_eq_false, not_false_eq_true, zle, eq_self]
        · rw [P j hj]
          by_cases z : j < rnn lxL B t p - p
          · rw [if_pos ⟨by omega, z⟩, if_pos z]
          · rw [if_neg (by omega), if_neg z]
  obtain ⟨J', A, O, P⟩ := HH 6 0 J (by omega) onlyP_refl (fun j hj => by rw [if_neg (by omega)]; exact hz j hj)
  refine ⟨J', fun d => ?_, O, fun i hi => ?_⟩
  · have A : rf d 51 13 [some (.ref 4), some (.int (Int32.ofNat (6 * c))), some (.int 0)] [] (SH n, J, L, R, nc, ns, nx) = _ := A d
    have e3 : Int32.ofNat c * 6 = Int32.ofNat (6 * c) := by rw [Nat.mul_comm]; exact (Int32.ofNat_mul _ _).symm
    rw [← A]
    simp only [en51, e51_0, e51_1, e51_4, e51_7, e51_9, e51_10, e51_11, e51_12, e51_14, e51_16, e51_19, e51_20, e51_23, e51_24, e51_25, e51_26, e51_29, e51_32, e51_33, e51_36, e51_39, e51_40, e51_41, e51_42, e51_43, e51_46, e51_47, e51_50, e51_51, e51_52, e51_53, e51_54, e51_57, e51_60, rk_n, rk_v, nl_n, nl_i, nl_r, cat_n, ip_cat_int, ip_cat_ref, ip_cat_long, ip_rf_some, Nat.reduceAdd, Nat.reduceLeDiff, Nat.reduceLT, Nat.le_refl, Nat.zero_le, rT, hT, h6, e3, Bool.false_eq_true, Bool.true_eq_false, if_true, if_false, not_true_eq_false, not_false_eq_true, zle, eq_self]
  · rw [P i hi, wl_len]
    by_cases z : i < rnn lxL B t p - p
    · obtain ⟨u, v1, v2, v3, v4⟩ := lxL_v (rnn_all (P := lxL) (B := B) (t := t) _ p (Nat.le_refl _) (p + i) (by omega) (by omega))
      rw [if_pos z, if_pos z, wl_at z, v4, v3]
      congr 1; omega
    · rw [if_neg z, if_neg z]; rfl
/-- addIssue -/
theorem c54 (hR : LYR R) (hT2 : T = 9 ∨ T = 16) (hT : isT T) (hc : c < 8) (h6 : J T 6 = Int32.ofNat c) (hrs : ∀ k, k < c → rs k < 2 ^ k) (hr0 : r0 < 2 ^ c) (ha : ∀ k, k < c → J (T + 4) k = Int32.ofNat (restOn rs (2 ^ k) c)) : ∃ J', (∀ d, cf d 54 [.ref T, .int (Int32.ofNat s0), .int (Int32.ofNat r0)] (SH n, J, L, R, nc, ns, nx) = some (.inl none, (SH n, J', L, R, nc, ns, nx))) ∧ onlyP (fun a k => (a = T + 2 ∧ k = c) ∨ (a = T + 3 ∧ k = c) ∨ a = T + 4 ∨ (a = T ∧ k = 6)) J J' ∧ J' (T + 2) c = Int32.ofNat s0 ∧ J' (T + 3) c = Int32.ofNat r0 ∧ J' T 6 = Int32.ofNat (c + 1) ∧ (∀ k, k < c + 1 → J' (T + 4) k = Int32.ofNat (restOn (fuN rs c r0) (2 ^ k) (c + 1))) := by
  have lc : c < 2147483648 := by omega
  have p2c : 2 ^ c ≤ 256 := p2le (by omega)
  have rc : ∀ k m, k ≤ c → restOn (fuN rs c r0) m k = restOn rs m k := fun k m hk => restOn_c k (fun i hi => fuN_n (by omega))
  have new : ∀ k, k < c → restOn (fuN rs c r0) (2 ^ k) (c + 1) = if r0 &&& (2 ^ k ||| restOn rs (2 ^ k) c) = 0 then restOn rs (2 ^ k) c else restOn rs (2 ^ k) c ||| 2 ^ c := by
    intro k hk
    rw [restOn, rc c _ (Nat.le_refl _), fuN_e]
  generalize hJ0 : ip_up (ip_up (ip_up J (T + 2) c (Int32.ofNat s0)) (T + 3) c (Int32.ofNat r0)) (T + 4) c 0 = J0
  have O0 : onlyP (fun a k => (a = T + 2 ∧ k = c) ∨ (a = T + 3 ∧ k = c) ∨ a = T + 4 ∨ (a = T ∧ k = 6)) J J0 := by rw [← hJ0]; exact onlyP_up (onlyP_up (onlyP_up onlyP_refl (by omega)) (by omega)) (by omega)
  have HH : ∀ m k J1, k + m = c → onlyP (fun a _ => a = T + 4) J0 J1 → (∀ i, i < c → J1 (T + 4) i = if i < k then Int32.ofNat (restOn (fuN rs c r0) (2 ^ i) (c + 1)) else Int32.ofNat (restOn rs (2 ^ i) c)) → J1 (T + 4) c = 0 → ∃ J', (∀ d, rf d 54 42 [some (.ref T), some (.int (Int32.ofNat s0)), some (.int (Int32.ofNat r0)), some (.int (Int32.ofNat k))] [] (SH n, J1, L, R, nc, ns, nx) = some (.inl none, (SH n, ip_up J' T 6 (Int32.ofNat (c + 1)), L, R, nc, ns, nx))) ∧ onlyP (fun a _ => a = T + 4) J0 J' ∧ (∀ i, i < c → J' (T + 4) i = Int32.ofNat (restOn (fuN rs c r0) (2 ^ i) (c + 1))) ∧ J' (T + 4) c = 0 := by
    intro m
    induction m with
    | zero =>
      intro k J1 h1 O P P0
      have e : k = c := by omega
      subst e
      have k6 : J1 T 6 = Int32.ofNat k := by rw [O T 6 (by omega), ← hJ0, up_a (by omega), up_a (by omega), up_a (by omega)]; exact h6
      have g : (Int32.ofNat k ≤ Int32.ofNat k) = True := eq_true Int32.le_rfl
      have e1 : Int32.ofNat k + 1 = Int32.ofNat (k + 1) := nu_add (s := 1)
      refine ⟨J1, fun d => ?_, O, fun i hi => ?_, P0⟩
      · rw [e54_42]
        simp only [e54_0, e54_1, e54_4, e54_6, e54_9, e54_10, e54_11, e54_14, e54_15, e54_18, e54_19, e54_20, e54_21, e54_24, e54_25, e54_28, e54_29, e54_30, e54_31, e54_34, e54_35, e54_38, e54_39, e54_40, e54_41, e54_43, e54_44, e54_47, e54_50, e54_51, e54_52, e54_53, e54_54, e54_55, e54_58, e54_59, e54_60, e54_61, e54_62, e54_65, e54_66, e54_69, e54_70, e54_71, e54_72, e54_73, e54_74, e54_77, e54_78, e54_79, e54_80, e54_83, e54_86, e54_87, e54_87r, e54_88, e54_91, e54_92, e54_93, e54_96, rk_n, rk_v, nl_n, nl_i, nl_r, cat_n, ip_cat_int, ip_cat_ref, ip_cat_long, ip_rf_some, Nat.reduceAdd, Nat.reduceLeDiff, Nat.reduceLT, Nat.le_refl, Nat.zero_le, hT, k6, g, e1, Bool.false_eq_true, Bool.true_eq_false, if_true, if_false, not_true_eq_false, not_false_eq_true, zle, eq_self]
      · rw [P i hi, if_pos hi]
    | succ m ih =>
      intro k J1 h1 O P P0
      have k6 : J1 T 6 = Int32.ofNat c := by rw [O T 6 (by omega), ← hJ0, up_a (by omega), up_a (by omega), up_a (by omega)]; exact h6
      have g : (Int32.ofNat c ≤ Int32.ofNat k) = False := eq_false (fun e => by have := (nu_le (by omega) (by omega)).mp e; omega)
      have e1 : Int32.ofNat k + 1 = Int32.ofNat (k + 1) := nu_add (s := 1)
      have l1 : k < 2147483648 := by omega
      have l2 : k < 8 := by omega
      have s1 := sh1 k l2
      have s2 := sh1 c hc
      have ak := P k (by omega)
      rw [if_neg (by omega)] at ak
      have rl := restOn_lt rs (2 ^ k) c
      have nk := new k (by omega)
      have l3 : r0 &&& (2 ^ k ||| restOn rs (2 ^ k) c) < 2147483648 := Nat.lt_of_le_of_lt Nat.and_le_left (by omega)
      by_cases z : r0 &&& (2 ^ k ||| restOn rs (2 ^ k) c) = 0
      · rw [if_pos z] at nk
        have gz : (Int32.ofNat (r0 &&& (2 ^ k ||| restOn rs (2 ^ k) c)) = 0) = True := eq_true (by rw [z]; rfl)
        obtain ⟨J', A, O', P', P0'⟩ := ih (k + 1) J1 (by omega) O (fun i hi => by
          rw [P i hi]
          by_cases y : i < k
          · rw [if_pos y, if_pos (by omega)]
          · rw [if_neg y]
            by_cases w : i = k
            · subst w; rw [if_pos (by omega), nk]
            · rw [if_neg (by omega)]) P0
        refine ⟨J', fun d => ?_, O', P', P0'⟩
        rw [← A d, e54_42]
        simp only [e54_0, e54_1, e54_4, e54_6, e54_9, e54_10, e54_11, e54_14, e54_15, e54_18, e54_19, e54_20, e54_21, e54_24, e54_25, e54_28, e54_29, e54_30, e54_31, e54_34, e54_35, e54_38, e54_39, e54_40, e54_41, e54_43, e54_44, e54_47, e54_50, e54_51, e54_52, e54_53, e54_54, e54_55, e54_58, e54_59, e54_60, e54_61, e54_62, e54_65, e54_66, e54_69, e54_70, e54_71, e54_72, e54_73, e54_74, e54_77, e54_78, e54_79, e54_80, e54_83, e54_86, e54_87, e54_87r, e54_88, e54_91, e54_92, e54_93, e54_96, rk_n, rk_v, nl_n, nl_i, nl_r, cat_n, ip_cat_int, ip_cat_ref, ip_cat_long, ip_rf_some, Nat.reduceAdd, Nat.reduceLeDiff, Nat.reduceLT, Nat.le_refl, Nat.zero_le, hR, hT, k6, g, e1, s1, ia_T4, nu_i, nu_tn, l1, l2, ak, of_or, of_and, gz, Bool.false_eq_true, Bool.true_eq_false, if_true, if_false, not_true_eq_false, not_false_eq_true, zle, eq_self]
      · rw [if_neg z] at nk
        have gz : (Int32.ofNat (r0 &&& (2 ^ k ||| restOn rs (2 ^ k) c)) = 0) = False := eq_false (fun e => z ((nu_inj (s := 0) l3 (by omega)).mp e))
        obtain ⟨J', A, O', P', P0'⟩ := ih (k + 1) (ip_up J1 (T + 4) k (Int32.ofNat (restOn rs (2 ^ k) c ||| 2 ^ c))) (by omega) (onlyP_up O rfl) (fun i hi => by
          by_cases w : i = k
          · subst w; rw [up_eq, if_pos (by omega), nk]
          · rw [up_k w, P i hi]
            by_cases y : i < k
            · rw [if_pos y, if_pos (by omega)]
            · rw [if_neg y, if_neg (by omega)]) (by rw [up_k (by omega)]; exact P0)
        refine ⟨J', fun d => ?_, O', P', P0'⟩
        rw [← A d, e54_42]
        simp only [e54_0, e54_1, e54_4, e54_6, e54_9, e54_10, e54_11, e54_14, e54_15, e54_18, e54_19, e54_20, e54_21, e54_24, e54_25, e54_28, e54_29, e54_30, e54_31, e54_34, e54_35, e54_38, e54_39, e54_40, e54_41, e54_43, e54_44, e54_47, e54_50, e54_51, e54_52, e54_53, e54_54, e54_55, e54_58, e54_59, e54_60, e54_61, e54_62, e54_65, e54_66, e54_69, e54_70, e54_71, e54_72, e54_73, e54_74, e54_77, e54_78, e54_79, e54_80, e54_83, e54_86, e54_87, e54_87r, e54_88, e54_91, e54_92, e54_93, e54_96, rk_n, rk_v, nl_n, nl_i, nl_r, cat_n, ip_cat_int, ip_cat_ref, ip_cat_long, ip_rf_some, Nat.reduceAdd, Nat.reduceLeDiff, Nat.reduceLT, Nat.le_refl, Nat.zero_le, hR, hT, k6, g, e1, s1, s2, ia_T4, nu_i, nu_tn, l1, l2, ak, of_or, of_and, gz, Bool.false_eq_true, Bool.true_eq_false, if_true, if_false, not_true_eq_false, not_false_eq_true, zle, eq_self]
  obtain ⟨J', A, O, P, P0⟩ := HH c 0 J0 (by omega) onlyP_refl (fun i hi => by rw [if_neg (by omega), ← hJ0, up_k (by omega), up_a (by omega), up_a (by omega)]; exact ha i hi) (by rw [← hJ0, up_eq])
  refine ⟨_, fun d => ?_, onlyP_up (onlyP_tr O0 (onlyP_mono O (fun a k e => by omega))) (by omega), ?_, ?_, up_eq, fun k hk => ?_⟩
  · have g8 : (Int32.ofNat c < 8) = True := eq_true ((nu_lt (s := 8) (by omega) (by omega)).mpr hc)
    have A : rf d 54 42 [some (.ref T), some (.int (Int32.ofNat s0)), some (.int (Int32.ofNat r0)), some (.int 0)] [] (SH n, J0, L, R, nc, ns, nx) = _ := A d
    have u1 : ip_up J (T + 2) c (Int32.ofNat s0) T 6 = Int32.ofNat c := (up_a (by omega)).trans h6
    have u2 : ip_up (ip_up J (T + 2) c (Int32.ofNat s0)) (T + 3) c (Int32.ofNat r0) T 6 = Int32.ofNat c := (up_a (by omega)).trans u1
    rw [← A]
    simp only [en54, e54_0, e54_1, e54_4, e54_6, e54_9, e54_10, e54_11, e54_14, e54_15, e54_18, e54_19, e54_20, e54_21, e54_24, e54_25, e54_28, e54_29, e54_30, e54_31, e54_34, e54_35, e54_38, e54_39, e54_40, e54_41, e54_43, e54_44, e54_47, e54_50, e54_51, e54_52, e54_53, e54_54, e54_55, e54_58, e54_59, e54_60, e54_61, e54_62, e54_65, e54_66, e54_69, e54_70, e54_71, e54_72, e54_73, e54_74, e54_77, e54_78, e54_79, e54_80, e54_83, e54_86, e54_87, e54_87r, e54_88, e54_91, e54_92, e54_93, e54_96, rk_n, rk_v, nl_n, nl_i, nl_r, cat_n, ip_cat_int, ip_cat_ref, ip_cat_long, ip_rf_some, Nat.reduceAdd, Nat.reduceLeDiff, Nat.reduceLT, Nat.le_refl, Nat.zero_le, hR, hT, h6, u1, u2, g8, ia_T2, ia_T3, ia_T4, nu_i, nu_tn, lc, hc, hJ0, Bool.false_eq_true, Bool.true_eq_false, if_true, if_false, not_true_eq_false, not_false_eq_true, zle, eq_self]
  · rw [up_a (by omega), O (T + 2) c (by omega), ← hJ0, up_a (by omega), up_a (by omega), up_eq]
  · rw [up_a (by omega), O (T + 3) c (by omega), ← hJ0, up_a (by omega), up_eq]
  · rw [up_a (by omega)]
    by_cases e : k = c
    · subst e
      rw [P0, restOn_0 (fun i hi => by
        by_cases z : i = k
        · subst z; rw [fuN_e]; exact hr0
        · rw [fuN_n z]; exact hrs i (by omega)) (k + 1) (by omega)]
      rfl
    · exact P k (by omega)
end CI
