/-! READ: the class reads a claim as it is told -/
section CS
variable {n d b c k t p T h nm : Nat} {B : Nat → Int32} {f : Nat → List Nat} {J K J' : Nat → Nat → Int32} {L L' : Nat → Nat → Int64} {R : Nat → Nat → Option Nat} {nc ns : Nat} {nx : Bool} {x y : Int32} {st st' : Nat → Nat → Nat} {v : Nat → Nat}
theorem CLs_tb {h2 : Nat} {st2 : Nat → Nat → Nat} {L2 : Nat → Nat → Int64} (hT2 : T = 9 ∨ T = 16) (X : CLs B t T c f p nm h st J L) (Y : TB h2 st2 (ip_up J 5 2 x) L2) (O : oL L L2) (hh : h2 ≤ nm) (hl : ∀ i, i < h2 → le1 (st2 i)) : CLs B t T c f p nm h2 st2 (ip_up J 5 2 x) L2 := by
  obtain ⟨x1, x2, x3, x4, x5, x6, x7, x8, x9, x10⟩ := X
  refine ⟨⟨?_, ?_, ?_, ?_, ?_⟩, x2, ?_, ?_, ?_, x6, hh, Y, hl, ?_⟩
  · rw [up_a (by omega)]; exact x1.1
  · rw [up_a (by omega)]; exact x1.2.1
  · rw [up_a (by omega)]; exact x1.2.2.1
  · rw [up_a (by omega)]; exact x1.2.2.2.1
  · intro i hi; rw [up_a (by omega)]; exact x1.2.2.2.2 i hi
  · rw [up_a (by omega)]; exact x3
  · intro k hk
    obtain ⟨b1, b2, b3⟩ := x4 k hk
    exact ⟨b1, b2, fun i hi => by rw [up_a (by omega)]; exact b3 i hi⟩
  · rw [up_a (by omega)]; exact x5
  · intro k hk; rw [O 1 k (by omega) (by omega)]; exact x10 k hk
theorem CLs_tn {st2 : Nat → Nat → Nat} {L2 : Nat → Nat → Int64} (X : CLs B t T c f p nm h st J L) (Y : TB h st2 J L2) (O : oL L L2) (hl : ∀ i, i < h → le1 (st2 i)) : CLs B t T c f p nm h st2 J L2 := by
  obtain ⟨x1, x2, x3, x4, x5, x6, x7, x8, x9, x10⟩ := X
  exact ⟨x1, x2, x3, x4, x5, x6, x7, Y, hl, fun k hk => by rw [O 1 k (by omega) (by omega)]; exact x10 k hk⟩
theorem smS_s {s : Nat} : smS st h (k + 1) s = smS st h k s + st (h + k) s := by
  unfold smS; rw [List.range_succ, List.foldl_append]; rfl
theorem smS_c {s : Nat} : ∀ k, (∀ i, i < k → st' (h + i) = st (h + i)) → smS st' h k s = smS st h k s := by
  intro k
  induction k with
  | zero => intro _; rfl
  | succ k ih => intro H; rw [smS_s, smS_s, ih (fun i hi => H i (by omega)), H k (by omega)]
theorem cl_sim (hR : LYR R) (ht : t ≤ 400) (hT2 : T = 9 ∨ T = 16) (hT : isT T) (hr : R 4 1 = some 3) (rT : R 4 2 = some T) (hc8 : c ≤ 8) : ∀ g,
    (∀ d p nm cs v k h st J L o, d ≤ 6 → CLs B t T c f p nm h st J L → sp B t f c g 0 d p nm cs v k = some o → oBC B t T c f h st J L n R nc ns nx (fun r => ∀ D, 4 * (6 - d) + 10 ≤ D → cf D 57 [.ref 4, .int (Int32.ofNat d)] (SH n, J, L, R, nc, ns, nx) = r) o) ∧
    (∀ d p nm cs v k h st J L o i, d ≤ 6 → CLs B t T c f p nm (h + 1) st J L → st h = v → i ≤ p → sp B t f c g 1 d p nm cs v k = some o → oBC B t T c f h st J L n R nc ns nx (fun r => ∀ D, 4 * (6 - d) + 10 ≤ D → rf D 57 12 [some (.ref 4), some (.int (Int32.ofNat d)), some (.int (Int32.ofNat i))] [] (SH n, J, L, R, nc, ns, nx) = r) o) ∧
    (∀ d p nm cs v k h st J L o, d ≤ 6 → CLs B t T c f p nm h st J L → sp B t f c g 2 d p nm cs v k = some o → oBC B t T c f h st J L n R nc ns nx (fun r => ∀ D, 4 * (6 - d) + 9 ≤ D → cf D 58 [.ref 4, .int (Int32.ofNat d)] (SH n, J, L, R, nc, ns, nx) = r) o) ∧
    (∀ d p nm cs v k h st J L o i, d ≤ 6 → CLs B t T c f p nm (h + 1) st J L → st h = v → i ≤ p → sp B t f c g 3 d p nm cs v k = some o → oBC B t T c f h st J L n R nc ns nx (fun r => ∀ D, 4 * (6 - d) + 9 ≤ D → rf D 58 12 [some (.ref 4), some (.int (Int32.ofNat d)), some (.int (Int32.ofNat i))] [] (SH n, J, L, R, nc, ns, nx) = r) o) ∧
    (∀ d p nm cs v k h st J L o, d ≤ 6 → CLs B t T c f p nm h st J L → sp B t f c g 4 d p nm cs v k = some o → oBC B t T c f h st J L n R nc ns nx (fun r => ∀ D, 4 * (6 - d) + 8 ≤ D → cf D 59 [.ref 4, .int (Int32.ofNat d)] (SH n, J, L, R, nc, ns, nx) = r) o) ∧
    (∀ d p nm cs v k h st J L o (z : Int32), d ≤ 5 → CLs B t T c f p nm (h + k) st J L → (∀ s, s < 256 → smS st h k s = v s) → k ≤ p → p < t → sp B t f c g 5 (d + 1) p nm cs v k = some o →
      match o with
      | .inl q => ∃ J' L', (∀ D, 4 * (5 - d) + 11 ≤ D → rf D 66 45 [some (.ref 4), some (.int (Int32.ofNat d)), some (.int z), some (.int (Int32.ofNat k))] [] (SH n, J, L, R, nc, ns, nx) = some (.inl (some (.int 0)), (SH n, J', L', R, nc, ns, nx))) ∧ RC B t q J' ∧ fmC T J J' L L'
      | .inr r => ∃ J' L' st', (∀ D, 4 * (5 - d) + 11 ≤ D → rf D 66 45 [some (.ref 4), some (.int (Int32.ofNat d)), some (.int z), some (.int (Int32.ofNat k))] [] (SH n, J, L, R, nc, ns, nx) = rf D 66 80 [some (.ref 4), some (.int (Int32.ofNat d)), some (.int z), some (.int (Int32.ofNat r.2.2.2.2))] [] (SH n, J', L', R, nc, ns, nx)) ∧ CLs B t T c f r.1 r.2.1 (h + r.2.2.2.2) st' J' L' ∧ (∀ s, s < 256 → smS st' h r.2.2.2.2 s = r.2.2.2.1 s) ∧ (∀ i, i < h → st' i = st i) ∧ 1 ≤ r.2.2.2.2 ∧ fmC T J J' L L') := by
  have n10 : ¬ (1 : Int32) = 0 := by decide
  intro g
  induction g with
  | zero =>
    refine ⟨?_, ?_, ?_, ?_, ?_, ?_⟩
    · intro d p nm cs v k h st J L o _ _ e; cases e
    · intro d p nm cs v k h st J L o i _ _ _ _ e; cases e
    · intro d p nm cs v k h st J L o _ _ e; cases e
    · intro d p nm cs v k h st J L o i _ _ _ _ e; cases e
    · intro d p nm cs v k h st J L o _ _ e; cases e
    · intro d p nm cs v k h st J L o z _ _ _ _ _ e; cases e
  | succ g ih =>
    obtain ⟨i0, i1, i2, i3, i4, i5⟩ := ih
    have OK := fun m d p nm cs v k r => sp_ok (B := B) (f := f) ht hc8 g m d p nm cs v k r
    refine ⟨?_, ?_, ?_, ?_, ?_, ?_⟩
    · intro d p nm cs v k h st J L o hd X e
      rw [sp_0] at e
      rcases bnd_c e with ⟨q, e1, e2⟩ | ⟨p1, nm1, cs1, v1, j1, e1, e2⟩
      · subst e2
        obtain ⟨J1, L1, A1, Y1, F1⟩ := i2 d p nm _ _ _ h st J L _ hd X e1
        refine ⟨J1, L1, fun D hD => ?_, Y1, F1⟩
        obtain ⟨E, rfl⟩ : ∃ E, D = E + 1 := ⟨D - 1, by omega⟩
        have a1 := A1 E (by omega)
        simp only [en57, e57_0, e57_1, e57_2, e57_5, e57_8, e57_9, e57_10, e57_11, e57_13, e57_16, e57_19, e57_20, e57_23, e57_25, e57_28, e57_29, e57_32, e57_33, e57_34, e57_37, e57_40, e57_41, e57_42, e57_43, e57_46, e57_47, e57_50, e57_53, e57_56, e57_57, rk_n, rk_v, nl_n, nl_i, nl_r, cat_n, ip_cat_int, ip_cat_ref, ip_cat_long, ip_rf_some, Nat.reduceAdd, Nat.reduceLeDiff, Nat.reduceLT, Nat.le_refl, Nat.zero_le, a1, true_or, or_true, Bool.false_eq_true, Bool.true_eq_false, if_true, if_false, not_true_eq_false, not_false_eq_true, zle, eq_self]
      · obtain ⟨J1, L1, st1, A1, Y1, V1, S1, F1⟩ := i2 d p nm _ _ _ h st J L _ hd X e1
        have Q := i1 d p1 nm1 cs1 v1 0 h st1 J1 L1 o 0 hd Y1 V1 (by omega) e2
        have W : ∀ r D, 4 * (6 - d) + 10 ≤ D → rf D 57 12 [some (.ref 4), some (.int (Int32.ofNat d)), some (.int (Int32.ofNat 0))] [] (SH n, J1, L1, R, nc, ns, nx) = r → cf D 57 [.ref 4, .int (Int32.ofNat d)] (SH n, J, L, R, nc, ns, nx) = r := by
          intro r D hD a2
          obtain ⟨E, rfl⟩ : ∃ E, D = E + 1 := ⟨D - 1, by omega⟩
          have a1 := A1 E (by omega)
          have a2 : rf (E + 1) 57 12 [some (.ref 4), some (.int (Int32.ofNat d)), some (.int 0)] [] (SH n, J1, L1, R, nc, ns, nx) = r := a2
          rw [← a2]
          simp only [en57, e57_0, e57_1, e57_2, e57_5, e57_8, e57_9, e57_10, e57_11, e57_13, e57_16, e57_19, e57_20, e57_23, e57_25, e57_28, e57_29, e57_32, e57_33, e57_34, e57_37, e57_40, e57_41, e57_42, e57_43, e57_46, e57_47, e57_50, e57_53, e57_56, e57_57, rk_n, rk_v, nl_n, nl_i, nl_r, cat_n, ip_cat_int, ip_cat_ref, ip_cat_long, ip_rf_some, Nat.reduceAdd, Nat.reduceLeDiff, Nat.reduceLT, Nat.le_refl, Nat.zero_le, a1, n10, Bool.false_eq_true, Bool.true_eq_false, if_true, if_false, not_true_eq_false, not_false_eq_true, zle, eq_self]
        cases o with
        | inl q =>
          obtain ⟨J2, L2, A2, Y2, F2⟩ := Q
          exact ⟨J2, L2, fun D hD => W _ D hD (A2 D hD), Y2, fm_t F1 F2⟩
        | inr r =>
          obtain ⟨J2, L2, st2, A2, Y2, V2, S2, F2⟩ := Q
          exact ⟨J2, L2, st2, fun D hD => W _ D hD (A2 D hD), Y2, V2, fun i hi => (S2 i hi).trans (S1 i hi), fm_t F1 F2⟩
    · intro d p nm cs v k h st J L o i hd X hv hi e
      have l4 : i < 2147483648 := by have := X.2.1; omega
      have k6 := X.1.2.2.2.1
      have K9 := kd_i (B := B) (t := t) (p := p) (k := 9) (by omega)
      have K9 : (Int32.ofNat (kdT B t p) = 9) = (kdT B t p = 9) := K9
      rw [sp_1] at e
      split at e
      · rename_i hk
        have lt := (kd_en (j := 9) (by omega) hk).2.1
        have K9t := K9.trans (eq_true hk)
        have g4 : ((400 : Int32) ≤ Int32.ofNat i) = False := eq_false (fun e => by have := (nu_le (t := 400) (by omega) (by omega)).mp e; omega)
        have e1' : Int32.ofNat i + 1 = Int32.ofNat (i + 1) := nu_add (s := 1)
        have NX := (nxT_le (B := B) X.2.1).2.2 lt
        obtain ⟨J0, A0, Y0, F0⟩ := advc (n := n) (nc := nc) (ns := ns) (nx := nx) ht hT2 hr X
        rcases bnd_c e with ⟨q, e1, e2⟩ | ⟨p1, nm1, cs1, v1, j1, e1, e2⟩
        · subst e2
          obtain ⟨J1, L1, A1, Y1, F1⟩ := i2 d _ nm _ _ _ (h + 1) st J0 L _ hd Y0 e1
          refine ⟨J1, L1, fun D hD => ?_, Y1, fm_t F0 F1⟩
          obtain ⟨E, rfl⟩ : ∃ E, D = E + 1 := ⟨D - 1, by omega⟩
          have a0 := A0 E (by omega)
          have a1 := A1 E (by omega)
          rw [e57_12]
          simp only [e57_0, e57_1, e57_2, e57_5, e57_8, e57_9, e57_10, e57_11, e57_13, e57_16, e57_19, e57_20, e57_23, e57_25, e57_28, e57_29, e57_32, e57_33, e57_34, e57_37, e57_40, e57_41, e57_42, e57_43, e57_46, e57_47, e57_50, e57_53, e57_56, e57_57, rk_n, rk_v, nl_n, nl_i, nl_r, cat_n, ip_cat_int, ip_cat_ref, ip_cat_long, ip_rf_some, Nat.reduceAdd, Nat.reduceLeDiff, Nat.reduceLT, Nat.le_refl, Nat.zero_le, g4, k6, K9t, a0, a1, true_or, or_true, Bool.false_eq_true, Bool.true_eq_false, if_true, if_false, not_true_eq_false, not_false_eq_true, zle, eq_self]
        · obtain ⟨J1, L1, st1, A1, Y1, V1, S1, F1⟩ := i2 d _ nm _ _ _ (h + 1) st J0 L _ hd Y0 e1
          have ok := OK _ _ _ _ _ _ _ _ (by omega) Y0.2.1 Y0.2.2.2.2.2.1 (by omega) e1
          have le1v : le1 v1 := by have := ok.2.2.2.2.2; rw [if_neg (by omega), if_neg (by omega)] at this; exact this.2.1
          have pp : nxT B t p ≤ p1 := ok.1
          have Yh := Y1.2.2.2.2.2.2.1
          have n40 := Y1.2.2.2.2.2.1
          obtain ⟨L2, A2, X2, O2⟩ := c70 (n := n) (nc := nc) (ns := ns) (nx := nx) (h := h) hR Y1.2.2.2.2.2.2.2.1 (by omega) (by rw [S1 h (by omega)]; exact X.2.2.2.2.2.2.2.2.1 h (by omega)) (by rw [V1]; exact le1v) false
          rw [if_neg (by decide), V1, S1 h (by omega), hv] at X2
          have Y2 := CLs_tb hT2 Y1 X2 O2 (by omega) (fun q hq => by
            by_cases z : q = h
            · subst z; rw [pst_e]; exact le1_or (by rw [← hv]; exact X.2.2.2.2.2.2.2.2.1 q (by omega)) le1v
            · rw [pst_n z]; exact Y1.2.2.2.2.2.2.2.2.1 q (by omega))
          have Q := i1 d p1 nm1 _ _ 0 h _ _ L2 o (i + 1) hd Y2 pst_e (by omega) e2
          have W : ∀ r D, 4 * (6 - d) + 10 ≤ D → rf D 57 12 [some (.ref 4), some (.int (Int32.ofNat d)), some (.int (Int32.ofNat (i + 1)))] [] (SH n, ip_up J1 5 2 (Int32.ofNat (h + 1)), L2, R, nc, ns, nx) = r → rf D 57 12 [some (.ref 4), some (.int (Int32.ofNat d)), some (.int (Int32.ofNat i))] [] (SH n, J, L, R, nc, ns, nx) = r := by
            intro r D hD a3
            obtain ⟨E, rfl⟩ : ∃ E, D = E + 1 := ⟨D - 1, by omega⟩
            have a0 := A0 E (by omega)
            have a1 := A1 E (by omega)
            have a2 : cf E 70 [.ref 5, .int 0] (SH n, J1, L1, R, nc, ns, nx) = _ := A2 E
            rw [← a3, e57_12]
            simp only [e57_0, e57_1, e57_2, e57_5, e57_8, e57_9, e57_10, e57_11, e57_13, e57_16, e57_19, e57_20, e57_23, e57_25, e57_28, e57_29, e57_32, e57_33, e57_34, e57_37, e57_40, e57_41, e57_42, e57_43, e57_46, e57_47, e57_50, e57_53, e57_56, e57_57, rk_n, rk_v, nl_n, nl_i, nl_r, cat_n, ip_cat_int, ip_cat_ref, ip_cat_long, ip_rf_some, Nat.reduceAdd, Nat.reduceLeDiff, Nat.reduceLT, Nat.le_refl, Nat.zero_le, hR, g4, k6, K9t, a0, a1, a2, e1', n10, true_or, or_true, Bool.false_eq_true, Bool.true_eq_false, if_true, if_false, not_true_eq_false, not_false_eq_true, zle, eq_self]
          have FF : fmC T J (ip_up J1 5 2 (Int32.ofNat (h + 1))) L L2 := fm_t F0 (fm_t F1 (fm_5 O2))
          cases o with
          | inl q =>
            obtain ⟨J3, L3, A3, Y3, F3⟩ := Q
            exact ⟨J3, L3, fun D hD => W _ D hD (A3 D hD), Y3, fm_t FF F3⟩
          | inr r =>
            obtain ⟨J3, L3, st3, A3, Y3, V3, S3, F3⟩ := Q
            exact ⟨J3, L3, st3, fun D hD => W _ D hD (A3 D hD), Y3, V3, fun i hi => by rw [S3 i hi, pst_n (by omega), S1 i (by omega)], fm_t FF F3⟩
      · rename_i hk
        have e := Option.some.inj e
        subst e
        refine ⟨J, L, st, fun D hD => ?_, X, hv, fun _ _ => rfl, fm_r⟩
        rw [e57_12]
        by_cases q4 : 400 ≤ i
        · have g4 : ((400 : Int32) ≤ Int32.ofNat i) = True := eq_true ((nu_le (t := 400) (by omega) (by omega)).mpr q4)
          simp only [e57_0, e57_1, e57_2, e57_5, e57_8, e57_9, e57_10, e57_11, e57_13, e57_16, e57_19, e57_20, e57_23, e57_25, e57_28, e57_29, e57_32, e57_33, e57_34, e57_37, e57_40, e57_41, e57_42, e57_43, e57_46, e57_47, e57_50, e57_53, e57_56, e57_57, rk_n, rk_v, nl_n, nl_i, nl_r, cat_n, ip_cat_int, ip_cat_ref, ip_cat_long, ip_rf_some, Nat.reduceAdd, Nat.reduceLeDiff, Nat.reduceLT, Nat.le_refl, Nat.zero_le, g4, true_or, or_true, Bool.false_eq_true, Bool.true_eq_false, if_true, if_false, not_true_eq_false, not_false_eq_true, zle, eq_self]
        · have g4 : ((400 : Int32) ≤ Int32.ofNat i) = False := eq_false (fun e => q4 ((nu_le (t := 400) (by omega) (by omega)).mp e))
          simp only [e57_0, e57_1, e57_2, e57_5, e57_8, e57_9, e57_10, e57_11, e57_13, e57_16, e57_19, e57_20, e57_23, e57_25, e57_28, e57_29, e57_32, e57_33, e57_34, e57_37, e57_40, e57_41, e57_42, e57_43, e57_46, e57_47, e57_50, e57_53, e57_56, e57_57, rk_n, rk_v, nl_n, nl_i, nl_r, cat_n, ip_cat_int, ip_cat_ref, ip_cat_long, ip_rf_some, Nat.reduceAdd, Nat.reduceLeDiff, Nat.reduceLT, Nat.le_refl, Nat.zero_le, g4, k6, K9, hk, true_or, or_true, Bool.false_eq_true, Bool.true_eq_false, if_true, if_false, not_true_eq_false, not_false_eq_true, zle, eq_self]
    · intro d p nm cs v k h st J L o hd X e
      rw [sp_2] at e
      rcases bnd_c e with ⟨q, e1, e2⟩ | ⟨p1, nm1, cs1, v1, j1, e1, e2⟩
      · subst e2
        obtain ⟨J1, L1, A1, Y1, F1⟩ := i4 d p nm _ _ _ h st J L _ hd X e1
        refine ⟨J1, L1, fun D hD => ?_, Y1, F1⟩
        obtain ⟨E, rfl⟩ : ∃ E, D = E + 1 := ⟨D - 1, by omega⟩
        have a1 := A1 E (by omega)
        simp only [en58, e58_0, e58_1, e58_2, e58_5, e58_8, e58_9, e58_10, e58_11, e58_13, e58_16, e58_19, e58_20, e58_23, e58_25, e58_28, e58_29, e58_32, e58_33, e58_34, e58_37, e58_40, e58_41, e58_42, e58_43, e58_46, e58_47, e58_50, e58_53, e58_56, e58_57, rk_n, rk_v, nl_n, nl_i, nl_r, cat_n, ip_cat_int, ip_cat_ref, ip_cat_long, ip_rf_some, Nat.reduceAdd, Nat.reduceLeDiff, Nat.reduceLT, Nat.le_refl, Nat.zero_le, a1, true_or, or_true, Bool.false_eq_true, Bool.true_eq_false, if_true, if_false, not_true_eq_false, not_false_eq_true, zle, eq_self]
      · obtain ⟨J1, L1, st1, A1, Y1, V1, S1, F1⟩ := i4 d p nm _ _ _ h st J L _ hd X e1
        have Q := i3 d p1 nm1 cs1 v1 0 h st1 J1 L1 o 0 hd Y1 V1 (by omega) e2
        have W : ∀ r D, 4 * (6 - d) + 9 ≤ D → rf D 58 12 [some (.ref 4), some (.int (Int32.ofNat d)), some (.int (Int32.ofNat 0))] [] (SH n, J1, L1, R, nc, ns, nx) = r → cf D 58 [.ref 4, .int (Int32.ofNat d)] (SH n, J, L, R, nc, ns, nx) = r := by
          intro r D hD a2
          obtain ⟨E, rfl⟩ : ∃ E, D = E + 1 := ⟨D - 1, by omega⟩
          have a1 := A1 E (by omega)
          have a2 : rf (E + 1) 58 12 [some (.ref 4), some (.int (Int32.ofNat d)), some (.int 0)] [] (SH n, J1, L1, R, nc, ns, nx) = r := a2
          rw [← a2]
          simp only [en58, e58_0, e58_1, e58_2, e58_5, e58_8, e58_9, e58_10, e58_11, e58_13, e58_16, e58_19, e58_20, e58_23, e58_25, e58_28, e58_29, e58_32, e58_33, e58_34, e58_37, e58_40, e58_41, e58_42, e58_43, e58_46, e58_47, e58_50, e58_53, e58_56, e58_57, rk_n, rk_v, nl_n, nl_i, nl_r, cat_n, ip_cat_int, ip_cat_ref, ip_cat_long, ip_rf_some, Nat.reduceAdd, Nat.reduceLeDiff, Nat.reduceLT, Nat.le_refl, Nat.zero_le, a1, n10, Bool.false_eq_true, Bool.true_eq_false, if_true, if_false, not_true_eq_false, not_false_eq_true, zle, eq_self]
        cases o with
        | inl q =>
          obtain ⟨J2, L2, A2, Y2, F2⟩ := Q
          exact ⟨J2, L2, fun D hD => W _ D hD (A2 D hD), Y2, fm_t F1 F2⟩
        | inr r =>
          obtain ⟨J2, L2, st2, A2, Y2, V2, S2, F2⟩ := Q
          exact ⟨J2, L2, st2, fun D hD => W _ D hD (A2 D hD), Y2, V2, fun i hi => (S2 i hi).trans (S1 i hi), fm_t F1 F2⟩
    · intro d p nm cs v k h st J L o i hd X hv hi e
      have l4 : i < 2147483648 := by have := X.2.1; omega
      have k6 := X.1.2.2.2.1
      have K9 := kd_i (B := B) (t := t) (p := p) (k := 10) (by omega)
      have K9 : (Int32.ofNat (kdT B t p) = 10) = (kdT B t p = 10) := K9
      rw [sp_3] at e
      split at e
      · rename_i hk
        have lt := (kd_en (j := 10) (by omega) hk).2.1
        have K9t := K9.trans (eq_true hk)
        have g4 : ((400 : Int32) ≤ Int32.ofNat i) = False := eq_false (fun e => by have := (nu_le (t := 400) (by omega) (by omega)).mp e; omega)
        have e1' : Int32.ofNat i + 1 = Int32.ofNat (i + 1) := nu_add (s := 1)
        have NX := (nxT_le (B := B) X.2.1).2.2 lt
        obtain ⟨J0, A0, Y0, F0⟩ := advc (n := n) (nc := nc) (ns := ns) (nx := nx) ht hT2 hr X
        rcases bnd_c e with ⟨q, e1, e2⟩ | ⟨p1, nm1, cs1, v1, j1, e1, e2⟩
        · subst e2
          obtain ⟨J1, L1, A1, Y1, F1⟩ := i4 d _ nm _ _ _ (h + 1) st J0 L _ hd Y0 e1
          refine ⟨J1, L1, fun D hD => ?_, Y1, fm_t F0 F1⟩
          obtain ⟨E, rfl⟩ : ∃ E, D = E + 1 := ⟨D - 1, by omega⟩
          have a0 := A0 E (by omega)
          have a1 := A1 E (by omega)
          rw [e58_12]
          simp only [e58_0, e58_1, e58_2, e58_5, e58_8, e58_9, e58_10, e58_11, e58_13, e58_16, e58_19, e58_20, e58_23, e58_25, e58_28, e58_29, e58_32, e58_33, e58_34, e58_37, e58_40, e58_41, e58_42, e58_43, e58_46, e58_47, e58_50, e58_53, e58_56, e58_57, rk_n, rk_v, nl_n, nl_i, nl_r, cat_n, ip_cat_int, ip_cat_ref, ip_cat_long, ip_rf_some, Nat.reduceAdd, Nat.reduceLeDiff, Nat.reduceLT, Nat.le_refl, Nat.zero_le, g4, k6, K9t, a0, a1, true_or, or_true, Bool.false_eq_true, Bool.true_eq_false, if_true, if_false, not_true_eq_false, not_false_eq_true, zle, eq_self]
        · obtain ⟨J1, L1, st1, A1, Y1, V1, S1, F1⟩ := i4 d _ nm _ _ _ (h + 1) st J0 L _ hd Y0 e1
          have ok := OK _ _ _ _ _ _ _ _ (by omega) Y0.2.1 Y0.2.2.2.2.2.1 (by omega) e1
          have le1v : le1 v1 := by have := ok.2.2.2.2.2; rw [if_neg (by omega), if_neg (by omega)] at this; exact this.2.1
          have pp : nxT B t p ≤ p1 := ok.1
          have Yh := Y1.2.2.2.2.2.2.1
          have n40 := Y1.2.2.2.2.2.1
          obtain ⟨L2, A2, X2, O2⟩ := c70 (n := n) (nc := nc) (ns := ns) (nx := nx) (h := h) hR Y1.2.2.2.2.2.2.2.1 (by omega) (by rw [S1 h (by omega)]; exact X.2.2.2.2.2.2.2.2.1 h (by omega)) (by rw [V1]; exact le1v) true
          rw [if_pos rfl, V1, S1 h (by omega), hv] at X2
          have Y2 := CLs_tb hT2 Y1 X2 O2 (by omega) (fun q hq => by
            by_cases z : q = h
            · subst z; rw [pst_e]; exact le1_and (by rw [← hv]; exact X.2.2.2.2.2.2.2.2.1 q (by omega)) le1v
            · rw [pst_n z]; exact Y1.2.2.2.2.2.2.2.2.1 q (by omega))
          have Q := i3 d p1 nm1 _ _ 0 h _ _ L2 o (i + 1) hd Y2 pst_e (by omega) e2
          have W : ∀ r D, 4 * (6 - d) + 9 ≤ D → rf D 58 12 [some (.ref 4), some (.int (Int32.ofNat d)), some (.int (Int32.ofNat (i + 1)))] [] (SH n, ip_up J1 5 2 (Int32.ofNat (h + 1)), L2, R, nc, ns, nx) = r → rf D 58 12 [some (.ref 4), some (.int (Int32.ofNat d)), some (.int (Int32.ofNat i))] [] (SH n, J, L, R, nc, ns, nx) = r := by
            intro r D hD a3
            obtain ⟨E, rfl⟩ : ∃ E, D = E + 1 := ⟨D - 1, by omega⟩
            have a0 := A0 E (by omega)
            have a1 := A1 E (by omega)
            have a2 : cf E 70 [.ref 5, .int 1] (SH n, J1, L1, R, nc, ns, nx) = _ := A2 E
            rw [← a3, e58_12]
            simp only [e58_0, e58_1, e58_2, e58_5, e58_8, e58_9, e58_10, e58_11, e58_13, e58_16, e58_19, e58_20, e58_23, e58_25, e58_28, e58_29, e58_32, e58_33, e58_34, e58_37, e58_40, e58_41, e58_42, e58_43, e58_46, e58_47, e58_50, e58_53, e58_56, e58_57, rk_n, rk_v, nl_n, nl_i, nl_r, cat_n, ip_cat_int, ip_cat_ref, ip_cat_long, ip_rf_some, Nat.reduceAdd, Nat.reduceLeDiff, Nat.reduceLT, Nat.le_refl, Nat.zero_le, hR, g4, k6, K9t, a0, a1, a2, e1', n10, true_or, or_true, Bool.false_eq_true, Bool.true_eq_false, if_true, if_false, not_true_eq_false, not_false_eq_true, zle, eq_self]
          have FF : fmC T J (ip_up J1 5 2 (Int32.ofNat (h + 1))) L L2 := fm_t F0 (fm_t F1 (fm_5 O2))
          cases o with
          | inl q =>
            obtain ⟨J3, L3, A3, Y3, F3⟩ := Q
            exact ⟨J3, L3, fun D hD => W _ D hD (A3 D hD), Y3, fm_t FF F3⟩
          | inr r =>
            obtain ⟨J3, L3, st3, A3, Y3, V3, S3, F3⟩ := Q
            exact ⟨J3, L3, st3, fun D hD => W _ D hD (A3 D hD), Y3, V3, fun i hi => by rw [S3 i hi, pst_n (by omega), S1 i (by omega)], fm_t FF F3⟩
      · rename_i hk
        have e := Option.some.inj e
        subst e
        refine ⟨J, L, st, fun D hD => ?_, X, hv, fun _ _ => rfl, fm_r⟩
        rw [e58_12]
        by_cases q4 : 400 ≤ i
        · have g4 : ((400 : Int32) ≤ Int32.ofNat i) = True := eq_true ((nu_le (t := 400) (by omega) (by omega)).mpr q4)
          simp only [e58_0, e58_1, e58_2, e58_5, e58_8, e58_9, e58_10, e58_11, e58_13, e58_16, e58_19, e58_20, e58_23, e58_25, e58_28, e58_29, e58_32, e58_33, e58_34, e58_37, e58_40, e58_41, e58_42, e58_43, e58_46, e58_47, e58_50, e58_53, e58_56, e58_57, rk_n, rk_v, nl_n, nl_i, nl_r, cat_n, ip_cat_int, ip_cat_ref, ip_cat_long, ip_rf_some, Nat.reduceAdd, Nat.reduceLeDiff, Nat.reduceLT, Nat.le_refl, Nat.zero_le, g4, true_or, or_true, Bool.false_eq_true, Bool.true_eq_false, if_true, if_false, not_true_eq_false, not_false_eq_true, zle, eq_self]
        · have g4 : ((400 : Int32) ≤ Int32.ofNat i) = False := eq_false (fun e => q4 ((nu_le (t := 400) (by omega) (by omega)).mp e))
          simp only [e58_0, e58_1, e58_2, e58_5, e58_8, e58_9, e58_10, e58_11, e58_13, e58_16, e58_19, e58_20, e58_23, e58_25, e58_28, e58_29, e58_32, e58_33, e58_34, e58_37, e58_40, e58_41, e58_42, e58_43, e58_46, e58_47, e58_50, e58_53, e58_56, e58_57, rk_n, rk_v, nl_n, nl_i, nl_r, cat_n, ip_cat_int, ip_cat_ref, ip_cat_long, ip_rf_some, Nat.reduceAdd, Nat.reduceLeDiff, Nat.reduceLT, Nat.le_refl, Nat.zero_le, g4, k6, K9, hk, true_or, or_true, Bool.false_eq_true, Bool.true_eq_false, if_true, if_false, not_true_eq_false, not_false_eq_true, zle, eq_self]
    · intro d p nm cs v k h st J L o hd X e
      have k6 := X.1.2.2.2.1
      have e1' : Int32.ofNat d + 1 = Int32.ofNat (d + 1) := nu_add (s := 1)
      have G6 : ((6 : Int32) ≤ Int32.ofNat d) = ¬ d < 6 := by
        apply propext
        constructor
        · intro e h; have := (nu_le (t := 6) (by omega) (by omega)).mp e; omega
        · intro e; exact (nu_le (t := 6) (by omega) (by omega)).mpr (by omega)
      have G6' : (Int32.ofNat d < 6) = (d < 6) := propext (nu_lt (s := 6) (by omega) (by omega))
      rw [sp_4] at e
      unfold spP at e
      split at e
      · rename_i hk
        rw [hk] at k6
        have k6 : J 4 6 = 11 := k6
        split at e
        · rename_i hd6
          obtain ⟨J0, A0, Y0, F0⟩ := advc (n := n) (nc := nc) (ns := ns) (nx := nx) ht hT2 hr X
          rcases bnd_c e with ⟨q, e1, e2⟩ | ⟨p1, nm1, cs1, v1, j1, e1, e2⟩
          · subst e2
            obtain ⟨J1, L1, A1, Y1, F1⟩ := i4 (d + 1) _ nm _ _ _ h st J0 L _ (by omega) Y0 e1
            refine ⟨J1, L1, fun D hD => ?_, Y1, fm_t F0 F1⟩
            obtain ⟨E, rfl⟩ : ∃ E, D = E + 1 + 1 := ⟨D - 2, by omega⟩
            have a0 := A0 E (by omega)
            have a1 := A1 E (by omega)
            simp only [en59, e59_0, e59_1, e59_48, e59_49, e59_51, e59_54, e59_55, e59_56, e59_59, e59_62, e59_63, e59_66, e59_67, e59_68, e59_69, e59_72, e59_73, e59_74, e59_76, e59_79, e59_80, e59_81, e59_84, e59_87, e59_88, e59_91, e59_92, e59_93, e59_94, e59_95, e59_98, e59_99, e59_100, e59_4_11, en60, e60_0, e60_1, e60_4, e60_5, e60_6, e60_7, e60_8, e60_11, e60_14, e60_15, e60_16, e60_17, e60_20, e60_23, e60_24, rk_n, rk_v, nl_n, nl_i, nl_r, cat_n, ip_cat_int, ip_cat_ref, ip_cat_long, ip_rf_some, Nat.reduceAdd, Nat.reduceLeDiff, Nat.reduceLT, Nat.le_refl, Nat.zero_le, k6, G6, hd6, e1', a0, a1, true_or, or_true, Bool.false_eq_true, Bool.true_eq_false, if_true, if_false, not_true_eq_false, not_false_eq_true, zle, eq_self]
          · have e2 := Option.some.inj e2
            subst e2
            obtain ⟨J1, L1, st1, A1, Y1, V1, S1, F1⟩ := i4 (d + 1) _ nm _ _ _ h st J0 L _ (by omega) Y0 e1
            have Yh := Y1.2.2.2.2.2.2.1
            have n40 := Y1.2.2.2.2.2.1
            obtain ⟨L2, A2, X2, O2⟩ := c61 (n := n) (nc := nc) (ns := ns) (nx := nx) (h := h) hR Y1.2.2.2.2.2.2.2.1 (by omega) (Y1.2.2.2.2.2.2.2.2.1 h (by omega))
            rw [V1] at X2
            refine ⟨J1, L2, _, fun D hD => ?_, CLs_tn Y1 X2 O2 (fun q hq => ?_), pst_e, fun i hi => by rw [pst_n (by omega)]; exact S1 i hi, fm_t F0 (fm_t F1 (fm_0 O2))⟩
            · obtain ⟨E, rfl⟩ : ∃ E, D = E + 1 + 1 := ⟨D - 2, by omega⟩
              have a0 := A0 E (by omega)
              have a1 := A1 E (by omega)
              have a2 := A2 E
              simp only [en59, e59_0, e59_1, e59_48, e59_49, e59_51, e59_54, e59_55, e59_56, e59_59, e59_62, e59_63, e59_66, e59_67, e59_68, e59_69, e59_72, e59_73, e59_74, e59_76, e59_79, e59_80, e59_81, e59_84, e59_87, e59_88, e59_91, e59_92, e59_93, e59_94, e59_95, e59_98, e59_99, e59_100, e59_4_11, en60, e60_0, e60_1, e60_4, e60_5, e60_6, e60_7, e60_8, e60_11, e60_14, e60_15, e60_16, e60_17, e60_20, e60_23, e60_24, rk_n, rk_v, nl_n, nl_i, nl_r, cat_n, ip_cat_int, ip_cat_ref, ip_cat_long, ip_rf_some, Nat.reduceAdd, Nat.reduceLeDiff, Nat.reduceLT, Nat.le_refl, Nat.zero_le, hR, k6, G6, hd6, e1', a0, a1, a2, n10, true_or, or_true, Bool.false_eq_true, Bool.true_eq_false, if_true, if_false, not_true_eq_false, not_false_eq_true, zle, eq_self]
            · by_cases z : q = h
              · subst z; rw [pst_e]; exact le1_not
              · rw [pst_n z]; exact Y1.2.2.2.2.2.2.2.2.1 q (by omega)
        · rename_i hd6
          have e := Option.some.inj e
          subst e
          refine ⟨J, L, fun D hD => ?_, X.1, fm_r⟩
          simp only [en59, e59_0, e59_1, e59_48, e59_49, e59_51, e59_54, e59_55, e59_56, e59_59, e59_62, e59_63, e59_66, e59_67, e59_68, e59_69, e59_72, e59_73, e59_74, e59_76, e59_79, e59_80, e59_81, e59_84, e59_87, e59_88, e59_91, e59_92, e59_93, e59_94, e59_95, e59_98, e59_99, e59_100, e59_4_11, rk_n, rk_v, nl_n, nl_i, nl_r, cat_n, ip_cat_int, ip_cat_ref, ip_cat_long, ip_rf_some, Nat.reduceAdd, Nat.reduceLeDiff, Nat.reduceLT, Nat.le_refl, Nat.zero_le, k6, G6, hd6, true_or, or_true, Bool.false_eq_true, Bool.true_eq_false, if_true, if_false, not_true_eq_false, not_false_eq_true, zle, eq_self]
      · rename_i nk11
        split at e
        · rename_i hk
          rw [hk] at k6
          have k6 : J 4 6 = 13 := k6
          have Q := c62 (n := n) (nc := nc) (ns := ns) (nx := nx) hR ht hT2 hT hr rT hc8 X hk o e
          cases o with
          | inl q =>
            obtain ⟨J1, L1, A1, Y1, F1⟩ := Q
            refine ⟨J1, L1, fun D hD => ?_, Y1, F1⟩
            obtain ⟨E, rfl⟩ : ∃ E, D = E + 1 := ⟨D - 1, by omega⟩
            have a1 := A1 E (by omega)
            simp only [en59, e59_0, e59_1, e59_48, e59_49, e59_51, e59_54, e59_55, e59_56, e59_59, e59_62, e59_63, e59_66, e59_67, e59_68, e59_69, e59_72, e59_73, e59_74, e59_76, e59_79, e59_80, e59_81, e59_84, e59_87, e59_88, e59_91, e59_92, e59_93, e59_94, e59_95, e59_98, e59_99, e59_100, e59_4_13, rk_n, rk_v, nl_n, nl_i, nl_r, cat_n, ip_cat_int, ip_cat_ref, ip_cat_long, ip_rf_some, Nat.reduceAdd, Nat.reduceLeDiff, Nat.reduceLT, Nat.le_refl, Nat.zero_le, k6, a1, true_or, or_true, Bool.false_eq_true, Bool.true_eq_false, if_true, if_false, not_true_eq_false, not_false_eq_true, zle, eq_self]
          | inr r =>
            obtain ⟨J1, L1, st1, A1, Y1, V1, S1, F1⟩ := Q
            refine ⟨J1, L1, st1, fun D hD => ?_, Y1, V1, S1, F1⟩
            obtain ⟨E, rfl⟩ : ∃ E, D = E + 1 := ⟨D - 1, by omega⟩
            have a1 := A1 E (by omega)
            simp only [en59, e59_0, e59_1, e59_48, e59_49, e59_51, e59_54, e59_55, e59_56, e59_59, e59_62, e59_63, e59_66, e59_67, e59_68, e59_69, e59_72, e59_73, e59_74, e59_76, e59_79, e59_80, e59_81, e59_84, e59_87, e59_88, e59_91, e59_92, e59_93, e59_94, e59_95, e59_98, e59_99, e59_100, e59_4_13, rk_n, rk_v, nl_n, nl_i, nl_r, cat_n, ip_cat_int, ip_cat_ref, ip_cat_long, ip_rf_some, Nat.reduceAdd, Nat.reduceLeDiff, Nat.reduceLT, Nat.le_refl, Nat.zero_le, k6, a1, true_or, or_true, Bool.false_eq_true, Bool.true_eq_false, if_true, if_false, not_true_eq_false, not_false_eq_true, zle, eq_self]
        · rename_i nk13
          split at e
          · rename_i hk
            rw [hk] at k6
            have k6 : J 4 6 = 40 := k6
            split at e
            · rename_i hd6
              obtain ⟨J0, A0, Y0, F0⟩ := advc (n := n) (nc := nc) (ns := ns) (nx := nx) ht hT2 hr X
              rcases bnd_c e with ⟨q, e1, e2⟩ | ⟨p1, nm1, cs1, v1, j1, e1, e2⟩
              · subst e2
                obtain ⟨J1, L1, A1, Y1, F1⟩ := i0 (d + 1) _ nm _ _ _ h st J0 L _ (by omega) Y0 e1
                refine ⟨J1, L1, fun D hD => ?_, Y1, fm_t F0 F1⟩
                obtain ⟨E, rfl⟩ : ∃ E, D = E + 1 + 1 := ⟨D - 2, by omega⟩
                have a0 := A0 E (by omega)
                have a1 := A1 E (by omega)
                simp only [en59, e59_0, e59_1, e59_48, e59_49, e59_51, e59_54, e59_55, e59_56, e59_59, e59_62, e59_63, e59_66, e59_67, e59_68, e59_69, e59_72, e59_73, e59_74, e59_76, e59_79, e59_80, e59_81, e59_84, e59_87, e59_88, e59_91, e59_92, e59_93, e59_94, e59_95, e59_98, e59_99, e59_100, e59_4_40, en65, e65_0, e65_1, e65_4, e65_5, e65_6, e65_7, e65_8, e65_11, e65_14, e65_15, e65_17, e65_20, e65_23, e65_24, e65_27, e65_28, rk_n, rk_v, nl_n, nl_i, nl_r, cat_n, ip_cat_int, ip_cat_ref, ip_cat_long, ip_rf_some, Nat.reduceAdd, Nat.reduceLeDiff, Nat.reduceLT, Nat.le_refl, Nat.zero_le, k6, G6, hd6, e1', a0, a1, true_or, or_true, Bool.false_eq_true, Bool.true_eq_false, if_true, if_false, not_true_eq_false, not_false_eq_true, zle, eq_self]
              · obtain ⟨J1, L1, st1, A1, Y1, V1, S1, F1⟩ := i0 (d + 1) _ nm _ _ _ h st J0 L _ (by omega) Y0 e1
                split at e2
                · rename_i hk1
                  have e2 := Option.some.inj e2
                  subst e2
                  obtain ⟨J2, A2, Y2, F2⟩ := passc (n := n) (nc := nc) (ns := ns) (nx := nx) (k := 41) ht hT2 hr Y1 (by omega) hk1
                  refine ⟨J2, L1, st1, fun D hD => ?_, Y2, V1, S1, fm_t F0 (fm_t F1 F2)⟩
                  obtain ⟨E, rfl⟩ : ∃ E, D = E + 1 + 1 := ⟨D - 2, by omega⟩
                  have a0 := A0 E (by omega)
                  have a1 := A1 E (by omega)
                  have a2 : cf E 53 [.ref 4, .int 41] (SH n, J1, L1, R, nc, ns, nx) = _ := A2 E (by omega)
                  simp only [en59, e59_0, e59_1, e59_48, e59_49, e59_51, e59_54, e59_55, e59_56, e59_59, e59_62, e59_63, e59_66, e59_67, e59_68, e59_69, e59_72, e59_73, e59_74, e59_76, e59_79, e59_80, e59_81, e59_84, e59_87, e59_88, e59_91, e59_92, e59_93, e59_94, e59_95, e59_98, e59_99, e59_100, e59_4_40, en65, e65_0, e65_1, e65_4, e65_5, e65_6, e65_7, e65_8, e65_11, e65_14, e65_15, e65_17, e65_20, e65_23, e65_24, e65_27, e65_28, rk_n, rk_v, nl_n, nl_i, nl_r, cat_n, ip_cat_int, ip_cat_ref, ip_cat_long, ip_rf_some, Nat.reduceAdd, Nat.reduceLeDiff, Nat.reduceLT, Nat.le_refl, Nat.zero_le, k6, G6, hd6, e1', a0, a1, a2, n10, true_or, or_true, Bool.false_eq_true, Bool.true_eq_false, if_true, if_false, not_true_eq_false, not_false_eq_true, zle, eq_self]
                · rename_i hk1
                  have e2 := Option.some.inj e2
                  subst e2
                  have A2 := passn (n := n) (L := L1) (R := R) (nc := nc) (ns := ns) (nx := nx) (k := 41) Y1.1 (by omega) hk1
                  refine ⟨J1, L1, fun D hD => ?_, Y1.1, fm_t F0 F1⟩
                  obtain ⟨E, rfl⟩ : ∃ E, D = E + 1 + 1 := ⟨D - 2, by omega⟩
                  have a0 := A0 E (by omega)
                  have a1 := A1 E (by omega)
                  have a2 : cf E 53 [.ref 4, .int 41] (SH n, J1, L1, R, nc, ns, nx) = _ := A2 E
                  simp only [en59, e59_0, e59_1, e59_48, e59_49, e59_51, e59_54, e59_55, e59_56, e59_59, e59_62, e59_63, e59_66, e59_67, e59_68, e59_69, e59_72, e59_73, e59_74, e59_76, e59_79, e59_80, e59_81, e59_84, e59_87, e59_88, e59_91, e59_92, e59_93, e59_94, e59_95, e59_98, e59_99, e59_100, e59_4_40, en65, e65_0, e65_1, e65_4, e65_5, e65_6, e65_7, e65_8, e65_11, e65_14, e65_15, e65_17, e65_20, e65_23, e65_24, e65_27, e65_28, rk_n, rk_v, nl_n, nl_i, nl_r, cat_n, ip_cat_int, ip_cat_ref, ip_cat_long, ip_rf_some, Nat.reduceAdd, Nat.reduceLeDiff, Nat.reduceLT, Nat.le_refl, Nat.zero_le, k6, G6, hd6, e1', a0, a1, a2, n10, true_or, or_true, Bool.false_eq_true, Bool.true_eq_false, if_true, if_false, not_true_eq_false, not_false_eq_true, zle, eq_self]
            · rename_i hd6
              have e := Option.some.inj e
              subst e
              refine ⟨J, L, fun D hD => ?_, X.1, fm_r⟩
              simp only [en59, e59_0, e59_1, e59_48, e59_49, e59_51, e59_54, e59_55, e59_56, e59_59, e59_62, e59_63, e59_66, e59_67, e59_68, e59_69, e59_72, e59_73, e59_74, e59_76, e59_79, e59_80, e59_81, e59_84, e59_87, e59_88, e59_91, e59_92, e59_93, e59_94, e59_95, e59_98, e59_99, e59_100, e59_4_40, rk_n, rk_v, nl_n, nl_i, nl_r, cat_n, ip_cat_int, ip_cat_ref, ip_cat_long, ip_rf_some, Nat.reduceAdd, Nat.reduceLeDiff, Nat.reduceLT, Nat.le_refl, Nat.zero_le, k6, G6, hd6, true_or, or_true, Bool.false_eq_true, Bool.true_eq_false, if_true, if_false, not_true_eq_false, not_false_eq_true, zle, eq_self]
          · rename_i nk40
            split at e
            · rename_i hk
              have pt := (kd_14e hk).2
              obtain ⟨nd1, nd2⟩ := ndd_lt hk
              rw [hk] at k6
              have k6 : J 4 6 = 14 := k6
              have lp : p < 2147483648 := by omega
              have p4 : p < 400 := by omega
              have k5 := X.1.2.2.1
              have kb := X.1.2.2.2.2 p pt
              obtain ⟨J0, A0, Y0, F0⟩ := advc (n := n) (nc := nc) (ns := ns) (nx := nx) ht hT2 hr X
              split at e
              · rename_i hk2
                obtain ⟨J1, A1, Y1, F1⟩ := passc (n := n) (nc := nc) (ns := ns) (nx := nx) (k := 12) ht hT2 hr Y0 (by omega) hk2
                have q6 := Y1.1.2.2.2.1
                have K40 : (Int32.ofNat (kdT B t (nxT B t (nxT B t p))) = 40) = (kdT B t (nxT B t (nxT B t p)) = 40) := kd_i (k := 40) (by omega)
                split at e
                · rename_i hk3
                  have lt3 := (kd_sn (s := 40) (by omega) hk3.1).2
                  have hd6 := hk3.2
                  have K40t := K40.trans (eq_true hk3.1)
                  rcases bnk_c e with ⟨q, e1, e2⟩ | ⟨p1, nm1, cs1, v1, j1, e1, e2⟩
                  · subst e2
                    have Q := i5 d _ nm [] (fun _ => 0) 0 h st J1 L _ (Int32.ofNat (ndd B p)) (by omega) Y1 (fun _ _ => rfl) (by omega) lt3 e1
                    obtain ⟨J2, L2, A2, Y2, F2⟩ := Q
                    refine ⟨J2, L2, fun D hD => ?_, Y2, fm_t F0 (fm_t F1 F2)⟩
                    obtain ⟨E, rfl⟩ : ∃ E, D = E + 1 + 1 := ⟨D - 2, by omega⟩
                    have a0 := A0 E (by omega)
                    have a1 : cf E 53 [.ref 4, .int 12] (SH n, J0, L, R, nc, ns, nx) = _ := A1 E (by omega)
                    have a2 : rf (E + 1) 66 45 [some (.ref 4), some (.int (Int32.ofNat d)), some (.int (Int32.ofNat (ndd B p))), some (.int 0)] [] (SH n, J1, L, R, nc, ns, nx) = _ := A2 (E + 1) (by omega)
                    simp only [en59, e59_0, e59_1, e59_48, e59_49, e59_51, e59_54, e59_55, e59_56, e59_59, e59_62, e59_63, e59_66, e59_67, e59_68, e59_69, e59_72, e59_73, e59_74, e59_76, e59_79, e59_80, e59_81, e59_84, e59_87, e59_88, e59_91, e59_92, e59_93, e59_94, e59_95, e59_98, e59_99, e59_100, e59_4_14, en66, e66_0, e66_1, e66_4, e66_5, e66_8, e66_9, e66_11, e66_12, e66_13, e66_14, e66_17, e66_18, e66_20, e66_23, e66_26, e66_27, e66_30, e66_32, e66_35, e66_36, e66_38, e66_43, e66_44, rk_n, rk_v, nl_n, nl_i, nl_r, cat_n, ip_cat_int, ip_cat_ref, ip_cat_long, ip_rf_some, Nat.reduceAdd, Nat.reduceLeDiff, Nat.reduceLT, Nat.le_refl, Nat.zero_le, k6, k5, kb, nd2, hr, ia_lit, nu_i, nu_tn, lp, p4, a0, a1, n10, q6, K40t, G6', hd6, true_or, or_true, Bool.false_eq_true, Bool.true_eq_false, if_true, if_false, not_true_eq_false, not_false_eq_true, zle, eq_self]
                    rw [a2]
                    simp only [rk_v, e59_0, e59_1, e59_48, e59_49, e59_51, e59_54, e59_55, e59_56, e59_59, e59_62, e59_63, e59_66, e59_67, e59_68, e59_69, e59_72, e59_73, e59_74, e59_76, e59_79, e59_80, e59_81, e59_84, e59_87, e59_88, e59_91, e59_92, e59_93, e59_94, e59_95, e59_98, e59_99, e59_100, rk_n, rk_v, nl_n, nl_i, nl_r, cat_n, ip_cat_int, ip_cat_ref, ip_cat_long, ip_rf_some, Nat.reduceAdd, Nat.reduceLeDiff, Nat.reduceLT, Nat.le_refl, Nat.zero_le, true_or, or_true, Bool.false_eq_true, Bool.true_eq_false, if_true, if_false, not_true_eq_false, not_false_eq_true, zle, eq_self]
                  · have Q := i5 d _ nm [] (fun _ => 0) 0 h st J1 L _ (Int32.ofNat (ndd B p)) (by omega) Y1 (fun _ _ => rfl) (by omega) lt3 e1
                    obtain ⟨J2, L2, st2, A2, Y2, V2, S2, k1, F2⟩ := Q
                    dsimp only at A2 Y2 V2 k1
                    split at e2
                    · rename_i hk4
                      have e2 := Option.some.inj e2
                      subst e2
                      obtain ⟨J3, A3, Y3, F3⟩ := passc (n := n) (nc := nc) (ns := ns) (nx := nx) (k := 41) ht hT2 hr Y2 (by omega) hk4
                      have Yh := Y3.2.2.2.2.2.2.1
                      have n40 := Y3.2.2.2.2.2.1
                      obtain ⟨L4, A4, X4, O4⟩ := c67 (n := n) (nc := nc) (ns := ns) (nx := nx) (h := h) (k := j1) (j := ndd B p) (v := v1) hR (by omega) Y3.2.2.2.2.2.2.2.1 k1 (by omega) (fun i hi => Y3.2.2.2.2.2.2.2.2.1 (h + i) (by omega)) V2
                      refine ⟨_, L4, _, fun D hD => ?_, CLs_tb hT2 Y3 X4 O4 (by dsimp only; omega) (fun q hq => ?_), pst_e, fun i hi => by rw [pst_n (by omega)]; exact S2 i hi, fm_t F0 (fm_t F1 (fm_t F2 (fm_t F3 (fm_5 O4))))⟩
                      · obtain ⟨E, rfl⟩ : ∃ E, D = E + 2 + 1 + 1 := ⟨D - 4, by omega⟩
                        have a0 := A0 (E + 2) (by omega)
                        have a1 : cf (E + 2) 53 [.ref 4, .int 12] (SH n, J0, L, R, nc, ns, nx) = _ := A1 (E + 2) (by omega)
                        have a2 : rf (E + 2 + 1) 66 45 [some (.ref 4), some (.int (Int32.ofNat d)), some (.int (Int32.ofNat (ndd B p))), some (.int 0)] [] (SH n, J1, L, R, nc, ns, nx) = _ := A2 (E + 2 + 1) (by omega)
                        have a3 : cf (E + 2) 53 [.ref 4, .int 41] (SH n, J2, L2, R, nc, ns, nx) = _ := A3 (E + 2) (by omega)
                        have a4 := A4 E
                        simp only [en59, e59_0, e59_1, e59_48, e59_49, e59_51, e59_54, e59_55, e59_56, e59_59, e59_62, e59_63, e59_66, e59_67, e59_68, e59_69, e59_72, e59_73, e59_74, e59_76, e59_79, e59_80, e59_81, e59_84, e59_87, e59_88, e59_91, e59_92, e59_93, e59_94, e59_95, e59_98, e59_99, e59_100, e59_4_14, en66, e66_0, e66_1, e66_4, e66_5, e66_8, e66_9, e66_11, e66_12, e66_13, e66_14, e66_17, e66_18, e66_20, e66_23, e66_26, e66_27, e66_30, e66_32, e66_35, e66_36, e66_38, e66_43, e66_44, rk_n, rk_v, nl_n, nl_i, nl_r, cat_n, ip_cat_int, ip_cat_ref, ip_cat_long, ip_rf_some, Nat.reduceAdd, Nat.reduceLeDiff, Nat.reduceLT, Nat.le_refl, Nat.zero_le, k6, k5, kb, nd2, hr, ia_lit, nu_i, nu_tn, lp, p4, a0, a1, n10, q6, K40t, G6', hd6, true_or, or_true, Bool.false_eq_true, Bool.true_eq_false, if_true, if_false, not_true_eq_false, not_false_eq_true, zle, eq_self]
                        rw [a2]
                        simp only [e66_80, e66_81, e66_83, e66_86, e66_91, e66_92, e66_95, e66_96, e66_97, e66_100, e66_101, e59_0, e59_1, e59_48, e59_49, e59_51, e59_54, e59_55, e59_56, e59_59, e59_62, e59_63, e59_66, e59_67, e59_68, e59_69, e59_72, e59_73, e59_74, e59_76, e59_79, e59_80, e59_81, e59_84, e59_87, e59_88, e59_91, e59_92, e59_93, e59_94, e59_95, e59_98, e59_99, e59_100, rk_n, rk_v, nl_n, nl_i, nl_r, cat_n, ip_cat_int, ip_cat_ref, ip_cat_long, ip_rf_some, Nat.reduceAdd, Nat.reduceLeDiff, Nat.reduceLT, Nat.le_refl, Nat.zero_le, hR, a3, a4, n10, true_or, or_true, Bool.false_eq_true, Bool.true_eq_false, if_true, if_false, not_true_eq_false, not_false_eq_true, zle, eq_self]
                      · by_cases z : q = h
                        · subst z; rw [pst_e]; exact le1_lst
                        · rw [pst_n z]; exact Y3.2.2.2.2.2.2.2.2.1 q (by omega)
                    · rename_i hk4
                      have e2 := Option.some.inj e2
                      subst e2
                      have A3 := passn (n := n) (L := L2) (R := R) (nc := nc) (ns := ns) (nx := nx) (k := 41) Y2.1 (by omega) hk4
                      refine ⟨J2, L2, fun D hD => ?_, Y2.1, fm_t F0 (fm_t F1 F2)⟩
                      obtain ⟨E, rfl⟩ : ∃ E, D = E + 1 + 1 := ⟨D - 2, by omega⟩
                      have a0 := A0 E (by omega)
                      have a1 : cf E 53 [.ref 4, .int 12] (SH n, J0, L, R, nc, ns, nx) = _ := A1 E (by omega)
                      have a2 : rf (E + 1) 66 45 [some (.ref 4), some (.int (Int32.ofNat d)), some (.int (Int32.ofNat (ndd B p))), some (.int 0)] [] (SH n, J1, L, R, nc, ns, nx) = _ := A2 (E + 1) (by omega)
                      have a3 : cf E 53 [.ref 4, .int 41] (SH n, J2, L2, R, nc, ns, nx) = _ := A3 E
                      simp only [en59, e59_0, e59_1, e59_48, e59_49, e59_51, e59_54, e59_55, e59_56, e59_59, e59_62, e59_63, e59_66, e59_67, e59_68, e59_69, e59_72, e59_73, e59_74, e59_76, e59_79, e59_80, e59_81, e59_84, e59_87, e59_88, e59_91, e59_92, e59_93, e59_94, e59_95, e59_98, e59_99, e59_100, e59_4_14, en66, e66_0, e66_1, e66_4, e66_5, e66_8, e66_9, e66_11, e66_12, e66_13, e66_14, e66_17, e66_18, e66_20, e66_23, e66_26, e66_27, e66_30, e66_32, e66_35, e66_36, e66_38, e66_43, e66_44, rk_n, rk_v, nl_n, nl_i, nl_r, cat_n, ip_cat_int, ip_cat_ref, ip_cat_long, ip_rf_some, Nat.reduceAdd, Nat.reduceLeDiff, Nat.reduceLT, Nat.le_refl, Nat.zero_le, k6, k5, kb, nd2, hr, ia_lit, nu_i, nu_tn, lp, p4, a0, a1, n10, q6, K40t, G6', hd6, true_or, or_true, Bool.false_eq_true, Bool.true_eq_false, if_true, if_false, not_true_eq_false, not_false_eq_true, zle, eq_self]
                      rw [a2]
                      simp only [e66_80, e66_81, e66_83, e66_86, e66_89, e66_90, e59_0, e59_1, e59_48, e59_49, e59_51, e59_54, e59_55, e59_56, e59_59, e59_62, e59_63, e59_66, e59_67, e59_68, e59_69, e59_72, e59_73, e59_74, e59_76, e59_79, e59_80, e59_81, e59_84, e59_87, e59_88, e59_91, e59_92, e59_93, e59_94, e59_95, e59_98, e59_99, e59_100, rk_n, rk_v, nl_n, nl_i, nl_r, cat_n, ip_cat_int, ip_cat_ref, ip_cat_long, ip_rf_some, Nat.reduceAdd, Nat.reduceLeDiff, Nat.reduceLT, Nat.le_refl, Nat.zero_le, a3, true_or, or_true, Bool.false_eq_true, Bool.true_eq_false, if_true, if_false, not_true_eq_false, not_false_eq_true, zle, eq_self]
                · rename_i hk3
                  have e := Option.some.inj e
                  subst e
                  refine ⟨J1, L, fun D hD => ?_, Y1.1, fm_t F0 F1⟩
                  obtain ⟨E, rfl⟩ : ∃ E, D = E + 1 + 1 := ⟨D - 2, by omega⟩
                  have a0 := A0 E (by omega)
                  have a1 : cf E 53 [.ref 4, .int 12] (SH n, J0, L, R, nc, ns, nx) = _ := A1 E (by omega)
                  by_cases h40 : kdT B t (nxT B t (nxT B t p)) = 40
                  · have hd6 : ¬ d < 6 := fun z => hk3 ⟨h40, z⟩
                    have K40t := K40.trans (eq_true h40)
                    simp only [en59, e59_0, e59_1, e59_48, e59_49, e59_51, e59_54, e59_55, e59_56, e59_59, e59_62, e59_63, e59_66, e59_67, e59_68, e59_69, e59_72, e59_73, e59_74, e59_76, e59_79, e59_80, e59_81, e59_84, e59_87, e59_88, e59_91, e59_92, e59_93, e59_94, e59_95, e59_98, e59_99, e59_100, e59_4_14, en66, e66_0, e66_1, e66_4, e66_5, e66_8, e66_9, e66_11, e66_12, e66_13, e66_14, e66_17, e66_18, e66_20, e66_23, e66_26, e66_27, e66_30, e66_32, e66_35, e66_36, e66_38, e66_41, e66_42, e66_43, e66_44, e66_46, e66_49, e66_50, e66_51, e66_52, e66_53, e66_56, e66_59, e66_60, e66_61, e66_64, e66_65, e66_68, e66_70, e66_73, e66_74, e66_77, e66_80, e66_81, e66_83, e66_86, e66_89, e66_90, e66_91, e66_92, e66_95, e66_96, e66_97, e66_100, e66_101, rk_n, rk_v, nl_n, nl_i, nl_r, cat_n, ip_cat_int, ip_cat_ref, ip_cat_long, ip_rf_some, Nat.reduceAdd, Nat.reduceLeDiff, Nat.reduceLT, Nat.le_refl, Nat.zero_le, k6, k5, kb, nd2, hr, ia_lit, nu_i, nu_tn, lp, p4, a0, a1, n10, q6, K40t, G6', hd6, true_or, or_true, Bool.false_eq_true, Bool.true_eq_false, if_true, if_false, not_true_eq_false, not_false_eq_true, zle, eq_self]
                  · simp only [en59, e59_0, e59_1, e59_48, e59_49, e59_51, e59_54, e59_55, e59_56, e59_59, e59_62, e59_63, e59_66, e59_67, e59_68, e59_69, e59_72, e59_73, e59_74, e59_76, e59_79, e59_80, e59_81, e59_84, e59_87, e59_88, e59_91, e59_92, e59_93, e59_94, e59_95, e59_98, e59_99, e59_100, e59_4_14, en66, e66_0, e66_1, e66_4, e66_5, e66_8, e66_9, e66_11, e66_12, e66_13, e66_14, e66_17, e66_18, e66_20, e66_23, e66_26, e66_27, e66_30, e66_32, e66_35, e66_36, e66_38, e66_41, e66_42, e66_43, e66_44, e66_46, e66_49, e66_50, e66_51, e66_52, e66_53, e66_56, e66_59, e66_60, e66_61, e66_64, e66_65, e66_68, e66_70, e66_73, e66_74, e66_77, e66_80, e66_81, e66_83, e66_86, e66_89, e66_90, e66_91, e66_92, e66_95, e66_96, e66_97, e66_100, e66_101, rk_n, rk_v, nl_n, nl_i, nl_r, cat_n, ip_cat_int, ip_cat_ref, ip_cat_long, ip_rf_some, Nat.reduceAdd, Nat.reduceLeDiff, Nat.reduceLT, Nat.le_refl, Nat.zero_le, k6, k5, kb, nd2, hr, ia_lit, nu_i, nu_tn, lp, p4, a0, a1, n10, q6, K40, h40, true_or, or_true, Bool.false_eq_true, Bool.true_eq_false, if_true, if_false, not_true_eq_false, not_false_eq_true, zle, eq_self]
              · rename_i hk2
                have e := Option.some.inj e
                subst e
                have A1 := passn (n := n) (L := L) (R := R) (nc := nc) (ns := ns) (nx := nx) (k := 12) Y0.1 (by omega) hk2
                refine ⟨J0, L, fun D hD => ?_, Y0.1, F0⟩
                obtain ⟨E, rfl⟩ : ∃ E, D = E + 1 + 1 := ⟨D - 2, by omega⟩
                have a0 := A0 E (by omega)
                have a1 : cf E 53 [.ref 4, .int 12] (SH n, J0, L, R, nc, ns, nx) = _ := A1 E
                simp only [en59, e59_0, e59_1, e59_48, e59_49, e59_51, e59_54, e59_55, e59_56, e59_59, e59_62, e59_63, e59_66, e59_67, e59_68, e59_69, e59_72, e59_73, e59_74, e59_76, e59_79, e59_80, e59_81, e59_84, e59_87, e59_88, e59_91, e59_92, e59_93, e59_94, e59_95, e59_98, e59_99, e59_100, e59_4_14, en66, e66_0, e66_1, e66_4, e66_5, e66_8, e66_9, e66_11, e66_12, e66_13, e66_14, e66_17, e66_18, e66_20, e66_23, e66_26, e66_27, e66_30, e66_32, e66_35, e66_36, e66_38, e66_41, e66_42, e66_43, e66_44, e66_46, e66_49, e66_50, e66_51, e66_52, e66_53, e66_56, e66_59, e66_60, e66_61, e66_64, e66_65, e66_68, e66_70, e66_73, e66_74, e66_77, e66_80, e66_81, e66_83, e66_86, e66_89, e66_90, e66_91, e66_92, e66_95, e66_96, e66_97, e66_100, e66_101, rk_n, rk_v, nl_n, nl_i, nl_r, cat_n, ip_cat_int, ip_cat_ref, ip_cat_long, ip_rf_some, Nat.reduceAdd, Nat.reduceLeDiff, Nat.reduceLT, Nat.le_refl, Nat.zero_le, k6, k5, kb, nd2, hr, ia_lit, nu_i, nu_tn, lp, p4, a0, a1, true_or, or_true, Bool.false_eq_true, Bool.true_eq_false, if_true, if_false, not_true_eq_false, not_false_eq_true, zle, eq_self]
            · rename_i nk14
              have e := Option.some.inj e
              subst e
              refine ⟨J, L, fun D hD => ?_, X.1, fm_r⟩
              have sw := fun ls s h => e59_4_d (d := D) (ls := ls) (s := s) (h := h) (x := Int32.ofNat (kdT B t p)) (fun z => nk11 ((kd_i (k := 11) (by omega)).mp z)) (fun z => nk13 ((kd_i (k := 13) (by omega)).mp z)) (fun z => nk14 ((kd_i (k := 14) (by omega)).mp z)) (fun z => nk40 ((kd_i (k := 40) (by omega)).mp z))
              simp only [en59, e59_0, e59_1, e59_48, e59_49, e59_51, e59_54, e59_55, e59_56, e59_59, e59_62, e59_63, e59_66, e59_67, e59_68, e59_69, e59_72, e59_73, e59_74, e59_76, e59_79, e59_80, e59_81, e59_84, e59_87, e59_88, e59_91, e59_92, e59_93, e59_94, e59_95, e59_98, e59_99, e59_100, sw, rk_n, rk_v, nl_n, nl_i, nl_r, cat_n, ip_cat_int, ip_cat_ref, ip_cat_long, ip_rf_some, Nat.reduceAdd, Nat.reduceLeDiff, Nat.reduceLT, Nat.le_refl, Nat.zero_le, k6, true_or, or_true, Bool.false_eq_true, Bool.true_eq_false, if_true, if_false, not_true_eq_false, not_false_eq_true, zle, eq_self]
    · intro d p nm cs v k h st J L o z hd X hv hk pt e
      have e1' : Int32.ofNat d + 1 = Int32.ofNat (d + 1) := nu_add (s := 1)
      have e2' : Int32.ofNat k + 1 = Int32.ofNat (k + 1) := nu_add (s := 1)
      have NX := (nxT_le (B := B) X.2.1).2.2 pt
      obtain ⟨J0, A0, Y0, F0⟩ := advc (n := n) (nc := nc) (ns := ns) (nx := nx) ht hT2 hr X
      rw [sp_5] at e
      rcases bnd_c e with ⟨q, e1, e2⟩ | ⟨p1, nm1, cs1, v1, j1, e1, e2⟩
      · subst e2
        obtain ⟨J1, L1, A1, Y1, F1⟩ := i0 (d + 1) _ nm _ _ _ (h + k) st J0 L _ (by omega) Y0 e1
        refine ⟨J1, L1, fun D hD => ?_, Y1, fm_t F0 F1⟩
        obtain ⟨E, rfl⟩ : ∃ E, D = E + 1 := ⟨D - 1, by omega⟩
        have a0 := A0 E (by omega)
        have a1 := A1 E (by omega)
        rw [e66_45]
        simp only [e66_0, e66_1, e66_4, e66_5, e66_8, e66_9, e66_11, e66_12, e66_13, e66_14, e66_17, e66_18, e66_20, e66_23, e66_26, e66_27, e66_30, e66_32, e66_35, e66_36, e66_38, e66_41, e66_42, e66_43, e66_44, e66_46, e66_49, e66_50, e66_51, e66_52, e66_53, e66_56, e66_59, e66_60, e66_61, e66_64, e66_65, e66_68, e66_70, e66_73, e66_74, e66_77, e66_80, e66_81, e66_83, e66_86, e66_89, e66_90, e66_91, e66_92, e66_95, e66_96, e66_97, e66_100, e66_101, rk_n, rk_v, nl_n, nl_i, nl_r, cat_n, ip_cat_int, ip_cat_ref, ip_cat_long, ip_rf_some, Nat.reduceAdd, Nat.reduceLeDiff, Nat.reduceLT, Nat.le_refl, Nat.zero_le, e1', a0, a1, true_or, or_true, Bool.false_eq_true, Bool.true_eq_false, if_true, if_false, not_true_eq_false, not_false_eq_true, zle, eq_self]
      · obtain ⟨J1, L1, st1, A1, Y1, V1, S1, F1⟩ := i0 (d + 1) _ nm _ _ _ (h + k) st J0 L _ (by omega) Y0 e1
        have ok := OK _ _ _ _ _ _ _ _ (by omega) Y0.2.1 Y0.2.2.2.2.2.1 (by omega) e1
        have pp : nxT B t p ≤ p1 := ok.1
        have q6 := Y1.1.2.2.2.1
        have K44 : (Int32.ofNat (kdT B t p1) = 44) = (kdT B t p1 = 44) := kd_i (k := 44) (by omega)
        have sm : ∀ s, s < 256 → smS st1 h (k + 1) s = vSum v v1 s := fun s hs => by
          rw [smS_s, smS_c k (fun i hi => S1 (h + i) (by omega)), hv s hs, V1]; rfl
        split at e2
        · rename_i hk4
          have lt4 := (kd_sn (s := 44) (by omega) hk4).2
          have K44t := K44.trans (eq_true hk4)
          have g4 : (Int32.ofNat (k + 1) < 400) = True := eq_true ((nu_lt (s := 400) (by omega) (by omega)).mpr (by omega))
          have Q := i5 d p1 nm1 _ _ (k + 1) h st1 J1 L1 o z hd Y1 sm (by omega) lt4 e2
          have W : ∀ r D, 4 * (5 - d) + 11 ≤ D → rf D 66 45 [some (.ref 4), some (.int (Int32.ofNat d)), some (.int z), some (.int (Int32.ofNat (k + 1)))] [] (SH n, J1, L1, R, nc, ns, nx) = r → rf D 66 45 [some (.ref 4), some (.int (Int32.ofNat d)), some (.int z), some (.int (Int32.ofNat k))] [] (SH n, J, L, R, nc, ns, nx) = r := by
            intro r D hD a3
            obtain ⟨E, rfl⟩ : ∃ E, D = E + 1 := ⟨D - 1, by omega⟩
            have a0 := A0 E (by omega)
            have a1 := A1 E (by omega)
            rw [← a3, e66_45]
            simp only [e66_0, e66_1, e66_4, e66_5, e66_8, e66_9, e66_11, e66_12, e66_13, e66_14, e66_17, e66_18, e66_20, e66_23, e66_26, e66_27, e66_30, e66_32, e66_35, e66_36, e66_38, e66_41, e66_42, e66_43, e66_44, e66_46, e66_49, e66_50, e66_51, e66_52, e66_53, e66_56, e66_59, e66_60, e66_61, e66_64, e66_65, e66_68, e66_70, e66_73, e66_74, e66_77, e66_80, e66_81, e66_83, e66_86, e66_89, e66_90, e66_91, e66_92, e66_95, e66_96, e66_97, e66_100, e66_101, rk_n, rk_v, nl_n, nl_i, nl_r, cat_n, ip_cat_int, ip_cat_ref, ip_cat_long, ip_rf_some, Nat.reduceAdd, Nat.reduceLeDiff, Nat.reduceLT, Nat.le_refl, Nat.zero_le, e1', e2', a0, a1, q6, K44t, g4, n10, true_or, or_true, Bool.false_eq_true, Bool.true_eq_false, if_true, if_false, not_true_eq_false, not_false_eq_true, zle, eq_self]
          cases o with
          | inl q =>
            obtain ⟨J3, L3, A3, Y3, F3⟩ := Q
            exact ⟨J3, L3, fun D hD => W _ D hD (A3 D hD), Y3, fm_t F0 (fm_t F1 F3)⟩
          | inr r =>
            obtain ⟨J3, L3, st3, A3, Y3, V3, S3, k3, F3⟩ := Q
            exact ⟨J3, L3, st3, fun D hD => W _ D hD (A3 D hD), Y3, V3, fun i hi => by rw [S3 i hi, S1 i (by omega)], k3, fm_t F0 (fm_t F1 F3)⟩
        · rename_i hk4
          have e2 := Option.some.inj e2
          subst e2
          refine ⟨J1, L1, st1, fun D hD => ?_, Y1, sm, fun i hi => S1 i (by omega), by dsimp only; omega, fm_t F0 F1⟩
          obtain ⟨E, rfl⟩ : ∃ E, D = E + 1 := ⟨D - 1, by omega⟩
          have a0 := A0 E (by omega)
          have a1 := A1 E (by omega)
          rw [e66_45]
          simp only [e66_46, e66_49, e66_50, e66_51, e66_52, e66_53, e66_56, e66_61, e66_64, e66_65, e66_68, e66_70, rk_n, rk_v, nl_n, nl_i, nl_r, cat_n, ip_cat_int, ip_cat_ref, ip_cat_long, ip_rf_some, Nat.reduceAdd, Nat.reduceLeDiff, Nat.reduceLT, Nat.le_refl, Nat.zero_le, e1', e2', a0, a1, q6, K44, hk4, n10, Bool.false_eq_true, Bool.true_eq_false, if_true, if_false, not_true_eq_false, not_false_eq_true, zle, eq_self]
end CS
