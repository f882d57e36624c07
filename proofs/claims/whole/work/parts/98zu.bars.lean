/-! READ: a line that tells bars -/
def bsL (B : Nat → Int32) (t b0 : Nat) : Nat → Nat → Nat → (Nat → Nat) → Nat ⊕ (Nat × (Nat → Nat))
  | 0, _, p, br => if kdT B t p = 59 then .inr (nxT B t p, br) else .inl p
  | m + 1, k, p, br => if kdT B t p = 14 then bsL B t b0 m (k + 1) (nxT B t p) (fuN br (b0 + k) (ndd B p)) else .inl p
def bsp (B : Nat → Int32) (t p : Nat) (br : Nat → Nat) : Nat ⊕ (Nat × (Nat → Nat)) :=
  if kdT B t (nxT B t p) = 6 ∨ kdT B t (nxT B t p) = 7 then bsL B t (3 * (kdT B t (nxT B t p) - 6)) 3 0 (nxT B t (nxT B t p)) br else .inl (nxT B t p)
section BA
variable {n d b c k t p T h nm g a b0 : Nat} {B : Nat → Int32} {f : Nat → List Nat} {sd rs br : Nat → Nat} {cl : Bool} {J K J' : Nat → Nat → Int32} {L L' : Nat → Nat → Int64} {R : Nat → Nat → Option Nat} {nc ns : Nat} {nx : Bool} {x y : Int32} {st : Nat → Nat → Nat} {v : Nat → Nat} {cs : List CD}
theorem bsL_le : ∀ m k p br, p ≤ t → match bsL B t b0 m k p br with | .inl q => q ≤ t | .inr z => p < z.1 ∧ z.1 ≤ t := by
  intro m
  induction m with
  | zero =>
    intro k p br hp
    rw [bsL]
    have N := nxT_le (B := B) (t := t) (p := p) hp
    by_cases h : kdT B t p = 59
    · rw [if_pos h]
      have := (kd_sn (s := 59) (by omega) h).2
      exact ⟨N.2.2 this, N.2.1⟩
    · rw [if_neg h]; exact hp
  | succ m ih =>
    intro k p br hp
    rw [bsL]
    have N := nxT_le (B := B) (t := t) (p := p) hp
    by_cases h : kdT B t p = 14
    · rw [if_pos h]
      have Q := ih (k + 1) (nxT B t p) (fuN br (b0 + k) (ndd B p)) N.2.1
      split
      · rename_i e; rw [e] at Q; exact Q
      · rename_i e; rw [e] at Q; exact ⟨by have := Q.1; omega, Q.2⟩
    · rw [if_neg h]; exact hp
theorem t55 (hR : LYR R) (ht : t ≤ 400) (hT2 : T = 9 ∨ T = 16) (hT : isT T) (hr : R 4 1 = some 3) (rT : R 4 2 = some T) (hb0 : b0 ≤ 3) : ∀ m k p br J, k + m = 3 → CLs B t T c f p nm h st J L → (∀ i, i < 6 → J (T + 5) i = Int32.ofNat (br i)) →
    match bsL B t b0 m k p br with
    | .inl q => ∃ J', (∀ D, 6 ≤ D → rf D 55 40 [some (.ref 4), some (.int (Int32.ofNat b0)), some (.int (Int32.ofNat k))] [] (SH n, J, L, R, nc, ns, nx) = some (.inl (some (.int 0)), (SH n, J', L, R, nc, ns, nx))) ∧ RC B t q J' ∧ onlyP (fun a k => scT T a k ∨ a = T + 5) J J'
    | .inr z => ∃ J', (∀ D, 6 ≤ D → rf D 55 40 [some (.ref 4), some (.int (Int32.ofNat b0)), some (.int (Int32.ofNat k))] [] (SH n, J, L, R, nc, ns, nx) = some (.inl (some (.int 1)), (SH n, J', L, R, nc, ns, nx))) ∧ CLs B t T c f z.1 nm h st J' L ∧ (∀ i, i < 6 → J' (T + 5) i = Int32.ofNat (z.2 i)) ∧ onlyP (fun a k => scT T a k ∨ a = T + 5) J J' := by
  intro m
  induction m with
  | zero =>
    intro k p br J hk X P
    have g : ((3 : Int32) ≤ Int32.ofNat k) = True := eq_true ((nu_le (t := 3) (by omega) (by omega)).mpr (by omega))
    rw [bsL]
    by_cases h59 : kdT B t p = 59
    · rw [if_pos h59]
      obtain ⟨J1, A1, X1, F1⟩ := passc (n := n) (nc := nc) (ns := ns) (nx := nx) (k := 59) ht hT2 hr X (by omega) h59
      refine ⟨J1, fun D hD => ?_, X1, fun i hi => by rw [F1.1 (T + 5) i (by unfold scT; omega)]; exact P i hi, onlyP_mono F1.1 (fun a k e => Or.inl e)⟩
      obtain ⟨E, rfl⟩ : ∃ E, D = E + 1 := ⟨D - 1, by omega⟩
      have a1 : cf E 53 [.ref 4, .int 59] (SH n, J, L, R, nc, ns, nx) = _ := A1 E (by omega)
      rw [e55_40]
      simp only [e55_0, e55_1, e55_4, e55_5, e55_8, e55_10, e55_13, e55_14, e55_17, e55_19, e55_22, e55_23, e55_24, e55_25, e55_28, e55_30, e55_31, e55_32, e55_33, e55_34, e55_35, e55_38, e55_39, e55_41, e55_42, e55_45, e55_46, e55_49, e55_51, e55_54, e55_55, e55_56, e55_57, e55_60, e55_63, e55_64, e55_65, e55_66, e55_67, e55_70, e55_71, e55_74, e55_75, e55_77, e55_78, e55_79, e55_80, e55_83, e55_86, e55_89, e55_90, e55_92, e55_95, rk_n, rk_v, nl_n, nl_i, nl_r, cat_n, ip_cat_int, ip_cat_ref, ip_cat_long, ip_rf_some, Nat.reduceAdd, Nat.reduceLeDiff, Nat.reduceLT, Nat.le_refl, Nat.zero_le, g, a1, true_or, or_true, Bool.false_eq_true, Bool.true_eq_false, if_true, if_false, not_true_eq_false, not_false_eq_true, zle, eq_self]
    · rw [if_neg h59]
      have A1 := passn (n := n) (L := L) (R := R) (nc := nc) (ns := ns) (nx := nx) (k := 59) X.1 (by omega) h59
      refine ⟨J, fun D hD => ?_, X.1, onlyP_refl⟩
      obtain ⟨E, rfl⟩ : ∃ E, D = E + 1 := ⟨D - 1, by omega⟩
      have a1 : cf E 53 [.ref 4, .int 59] (SH n, J, L, R, nc, ns, nx) = _ := A1 E
      rw [e55_40]
      simp only [e55_0, e55_1, e55_4, e55_5, e55_8, e55_10, e55_13, e55_14, e55_17, e55_19, e55_22, e55_23, e55_24, e55_25, e55_28, e55_30, e55_31, e55_32, e55_33, e55_34, e55_35, e55_38, e55_39, e55_41, e55_42, e55_45, e55_46, e55_49, e55_51, e55_54, e55_55, e55_56, e55_57, e55_60, e55_63, e55_64, e55_65, e55_66, e55_67, e55_70, e55_71, e55_74, e55_75, e55_77, e55_78, e55_79, e55_80, e55_83, e55_86, e55_89, e55_90, e55_92, e55_95, rk_n, rk_v, nl_n, nl_i, nl_r, cat_n, ip_cat_int, ip_cat_ref, ip_cat_long, ip_rf_some, Nat.reduceAdd, Nat.reduceLeDiff, Nat.reduceLT, Nat.le_refl, Nat.zero_le, g, a1, true_or, or_true, Bool.false_eq_true, Bool.true_eq_false, if_true, if_false, not_true_eq_false, not_false_eq_true, zle, eq_self]
  | succ m ih =>
    intro k p br J hk X P
    have g : ((3 : Int32) ≤ Int32.ofNat k) = False := eq_false (fun e => by have := (nu_le (t := 3) (by omega) (by omega)).mp e; omega)
    have k6 := X.1.2.2.2.1
    have K14 : (Int32.ofNat (kdT B t p) = 14) = (kdT B t p = 14) := kd_i (k := 14) (by omega)
    rw [bsL]
    by_cases h14 : kdT B t p = 14
    · rw [if_pos h14]
      have K14t := K14.trans (eq_true h14)
      obtain ⟨nd1, nd2⟩ := ndd_lt h14
      have pt := (kd_14e h14).2
      have lp : p < 2147483648 := by omega
      have p4 : p < 400 := by omega
      have l1 : b0 + k < 2147483648 := by omega
      have l2 : b0 + k < 6 := by omega
      have kb := X.1.2.2.2.2 p pt
      have k5 := X.1.2.2.1
      have e1 : Int32.ofNat k + 1 = Int32.ofNat (k + 1) := nu_add (s := 1)
      generalize hJ1 : ip_up J (T + 5) (b0 + k) (Int32.ofNat (ndd B p)) = J1
      have O1 : onlyP (fun a _ => a = T + 5) J J1 := by rw [← hJ1]; exact onlyP_up onlyP_refl rfl
      have X1 := CLs_on hT2 X O1 (fun a k e => by omega)
      obtain ⟨J2, A2, X2, F2⟩ := advc (n := n) (nc := nc) (ns := ns) (nx := nx) ht hT2 hr X1
      have P2 : ∀ i, i < 6 → J2 (T + 5) i = Int32.ofNat (fuN br (b0 + k) (ndd B p) i) := fun i hi => by
        rw [F2.1 (T + 5) i (by unfold scT; omega), ← hJ1]
        by_cases z : i = b0 + k
        · subst z; rw [up_eq, fuN_e]
        · rw [up_k z, fuN_n z]; exact P i hi
      have Q := ih (k + 1) (nxT B t p) (fuN br (b0 + k) (ndd B p)) J2 (by omega) X2 P2
      have W : ∀ D, 6 ≤ D → rf D 55 40 [some (.ref 4), some (.int (Int32.ofNat b0)), some (.int (Int32.ofNat k))] [] (SH n, J, L, R, nc, ns, nx) = rf D 55 40 [some (.ref 4), some (.int (Int32.ofNat b0)), some (.int (Int32.ofNat (k + 1)))] [] (SH n, J2, L, R, nc, ns, nx) := by
        intro D hD
        obtain ⟨E, rfl⟩ : ∃ E, D = E + 1 := ⟨D - 1, by omega⟩
        have a2 := A2 E (by omega)
        rw [e55_40]
        simp only [e55_0, e55_1, e55_4, e55_5, e55_8, e55_10, e55_13, e55_14, e55_17, e55_19, e55_22, e55_23, e55_24, e55_25, e55_28, e55_30, e55_31, e55_32, e55_33, e55_34, e55_35, e55_38, e55_39, e55_41, e55_42, e55_45, e55_46, e55_49, e55_51, e55_54, e55_55, e55_56, e55_57, e55_60, e55_63, e55_64, e55_65, e55_66, e55_67, e55_70, e55_71, e55_74, e55_75, e55_77, e55_78, e55_79, e55_80, e55_83, e55_86, e55_89, e55_90, e55_92, e55_95, rk_n, rk_v, nl_n, nl_i, nl_r, cat_n, ip_cat_int, ip_cat_ref, ip_cat_long, ip_rf_some, Nat.reduceAdd, Nat.reduceLeDiff, Nat.reduceLT, Nat.le_refl, Nat.zero_le, hR, g, k6, K14t, hr, rT, hT, k5, nu_add, ia_lit, ia_T5, nu_i, nu_tn, lp, p4, l1, l2, kb, nd2, hJ1, a2, e1, Bool.false_eq_true, Bool.true_eq_false, if_true, if_false, not_true_eq_false, not_false_eq_true, zle, eq_self]
      have O12 : onlyP (fun a k => scT T a k ∨ a = T + 5) J J2 := onlyP_tr (onlyP_mono O1 (fun a k e => Or.inr e)) (onlyP_mono F2.1 (fun a k e => Or.inl e))
      split
      · rename_i e
        rw [e] at Q
        obtain ⟨J3, A3, X3, O3⟩ := Q
        exact ⟨J3, fun D hD => (W D hD).trans (A3 D hD), X3, onlyP_tr O12 O3⟩
      · rename_i e
        rw [e] at Q
        obtain ⟨J3, A3, X3, P3, O3⟩ := Q
        exact ⟨J3, fun D hD => (W D hD).trans (A3 D hD), X3, P3, onlyP_tr O12 O3⟩
    · rw [if_neg h14]
      refine ⟨J, fun D hD => ?_, X.1, onlyP_refl⟩
      rw [e55_40]
      simp only [e55_0, e55_1, e55_4, e55_5, e55_8, e55_10, e55_13, e55_14, e55_17, e55_19, e55_22, e55_23, e55_24, e55_25, e55_28, e55_30, e55_31, e55_32, e55_33, e55_34, e55_35, e55_38, e55_39, e55_41, e55_42, e55_45, e55_46, e55_49, e55_51, e55_54, e55_55, e55_56, e55_57, e55_60, e55_63, e55_64, e55_65, e55_66, e55_67, e55_70, e55_71, e55_74, e55_75, e55_77, e55_78, e55_79, e55_80, e55_83, e55_86, e55_89, e55_90, e55_92, e55_95, rk_n, rk_v, nl_n, nl_i, nl_r, cat_n, ip_cat_int, ip_cat_ref, ip_cat_long, ip_rf_some, Nat.reduceAdd, Nat.reduceLeDiff, Nat.reduceLT, Nat.le_refl, Nat.zero_le, g, k6, K14, h14, true_or, or_true, Bool.false_eq_true, Bool.true_eq_false, if_true, if_false, not_true_eq_false, not_false_eq_true, zle, eq_self]
theorem ci_bars (hR : LYR R) (ht : t ≤ 400) (hT2 : T = 9 ∨ T = 16) (hT : isT T) (hr : R 4 1 = some 3) (rT : R 4 2 = some T) (X : CSX B t T c f sd rs br cl nm v p J L) :
    match bsp B t p br with
    | .inl q => ∃ J', (∀ D, 8 ≤ D → cf D 55 [.ref 4] (SH n, J, L, R, nc, ns, nx) = some (.inl (some (.int 0)), (SH n, J', L, R, nc, ns, nx))) ∧ RC B t q J' ∧ onlyP (scX T) J J'
    | .inr z => ∃ J', (∀ D, 8 ≤ D → cf D 55 [.ref 4] (SH n, J, L, R, nc, ns, nx) = some (.inl (some (.int 1)), (SH n, J', L, R, nc, ns, nx))) ∧ CSX B t T c f sd rs z.2 cl nm v z.1 J' L ∧ onlyP (scX T) J J' := by
  obtain ⟨h, st, X0, T0⟩ := X
  obtain ⟨J1, A1, X1, F1⟩ := advc (n := n) (nc := nc) (ns := ns) (nx := nx) ht hT2 hr X0
  have k6 := X1.1.2.2.2.1
  have kl := kd_lt (B := B) (t := t) (p := nxT B t p)
  have K6 : (Int32.ofNat (kdT B t (nxT B t p)) = 6) = (kdT B t (nxT B t p) = 6) := kd_i (k := 6) (by omega)
  have K7 : (Int32.ofNat (kdT B t (nxT B t p)) = 7) = (kdT B t (nxT B t p) = 7) := kd_i (k := 7) (by omega)
  have cv : ∀ {J'}, onlyP (fun a k => scT T a k ∨ a = T + 5) J1 J' → onlyP (scX T) J J' := fun O => onlyP_tr (fm_x hT2 F1) (onlyP_mono O (fun a k e => by unfold scT at e; unfold scX; omega))
  unfold bsp
  by_cases h67 : kdT B t (nxT B t p) = 6 ∨ kdT B t (nxT B t p) = 7
  · rw [if_pos h67]
    obtain ⟨J2, A2, X2, F2⟩ := advc (n := n) (nc := nc) (ns := ns) (nx := nx) ht hT2 hr X1
    have P2 : ∀ i, i < 6 → J2 (T + 5) i = Int32.ofNat (br i) := fun i hi => by rw [F2.1 (T + 5) i (by unfold scT; omega), F1.1 (T + 5) i (by unfold scT; omega)]; exact T0.2.2.2.2.2.1 i hi
    have Q := t55 (n := n) (nc := nc) (ns := ns) (nx := nx) (b0 := 3 * (kdT B t (nxT B t p) - 6)) hR ht hT2 hT hr rT (by omega) 3 0 _ br J2 (by omega) X2 P2
    have W : ∀ D, 8 ≤ D → cf D 55 [.ref 4] (SH n, J, L, R, nc, ns, nx) = rf D 55 40 [some (.ref 4), some (.int (Int32.ofNat (3 * (kdT B t (nxT B t p) - 6)))), some (.int (Int32.ofNat 0))] [] (SH n, J2, L, R, nc, ns, nx) := by
      intro D hD
      obtain ⟨E, rfl⟩ : ∃ E, D = E + 1 := ⟨D - 1, by omega⟩
      have a1 := A1 E (by omega)
      have a2 := A2 E (by omega)
      rcases h67 with h | h
      · have K6t := K6.trans (eq_true h)
        rw [h] at k6 ⊢
        have k6 : J1 4 6 = 6 := k6
        have e0 : (6 : Int32) - 6 = 0 := by decide
        have e1 : (0 : Int32) * 3 = 0 := by decide
        simp only [en55, e55_0, e55_1, e55_4, e55_5, e55_8, e55_10, e55_13, e55_14, e55_17, e55_19, e55_22, e55_23, e55_24, e55_25, e55_28, e55_30, e55_31, e55_32, e55_33, e55_34, e55_35, e55_38, e55_39, e55_41, e55_42, e55_45, e55_46, e55_49, e55_51, e55_54, e55_55, e55_56, e55_57, e55_60, e55_63, e55_64, e55_65, e55_66, e55_67, e55_70, e55_71, e55_74, e55_75, e55_77, e55_78, e55_79, e55_80, e55_83, e55_86, e55_89, e55_90, e55_92, e55_95, rk_n, rk_v, nl_n, nl_i, nl_r, cat_n, ip_cat_int, ip_cat_ref, ip_cat_long, ip_rf_some, Nat.reduceAdd, Nat.reduceLeDiff, Nat.reduceLT, Nat.le_refl, Nat.zero_le, a1, k6, a2, e0, e1, Bool.false_eq_true, Bool.true_eq_false, if_true, if_false, not_true_eq_false, not_false_eq_true, zle, eq_self]
        rfl
      · rw [h] at k6 ⊢
        have k6 : J1 4 6 = 7 := k6
        have e0 : (7 : Int32) - 6 = 1 := by decide
        have e1 : (1 : Int32) * 3 = 3 := by decide
        simp only [en55, e55_0, e55_1, e55_4, e55_5, e55_8, e55_10, e55_13, e55_14, e55_17, e55_19, e55_22, e55_23, e55_24, e55_25, e55_28, e55_30, e55_31, e55_32, e55_33, e55_34, e55_35, e55_38, e55_39, e55_41, e55_42, e55_45, e55_46, e55_49, e55_51, e55_54, e55_55, e55_56, e55_57, e55_60, e55_63, e55_64, e55_65, e55_66, e55_67, e55_70, e55_71, e55_74, e55_75, e55_77, e55_78, e55_79, e55_80, e55_83, e55_86, e55_89, e55_90, e55_92, e55_95, rk_n, rk_v, nl_n, nl_i, nl_r, cat_n, ip_cat_int, ip_cat_ref, ip_cat_long, ip_rf_some, Nat.reduceAdd, Nat.reduceLeDiff, Nat.reduceLT, Nat.le_refl, Nat.zero_le, a1, k6, a2, e0, e1, (by decide : ¬ (7 : Int32) = 6), Bool.false_eq_true, Bool.true_eq_false, if_true, if_false, not_true_eq_false, not_false_eq_true, zle, eq_self]
        rfl
    split
    · rename_i e
      rw [e] at Q
      obtain ⟨J3, A3, X3, O3⟩ := Q
      exact ⟨J3, fun D hD => (W D hD).trans (A3 D (by omega)), X3, cv (onlyP_tr (onlyP_mono F2.1 (fun a k e => Or.inl e)) O3)⟩
    · rename_i e
      rw [e] at Q
      obtain ⟨J3, A3, X3, P3, O3⟩ := Q
      have G : ∀ a k, T ≤ a → a ≤ T + 4 → ¬ (a = T ∧ k = 7) → J3 a k = J a k := fun a k h1 h2 h3 => by rw [O3 a k (by unfold scT; omega), F2.1 a k (by unfold scT; omega), F1.1 a k (by unfold scT; omega)]
      refine ⟨J3, fun D hD => (W D hD).trans (A3 D (by omega)), ⟨h, st, X3, ?_⟩, cv (onlyP_tr (onlyP_mono F2.1 (fun a k e => Or.inl e)) O3)⟩
      obtain ⟨t1, t2, t3, t4, t5, t6, t7, t8, t9⟩ := T0
      refine ⟨fun k k1 k2 i hi => ?_, t2, fun k hk => ?_, fun k hk => ?_, fun k hk => ?_, P3, ?_, t8, t9⟩
      · rw [G (T + 1) _ (by omega) (by omega) (by omega)]; exact t1 k k1 k2 i hi
      · rw [G (T + 2) _ (by omega) (by omega) (by omega)]; exact t3 k hk
      · rw [G (T + 3) _ (by omega) (by omega) (by omega)]; exact t4 k hk
      · rw [G (T + 4) _ (by omega) (by omega) (by omega)]; exact t5 k hk
      · rw [G T 8 (by omega) (by omega) (by omega)]; exact t7
  · rw [if_neg h67]
    refine ⟨J1, fun D hD => ?_, X1.1, fm_x hT2 F1⟩
    obtain ⟨E, rfl⟩ : ∃ E, D = E + 1 := ⟨D - 1, by omega⟩
    have a1 := A1 E (by omega)
    have h6 : ¬ kdT B t (nxT B t p) = 6 := fun z => h67 (Or.inl z)
    have h7 : ¬ kdT B t (nxT B t p) = 7 := fun z => h67 (Or.inr z)
    simp only [en55, e55_0, e55_1, e55_4, e55_5, e55_8, e55_10, e55_13, e55_14, e55_17, e55_19, e55_22, e55_23, e55_24, e55_25, e55_28, e55_30, e55_31, e55_32, e55_33, e55_34, e55_35, e55_38, e55_39, e55_41, e55_42, e55_45, e55_46, e55_49, e55_51, e55_54, e55_55, e55_56, e55_57, e55_60, e55_63, e55_64, e55_65, e55_66, e55_67, e55_70, e55_71, e55_74, e55_75, e55_77, e55_78, e55_79, e55_80, e55_83, e55_86, e55_89, e55_90, e55_92, e55_95, rk_n, rk_v, nl_n, nl_i, nl_r, cat_n, ip_cat_int, ip_cat_ref, ip_cat_long, ip_rf_some, Nat.reduceAdd, Nat.reduceLeDiff, Nat.reduceLT, Nat.le_refl, Nat.zero_le, a1, k6, K6, K7, h6, h7, true_or, or_true, Bool.false_eq_true, Bool.true_eq_false, if_true, if_false, not_true_eq_false, not_false_eq_true, zle, eq_self]
/-! the model -/
theorem t203x {l : Nat} (hR : LYR R) (hl : l < 2) : ∀ m k K, k + m = 3 → ¬ K 265 5 = -1 → ∃ K', (∀ D, 2 ≤ D → rf D 203 45 [some (.ref 265), some (.int (Int32.ofNat l)), some (.int (Int32.ofNat k))] [] (SH n, K, L, R, nc, ns, nx) = some (.inl none, (SH n, K', L, R, nc, ns, nx))) ∧ onlyP (fun a _ => a = 270) K K' := by
  intro m
  induction m with
  | zero =>
    intro k K hk F
    have hk : k = 3 := hk
    have g : ((3 : Int32) ≤ Int32.ofNat k) = True := eq_true ((nu_le (t := 3) (by omega) (by omega)).mpr (by omega))
    refine ⟨K, fun D hD => ?_, onlyP_refl⟩
    rw [e203_45]
    simp only [e203_0, e203_1, e203_1r, e203_2, e203_5, e203_6, e203_7, e203_10, e203_11, e203_13, e203_16, e203_19, e203_20, e203_23, e203_24, e203_25, e203_26, e203_27, e203_30, e203_31, e203_33, e203_36, e203_39, e203_40, e203_43, e203_44, e203_46, e203_47, e203_50, e203_51, e203_54, e203_55, e203_56, e203_57, e203_58, e203_59, e203_60, e203_63, e203_64, e203_67, e203_70, rk_n, rk_v, nl_n, nl_i, nl_r, cat_n, ip_cat_int, ip_cat_ref, ip_cat_long, ip_rf_some, Nat.reduceAdd, Nat.reduceLeDiff, Nat.reduceLT, Nat.le_refl, Nat.zero_le, g, Bool.false_eq_true, Bool.true_eq_false, if_true, if_false, not_true_eq_false, not_false_eq_true, zle, eq_self]
  | succ m ih =>
    intro k K hk F
    have g : ((3 : Int32) ≤ Int32.ofNat k) = False := eq_false (fun e => by have := (nu_le (t := 3) (by omega) (by omega)).mp e; omega)
    have e1 : Int32.ofNat k + 1 = Int32.ofNat (k + 1) := nu_add (s := 1)
    have e3 : 3 * Int32.ofNat l + Int32.ofNat k = Int32.ofNat (3 * l + k) := by
      have : 3 * Int32.ofNat l = Int32.ofNat (3 * l) := (Int32.ofNat_mul _ _).symm
      rw [this, nu_add]
    have l1 : 3 * l + k < 2147483648 := by omega
    have l2 : 3 * l + k < 6 := by omega
    have D2 := fun d => c204f (d := d) (n := n) (L := L) (R := R) (nc := nc) (ns := ns) (nx := nx) F
    obtain ⟨K', A, O⟩ := ih (k + 1) (ip_up K 270 (3 * l + k) 0) (by omega) (by rw [up_a (by decide)]; exact F)
    refine ⟨K', fun D hD => ?_, onlyP_tr (onlyP_up onlyP_refl rfl) O⟩
    rw [← A D hD]
    obtain ⟨E, rfl⟩ : ∃ E, D = E + 1 := ⟨D - 1, by omega⟩
    rw [e203_45]
    simp only [e203_0, e203_1, e203_1r, e203_2, e203_5, e203_6, e203_7, e203_10, e203_11, e203_13, e203_16, e203_19, e203_20, e203_23, e203_24, e203_25, e203_26, e203_27, e203_30, e203_31, e203_33, e203_36, e203_39, e203_40, e203_43, e203_44, e203_46, e203_47, e203_50, e203_51, e203_54, e203_55, e203_56, e203_57, e203_58, e203_59, e203_60, e203_63, e203_64, e203_67, e203_70, rk_n, rk_v, nl_n, nl_i, nl_r, cat_n, ip_cat_int, ip_cat_ref, ip_cat_long, ip_rf_some, Nat.reduceAdd, Nat.reduceLeDiff, Nat.reduceLT, Nat.le_refl, Nat.zero_le, hR, g, e1, e3, D2, ia_lit, nu_i, nu_tn, l1, l2, Bool.false_eq_true, Bool.true_eq_false, if_true, if_false, not_true_eq_false, not_false_eq_true, zle, eq_self]
theorem t203 {l : Nat} (hR : LYR R) (ht : t ≤ 400) (hB : ∀ i, i < t → ¬ B i = -1) (hl : l < 2) : ∀ m k p br a K, k + m = 3 → RM B t a K → a ≤ t → skT B t a = p → K 265 5 = -1 → (∀ i, i < 6 → K 270 i = Int32.ofNat (br i)) →
    match bsL B t (3 * l) m k p br with
    | .inl q => ∃ K1 K2, (∀ D, 3 ≤ D → rf D 203 45 [some (.ref 265), some (.int (Int32.ofNat l)), some (.int (Int32.ofNat k))] [] (SH n, K, L, R, nc, ns, nx) = some (.inl none, (SH n, K1, L, R, nc, ns, nx)) ∧ cf D 213 [.ref 265, .int 59] (SH n, K1, L, R, nc, ns, nx) = some (.inl none, (SH n, K2, L, R, nc, ns, nx))) ∧ K2 265 5 = Int32.ofNat q ∧ onlyP (fun a k => (a = 265 ∧ (k = 4 ∨ k = 5)) ∨ a = 270) K K2
    | .inr z => ∃ K1 K2 a', (∀ D, 3 ≤ D → rf D 203 45 [some (.ref 265), some (.int (Int32.ofNat l)), some (.int (Int32.ofNat k))] [] (SH n, K, L, R, nc, ns, nx) = some (.inl none, (SH n, K1, L, R, nc, ns, nx)) ∧ cf D 213 [.ref 265, .int 59] (SH n, K1, L, R, nc, ns, nx) = some (.inl none, (SH n, K2, L, R, nc, ns, nx))) ∧ RM B t a' K2 ∧ a' ≤ t ∧ skT B t a' = z.1 ∧ K2 265 5 = -1 ∧ (∀ i, i < 6 → K2 270 i = Int32.ofNat (z.2 i)) ∧ onlyP (fun a k => (a = 265 ∧ (k = 4 ∨ k = 5)) ∨ a = 270) K K2 := by
  intro m
  induction m with
  | zero =>
    intro k p br a K hk X ha hs F P
    have g : ((3 : Int32) ≤ Int32.ofNat k) = True := eq_true ((nu_le (t := 3) (by omega) (by omega)).mpr (by omega))
    have W : ∀ D, rf D 203 45 [some (.ref 265), some (.int (Int32.ofNat l)), some (.int (Int32.ofNat k))] [] (SH n, K, L, R, nc, ns, nx) = some (.inl none, (SH n, K, L, R, nc, ns, nx)) := by
      intro D
      rw [e203_45]
      simp only [e203_0, e203_1, e203_1r, e203_2, e203_5, e203_6, e203_7, e203_10, e203_11, e203_13, e203_16, e203_19, e203_20, e203_23, e203_24, e203_25, e203_26, e203_27, e203_30, e203_31, e203_33, e203_36, e203_39, e203_40, e203_43, e203_44, e203_46, e203_47, e203_50, e203_51, e203_54, e203_55, e203_56, e203_57, e203_58, e203_59, e203_60, e203_63, e203_64, e203_67, e203_70, rk_n, rk_v, nl_n, nl_i, nl_r, cat_n, ip_cat_int, ip_cat_ref, ip_cat_long, ip_rf_some, Nat.reduceAdd, Nat.reduceLeDiff, Nat.reduceLT, Nat.le_refl, Nat.zero_le, g, Bool.false_eq_true, Bool.true_eq_false, if_true, if_false, not_true_eq_false, not_false_eq_true, zle, eq_self]
    have hp : p ≤ t := hs ▸ (skT_le ha).2
    rw [bsL]
    by_cases h59 : kdT B t p = 59
    · rw [if_pos h59]
      have Mu := fun d => c213 (d := d) (n := n) (L := L) (nc := nc) (ns := ns) (nx := nx) (s := 59) (p := p) (by omega) hR ht X ha hs F h59
      refine ⟨K, _, enT B t p, fun D hD => ⟨W D, ?_⟩, RM_at X, (enT_le hp).2.1, rfl, (up_k (by decide)).trans F, fun i hi => (up_a (by decide)).trans (P i hi), onlyP_up onlyP_refl (by omega)⟩
      obtain ⟨E, rfl⟩ : ∃ E, D = E + 1 := ⟨D - 1, by omega⟩
      exact Mu E
    · rw [if_neg h59]
      have Mu := fun d => c213n (d := d) (n := n) (L := L) (nc := nc) (ns := ns) (nx := nx) (s := 59) (p := p) (by omega) hR ht X ha hs F h59
      refine ⟨K, wrM K p, fun D hD => ⟨W D, ?_⟩, by unfold wrM; rw [up_eq], by unfold wrM; exact onlyP_up (onlyP_up onlyP_refl (by omega)) (by omega)⟩
      obtain ⟨E, rfl⟩ : ∃ E, D = E + 1 := ⟨D - 1, by omega⟩
      exact Mu E
  | succ m ih =>
    intro k p br a K hk X ha hs F P
    have hp : p ≤ t := hs ▸ (skT_le ha).2
    have g : ((3 : Int32) ≤ Int32.ofNat k) = False := eq_false (fun e => by have := (nu_le (t := 3) (by omega) (by omega)).mp e; omega)
    have e1 : Int32.ofNat k + 1 = Int32.ofNat (k + 1) := nu_add (s := 1)
    have e3 : 3 * Int32.ofNat l + Int32.ofNat k = Int32.ofNat (3 * l + k) := by
      have : 3 * Int32.ofNat l = Int32.ofNat (3 * l) := (Int32.ofNat_mul _ _).symm
      rw [this, nu_add]
    have l1 : 3 * l + k < 2147483648 := by omega
    have l2 : 3 * l + k < 6 := by omega
    rw [bsL]
    by_cases h14 : kdT B t p = 14
    · rw [if_pos h14]
      obtain ⟨nd1, nd2⟩ := ndd_lt h14
      have D2 := fun d => c204 (d := d) (n := n) (L := L) (nc := nc) (ns := ns) (nx := nx) (p := p) hR ht hB X ha hs F h14
      rw [nd2] at D2
      generalize hK1 : ip_up (atM K (enT B t p)) 270 (3 * l + k) (Int32.ofNat (ndd B p)) = K1
      have X1 : RM B t (enT B t p) K1 := by rw [← hK1]; exact RM_u (by decide) (by decide) (RM_at X)
      have O1 : onlyP (fun a k => (a = 265 ∧ (k = 4 ∨ k = 5)) ∨ a = 270) K K1 := by rw [← hK1]; exact onlyP_up (onlyP_up onlyP_refl (by omega)) (by omega)
      have Q := ih (k + 1) (nxT B t p) (fuN br (3 * l + k) (ndd B p)) (enT B t p) K1 (by omega) X1 (enT_le hp).2.1 rfl (by rw [← hK1, up_a (by decide)]; exact (up_k (by decide)).trans F) (fun i hi => by
        rw [← hK1]
        by_cases z : i = 3 * l + k
        · subst z; rw [up_eq, fuN_e]
        · rw [up_k z, fuN_n z]; exact (up_a (by decide)).trans (P i hi))
      have W : ∀ D, 3 ≤ D → rf D 203 45 [some (.ref 265), some (.int (Int32.ofNat l)), some (.int (Int32.ofNat k))] [] (SH n, K, L, R, nc, ns, nx) = rf D 203 45 [some (.ref 265), some (.int (Int32.ofNat l)), some (.int (Int32.ofNat (k + 1)))] [] (SH n, K1, L, R, nc, ns, nx) := by
        intro D hD
        obtain ⟨E, rfl⟩ : ∃ E, D = E + 1 + 1 := ⟨D - 2, by omega⟩
        rw [e203_45]
        simp only [e203_0, e203_1, e203_1r, e203_2, e203_5, e203_6, e203_7, e203_10, e203_11, e203_13, e203_16, e203_19, e203_20, e203_23, e203_24, e203_25, e203_26, e203_27, e203_30, e203_31, e203_33, e203_36, e203_39, e203_40, e203_43, e203_44, e203_46, e203_47, e203_50, e203_51, e203_54, e203_55, e203_56, e203_57, e203_58, e203_59, e203_60, e203_63, e203_64, e203_67, e203_70, rk_n, rk_v, nl_n, nl_i, nl_r, cat_n, ip_cat_int, ip_cat_ref, ip_cat_long, ip_rf_some, Nat.reduceAdd, Nat.reduceLeDiff, Nat.reduceLT, Nat.le_refl, Nat.zero_le, hR, g, e1, e3, D2, ia_lit, nu_i, nu_tn, l1, l2, hK1, Bool.false_eq_true, Bool.true_eq_false, if_true, if_false, not_true_eq_false, not_false_eq_true, zle, eq_self]
      split
      · rename_i e
        rw [e] at Q
        obtain ⟨K2, K3, A3, x5, O3⟩ := Q
        exact ⟨K2, K3, fun D hD => ⟨(W D hD).trans (A3 D hD).1, (A3 D hD).2⟩, x5, onlyP_tr O1 O3⟩
      · rename_i e
        rw [e] at Q
        obtain ⟨K2, K3, a3, A3, x1, x2, x3, x4, x5, O3⟩ := Q
        exact ⟨K2, K3, a3, fun D hD => ⟨(W D hD).trans (A3 D hD).1, (A3 D hD).2⟩, x1, x2, x3, x4, x5, onlyP_tr O1 O3⟩
    · rw [if_neg h14]
      have D2 := fun d => c204n (d := d) (n := n) (L := L) (nc := nc) (ns := ns) (nx := nx) (p := p) hR ht hB X ha hs F h14
      have w5 : wrM K p 265 5 = Int32.ofNat p := by unfold wrM; rw [up_eq]
      generalize hK1 : ip_up (wrM K p) 270 (3 * l + k) 0 = K1
      have f1 : ¬ K1 265 5 = -1 := by rw [← hK1, up_a (by decide), w5]; exact nm1 (by omega)
      obtain ⟨K2, A2, O2⟩ := t203x (n := n) (L := L) (nc := nc) (ns := ns) (nx := nx) (l := l) hR hl m (k + 1) K1 (by omega) f1
      have f2 : K2 265 5 = Int32.ofNat p := by rw [O2 265 5 (by omega), ← hK1, up_a (by decide)]; exact w5
      refine ⟨K2, K2, fun D hD => ⟨?_, c213f (by rw [f2]; exact nm1 (by omega))⟩, f2, onlyP_tr (by rw [← hK1]; unfold wrM; exact onlyP_up (onlyP_up (onlyP_up onlyP_refl (by omega)) (by omega)) (by omega)) (onlyP_mono O2 (fun a k e => by omega))⟩
      rw [← A2 D (by omega)]
      obtain ⟨E, rfl⟩ : ∃ E, D = E + 1 + 1 := ⟨D - 2, by omega⟩
      rw [e203_45]
      simp only [e203_0, e203_1, e203_1r, e203_2, e203_5, e203_6, e203_7, e203_10, e203_11, e203_13, e203_16, e203_19, e203_20, e203_23, e203_24, e203_25, e203_26, e203_27, e203_30, e203_31, e203_33, e203_36, e203_39, e203_40, e203_43, e203_44, e203_46, e203_47, e203_50, e203_51, e203_54, e203_55, e203_56, e203_57, e203_58, e203_59, e203_60, e203_63, e203_64, e203_67, e203_70, rk_n, rk_v, nl_n, nl_i, nl_r, cat_n, ip_cat_int, ip_cat_ref, ip_cat_long, ip_rf_some, Nat.reduceAdd, Nat.reduceLeDiff, Nat.reduceLT, Nat.le_refl, Nat.zero_le, hR, g, e1, e3, D2, ia_lit, nu_i, nu_tn, l1, l2, hK1, Bool.false_eq_true, Bool.true_eq_false, if_true, if_false, not_true_eq_false, not_false_eq_true, zle, eq_self]
theorem mi_bars (hR : LYR R) (ht : t ≤ 400) (hB : ∀ i, i < t → ¬ B i = -1) (Y : MSX B t c f sd rs br cl nm cs p K L) (ss : skT B t p = p) (hk : kdT B t p = 5) :
    match bsp B t p br with
    | .inl q => ∃ K1 K2, (∀ D, 9 ≤ D → cf D 203 [.ref 265] (SH n, K, L, R, nc, ns, nx) = some (.inl none, (SH n, K1, L, R, nc, ns, nx)) ∧ cf D 213 [.ref 265, .int 59] (SH n, K1, L, R, nc, ns, nx) = some (.inl none, (SH n, K2, L, R, nc, ns, nx))) ∧ K2 265 5 = Int32.ofNat q ∧ onlyP scL K K2
    | .inr z => ∃ K1 K2 a', (∀ D, 9 ≤ D → cf D 203 [.ref 265] (SH n, K, L, R, nc, ns, nx) = some (.inl none, (SH n, K1, L, R, nc, ns, nx)) ∧ cf D 213 [.ref 265, .int 59] (SH n, K1, L, R, nc, ns, nx) = some (.inl none, (SH n, K2, L, R, nc, ns, nx))) ∧ MSX B t c f sd rs z.2 cl nm cs a' K2 L ∧ skT B t a' = z.1 ∧ onlyP scL K K2 := by
  obtain ⟨y1, y2, y3, y4, y5, y6, y7, y8, y9, y10, y11, y12⟩ := Y
  obtain ⟨q1, pt, q3⟩ := kd_en (j := 5) (by omega) hk
  have q1 : enT B t p = p + 4 := q1
  have n10 : ¬ (1 : Int32) = 0 := by decide
  have e5 : Int32.ofNat p + 4 = Int32.ofNat (enT B t p) := by rw [q1]; exact nu_add (s := 4)
  have e5' : ip_up K 265 4 (Int32.ofNat (enT B t p)) = atM K (enT B t p) := rfl
  have N1 := nxT_le (B := B) (t := t) (p := p) (by omega)
  have Ka : RM B t (enT B t p) (atM K (enT B t p)) := RM_at y1
  have F1 : ∀ q, atM K q 265 5 = -1 := fun q => (up_k (by decide)).trans y3
  have P1 : ∀ q i, i < 6 → atM K q 270 i = Int32.ofNat (br i) := fun q i hi => (up_a (by decide)).trans (y8 i hi)
  unfold bsp
  generalize hP1 : nxT B t p = Q1 at *
  have sQ : skT B t (enT B t p) = Q1 := hP1
  have s1 : skT B t Q1 = Q1 := by rw [← hP1]; exact skT_sk q3
  have Kp1 : RM B t Q1 (atM K Q1) := RM_at y1
  have en1 := (enT_le (B := B) (t := t) (p := Q1) (by omega)).2.1
  -- which level
  have LV : ∀ l, l < 2 → kdT B t Q1 = 6 + l → ∀ D, 9 ≤ D → cf D 203 [.ref 265] (SH n, K, L, R, nc, ns, nx) = rf D 203 45 [some (.ref 265), some (.int (Int32.ofNat l)), some (.int (Int32.ofNat 0))] [] (SH n, atM K (enT B t Q1), L, R, nc, ns, nx) := by
    intro l hl h6 D hD
    obtain ⟨E, rfl⟩ : ∃ E, D = E + 3 + 1 := ⟨D - 4, by omega⟩
    have hl2 : l = 0 ∨ l = 1 := by omega
    rcases hl2 with rfl | rfl
    · have T := fun d => c202 (d := d) (n := n) (L := L) (nc := nc) (ns := ns) (nx := nx) (p := Q1) (τ := 21) (j := 6) hR ht hB Ka q3 sQ (F1 _) (by decide) (by decide) rfl h6
      rw [atM_at] at T
      simp only [en203, e203_0, e203_1, e203_1r, e203_2, e203_5, e203_6, e203_7, e203_10, e203_11, e203_13, e203_16, e203_19, e203_20, e203_23, e203_24, e203_25, e203_26, e203_27, e203_30, e203_31, e203_33, e203_36, e203_39, e203_40, e203_43, e203_44, e203_46, e203_47, e203_50, e203_51, e203_54, e203_55, e203_56, e203_57, e203_58, e203_59, e203_60, e203_63, e203_64, e203_67, e203_70, rk_n, rk_v, nl_n, nl_i, nl_r, cat_n, ip_cat_int, ip_cat_ref, ip_cat_long, ip_rf_some, Nat.reduceAdd, Nat.reduceLeDiff, Nat.reduceLT, Nat.le_refl, Nat.zero_le, y1.2.1, e5, e5', T, n10, (by decide : ¬ (0 : Int32) = 1), Bool.false_eq_true, Bool.true_eq_false, if_true, if_false, not_true_eq_false, not_false_eq_true, zle, eq_self]
      rfl
    · have T := fun d => c202n (d := d) (n := n) (L := L) (nc := nc) (ns := ns) (nx := nx) (p := Q1) (τ := 21) (j := 6) hR ht hB Ka q3 sQ (F1 _) (by decide) (by decide) rfl (by omega)
      have T2 := fun d => c202 (d := d) (n := n) (L := L) (nc := nc) (ns := ns) (nx := nx) (p := Q1) (τ := 22) (j := 7) hR ht hB Kp1 (by omega) s1 (F1 _) (by decide) (by decide) rfl h6
      rw [atM_at] at T T2
      simp only [en203, e203_0, e203_1, e203_1r, e203_2, e203_5, e203_6, e203_7, e203_10, e203_11, e203_13, e203_16, e203_19, e203_20, e203_23, e203_24, e203_25, e203_26, e203_27, e203_30, e203_31, e203_33, e203_36, e203_39, e203_40, e203_43, e203_44, e203_46, e203_47, e203_50, e203_51, e203_54, e203_55, e203_56, e203_57, e203_58, e203_59, e203_60, e203_63, e203_64, e203_67, e203_70, rk_n, rk_v, nl_n, nl_i, nl_r, cat_n, ip_cat_int, ip_cat_ref, ip_cat_long, ip_rf_some, Nat.reduceAdd, Nat.reduceLeDiff, Nat.reduceLT, Nat.le_refl, Nat.zero_le, y1.2.1, e5, e5', T, T2, n10, Bool.false_eq_true, Bool.true_eq_false, if_true, if_false, not_true_eq_false, not_false_eq_true, zle, eq_self]
      rfl
  have FIN : ∀ {K2 : Nat → Nat → Int32} {q : Nat}, onlyP (fun a k => (a = 265 ∧ (k = 4 ∨ k = 5)) ∨ a = 270) (atM K q) K2 → onlyP scL K K2 := fun O => onlyP_tr (onlyP_up onlyP_refl (by unfold scL; omega)) (onlyP_mono O (fun a k e => by unfold scL; omega))
  by_cases h67 : kdT B t Q1 = 6 ∨ kdT B t Q1 = 7
  · rw [if_pos h67]
    obtain ⟨l, hl, h6⟩ : ∃ l, l < 2 ∧ kdT B t Q1 = 6 + l := ⟨kdT B t Q1 - 6, by omega, by omega⟩
    have Q := t203 (n := n) (L := L) (nc := nc) (ns := ns) (nx := nx) (l := l) hR ht hB hl 3 0 (nxT B t Q1) br (enT B t Q1) (atM K (enT B t Q1)) (by omega) (RM_at y1) en1 rfl (F1 _) (P1 _)
    rw [show 3 * (kdT B t Q1 - 6) = 3 * l by omega]
    have W := LV l hl h6
    split
    · rename_i e
      rw [e] at Q
      obtain ⟨K1, K2, A, x5, O⟩ := Q
      exact ⟨K1, K2, fun D hD => ⟨(W D hD).trans (A D (by omega)).1, (A D (by omega)).2⟩, x5, FIN O⟩
    · rename_i e
      rw [e] at Q
      obtain ⟨K1, K2, a', A, x1, x2, x3, x4, x5, O⟩ := Q
      have G : ∀ a k, ¬ ((a = 265 ∧ (k = 4 ∨ k = 5)) ∨ a = 270) → K2 a k = K a k := fun a k h => by
        rw [O a k h]
        unfold atM
        by_cases z : a = 265
        · subst z; rw [up_k (by omega)]
        · rw [up_a z]
      refine ⟨K1, K2, a', fun D hD => ⟨(W D hD).trans (A D (by omega)).1, (A D (by omega)).2⟩, ⟨x1, x2, x4, ?_, y5, fun k hk => ?_, fun k hk => ?_, x5, ?_, ⟨?_, y10.2⟩, ⟨?_, fun i hi => ?_⟩, y12⟩, x3, FIN O⟩
      · rw [G 265 6 (by omega)]; exact y4
      · rw [G 268 k (by omega)]; exact y6 k hk
      · rw [G 269 k (by omega)]; exact y7 k hk
      · rw [G 265 7 (by omega)]; exact y9
      · rw [G 265 8 (by omega)]; exact y10.1
      · rw [G 265 9 (by omega)]; exact y11.1
      · rw [G 271 i (by omega), G 272 i (by omega), G 273 i (by omega)]; exact y11.2 i hi
  · rw [if_neg h67]
    have h6 : ¬ kdT B t Q1 = 6 := fun z => h67 (Or.inl z)
    have h7 : ¬ kdT B t Q1 = 7 := fun z => h67 (Or.inr z)
    have T := fun d => c202n (d := d) (n := n) (L := L) (nc := nc) (ns := ns) (nx := nx) (p := Q1) (τ := 21) (j := 6) hR ht hB Ka q3 sQ (F1 _) (by decide) (by decide) rfl h6
    have T2 := fun d => c202n (d := d) (n := n) (L := L) (nc := nc) (ns := ns) (nx := nx) (p := Q1) (τ := 22) (j := 7) hR ht hB Kp1 (by omega) s1 (F1 _) (by decide) (by decide) rfl h7
    rw [atM_at] at T T2
    have W := fun d => c197 (d := d) (n := n) (J := atM K Q1) (L := L) (R := R) (nc := nc) (ns := ns) (nx := nx) (p := Q1) up_eq (F1 Q1)
    generalize hK1 : ip_up (atM K Q1) 265 5 (Int32.ofNat Q1) = K1 at *
    have k5 : K1 265 5 = Int32.ofNat Q1 := by rw [← hK1, up_eq]
    obtain ⟨K2, A2, O2⟩ := t203x (n := n) (L := L) (nc := nc) (ns := ns) (nx := nx) (l := 1) hR (by omega) 3 0 K1 (by omega) (by rw [k5]; exact nm1 (by omega))
    have f2 : K2 265 5 = Int32.ofNat Q1 := by rw [O2 265 5 (by omega)]; exact k5
    refine ⟨K2, K2, fun D hD => ⟨?_, c213f (by rw [f2]; exact nm1 (by omega))⟩, f2, onlyP_tr (by rw [← hK1]; exact onlyP_up (onlyP_up onlyP_refl (by unfold scL; omega)) (by unfold scL; omega)) (onlyP_mono O2 (fun a k e => by unfold scL; omega))⟩
    rw [← A2 D (by omega)]
    obtain ⟨E, rfl⟩ : ∃ E, D = E + 3 + 1 := ⟨D - 4, by omega⟩
    simp only [en203, e203_0, e203_1, e203_1r, e203_2, e203_5, e203_6, e203_7, e203_10, e203_11, e203_13, e203_16, e203_19, e203_20, e203_23, e203_24, e203_25, e203_26, e203_27, e203_30, e203_31, e203_33, e203_36, e203_39, e203_40, e203_43, e203_44, e203_46, e203_47, e203_50, e203_51, e203_54, e203_55, e203_56, e203_57, e203_58, e203_59, e203_60, e203_63, e203_64, e203_67, e203_70, rk_n, rk_v, nl_n, nl_i, nl_r, cat_n, ip_cat_int, ip_cat_ref, ip_cat_long, ip_rf_some, Nat.reduceAdd, Nat.reduceLeDiff, Nat.reduceLT, Nat.le_refl, Nat.zero_le, y1.2.1, e5, e5', T, T2, W, n10, Bool.false_eq_true, Bool.true_eq_false, if_true, if_false, not_true_eq_false, not_false_eq_true, zle, eq_self]
    rfl
end BA
