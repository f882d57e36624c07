/-! READ: a line that tells an issue -/
def isp4 (B : Nat → Int32) (t s0 : Nat) (x : Option (Nat ⊕ (Nat × Nat))) : Option (Nat ⊕ (Nat × Nat × Nat)) :=
  match x with
  | none => none
  | some (.inl q) => some (.inl q)
  | some (.inr (p4, r)) => if kdT B t p4 = 59 then some (.inr (nxT B t p4, s0, r)) else some (.inl p4)
def isp (B : Nat → Int32) (t : Nat) (f : Nat → List Nat) (c g p : Nat) : Option (Nat ⊕ (Nat × Nat × Nat)) :=
  if kdT B t (nxT B t p) = 13 then (match ffs (fun k => decide (f k = wl B t (nxT B t p))) c 0 with
    | some _ => some (.inl (nxT B t p))
    | none => if 1 ≤ kdT B t (nxT B t (nxT B t p)) ∧ kdT B t (nxT B t (nxT B t p)) ≤ 3 then isp4 B t (kdT B t (nxT B t (nxT B t p)) - 1) (if kdT B t (nxT B t (nxT B t (nxT B t p))) = 4 then rsp B t f c g (nxT B t (nxT B t (nxT B t p))) 0 else some (.inr (nxT B t (nxT B t (nxT B t p)), 0))) else some (.inl (nxT B t (nxT B t p))))
  else some (.inl (nxT B t p))
theorem isp4_c {B : Nat → Int32} {t s0 : Nat} {x : Option (Nat ⊕ (Nat × Nat))} {o : Nat ⊕ (Nat × Nat × Nat)} (h : isp4 B t s0 x = some o) : (∃ q, x = some (.inl q) ∧ o = .inl q) ∨ ∃ p4 r, x = some (.inr (p4, r)) ∧ ((kdT B t p4 = 59 ∧ o = .inr (nxT B t p4, s0, r)) ∨ (¬ kdT B t p4 = 59 ∧ o = .inl p4)) := by
  unfold isp4 at h
  split at h
  · cases h
  · left; exact ⟨_, rfl, (Option.some.inj h).symm⟩
  · right
    refine ⟨_, _, rfl, ?_⟩
    split at h
    · rename_i e; left; exact ⟨e, (Option.some.inj h).symm⟩
    · rename_i e; right; exact ⟨e, (Option.some.inj h).symm⟩
def TCx (T c : Nat) (f : Nat → List Nat) (sd rs br : Nat → Nat) (cl : Bool) (nm : Nat) (v : Nat → Nat) (h : Nat) (J : Nat → Nat → Int32) (L : Nat → Nat → Int64) : Prop :=
  (∀ k, c ≤ k → k < 8 → ∀ i, i < 6 → J (T + 1) (6 * k + i) = 0) ∧ (∀ k, k < c → 0 < (f k).length) ∧ (∀ k, k < c → J (T + 2) k = Int32.ofNat (sd k) ∧ sd k < 3) ∧ (∀ k, k < c → J (T + 3) k = Int32.ofNat (rs k) ∧ rs k < 2 ^ k) ∧ (∀ k, k < c → J (T + 4) k = Int32.ofNat (restOn rs (2 ^ k) c)) ∧ (∀ i, i < 6 → J (T + 5) i = Int32.ofNat (br i)) ∧ J T 8 = bI cl ∧ (cl = false → nm = 0 ∧ h = 0) ∧ (cl = true → ∀ s, s < 256 → winL L T s = decide (v s = 1))
def CSX (B : Nat → Int32) (t T c : Nat) (f : Nat → List Nat) (sd rs br : Nat → Nat) (cl : Bool) (nm : Nat) (v : Nat → Nat) (p : Nat) (J : Nat → Nat → Int32) (L : Nat → Nat → Int64) : Prop := ∃ h st, CLs B t T c f p nm h st J L ∧ TCx T c f sd rs br cl nm v h J L
def MSX (B : Nat → Int32) (t c : Nat) (f : Nat → List Nat) (sd rs br : Nat → Nat) (cl : Bool) (nm : Nat) (cs : List CD) (a : Nat) (K : Nat → Nat → Int32) (L : Nat → Nat → Int64) : Prop :=
  RM B t a K ∧ a ≤ t ∧ K 265 5 = -1 ∧ K 265 6 = Int32.ofNat c ∧ (∀ k, k < c → okl (f k) ∧ (f k).length ≤ 6 ∧ L 267 k = Int64.ofNat (pck (f k))) ∧ (∀ k, k < c → K 268 k = Int32.ofNat (sd k)) ∧ (∀ k, k < c → K 269 k = Int32.ofNat (rs k)) ∧ (∀ i, i < 6 → K 270 i = Int32.ofNat (br i)) ∧ K 265 7 = bI cl ∧ (K 265 8 = Int32.ofNat nm ∧ nm ≤ 40) ∧ CDS cs K ∧ (cl = false → nm = 0 ∧ cs = [])
/-- what reading may write: in the class, in the model -/
def scX (T a k : Nat) : Prop := (a = 4 ∧ 4 ≤ k ∧ k ≤ 6) ∨ (a = 5 ∧ k = 2) ∨ (T ≤ a ∧ a ≤ T + 5)
def scL (a k : Nat) : Prop := (a = 265 ∧ (4 ≤ k ∧ k ≤ 9 ∨ k = 33 ∨ k = 34)) ∨ (268 ≤ a ∧ a ≤ 273) ∨ (281 ≤ a ∧ a ≤ 286)
section LI
variable {n d b c k t p T h nm g a : Nat} {B : Nat → Int32} {f : Nat → List Nat} {sd rs br : Nat → Nat} {cl : Bool} {J K J' : Nat → Nat → Int32} {L L' : Nat → Nat → Int64} {R : Nat → Nat → Option Nat} {nc ns : Nat} {nx : Bool} {x y : Int32} {st : Nat → Nat → Nat} {v : Nat → Nat} {cs : List CD}
theorem CLs_on {Q : Nat → Nat → Prop} (hT2 : T = 9 ∨ T = 16) (X : CLs B t T c f p nm h st J L) (O : onlyP Q J J') (hQ : ∀ a k, Q a k → (a = T + 1 ∧ 6 * c ≤ k) ∨ (a = T ∧ k = 8) ∨ (T + 2 ≤ a ∧ a ≤ T + 5)) : CLs B t T c f p nm h st J' L := by
  obtain ⟨x1, x2, x3, x4, x5, x6, x7, x8, x9, x10⟩ := X
  have G : ∀ a k, ¬ ((a = T + 1 ∧ 6 * c ≤ k) ∨ (a = T ∧ k = 8) ∨ (T + 2 ≤ a ∧ a ≤ T + 5)) → J' a k = J a k := fun a k h => O a k (fun e => h (hQ a k e))
  refine ⟨⟨?_, ?_, ?_, ?_, ?_⟩, x2, ?_, ?_, ?_, x6, x7, ⟨?_, x8.2⟩, x9, x10⟩
  · rw [G 4 3 (by omega)]; exact x1.1
  · rw [G 4 4 (by omega)]; exact x1.2.1
  · rw [G 4 5 (by omega)]; exact x1.2.2.1
  · rw [G 4 6 (by omega)]; exact x1.2.2.2.1
  · intro i hi; rw [G 3 i (by omega)]; exact x1.2.2.2.2 i hi
  · rw [G T 6 (by omega)]; exact x3
  · intro k hk
    obtain ⟨b1, b2, b3⟩ := x4 k hk
    exact ⟨b1, b2, fun i hi => by rw [G (T + 1) _ (by omega)]; exact b3 i hi⟩
  · rw [G T 7 (by omega)]; exact x5
  · rw [G 5 2 (by omega)]; exact x8.1
theorem fm_x (hT2 : T = 9 ∨ T = 16) (F : fmC T J J' L L') : onlyP (scX T) J J' := onlyP_mono F.1 (fun a k e => by unfold scT at e; unfold scX; omega)
theorem ci_issue (hR : LYR R) (ht : t ≤ 400) (hT2 : T = 9 ∨ T = 16) (hT : isT T) (hr : R 4 1 = some 3) (rT : R 4 2 = some T) (hc : c < 8) (X : CSX B t T c f sd rs br cl nm v p J L) (pt : p < t) (o : Nat ⊕ (Nat × Nat × Nat)) (e : isp B t f c g p = some o) :
    match o with
    | .inl q => ∃ J', (∀ D, 8 ≤ D → cf D 47 [.ref 4] (SH n, J, L, R, nc, ns, nx) = some (.inl (some (.int 0)), (SH n, J', L, R, nc, ns, nx))) ∧ RC B t q J' ∧ onlyP (scX T) J J'
    | .inr z => ∃ J', (∀ D, 8 ≤ D → cf D 47 [.ref 4] (SH n, J, L, R, nc, ns, nx) = some (.inl (some (.int 1)), (SH n, J', L, R, nc, ns, nx))) ∧ CSX B t T (c + 1) (fuN f c (wl B t (nxT B t p))) (fuN sd c z.2.1) (fuN rs c z.2.2) br cl nm v z.1 J' L ∧ onlyP (scX T) J J' := by
  obtain ⟨h, st, X0, T0⟩ := X
  have n10 : ¬ (1 : Int32) = 0 := by decide
  obtain ⟨J1, A1, X1, F1⟩ := advc (n := n) (nc := nc) (ns := ns) (nx := nx) ht hT2 hr X0
  have k6 := X1.1.2.2.2.1
  have K13 : (Int32.ofNat (kdT B t (nxT B t p)) = 13) = (kdT B t (nxT B t p) = 13) := kd_i (k := 13) (by omega)
  unfold isp at e
  split at e
  · rename_i h13
    have K13t := K13.trans (eq_true h13)
    have C := fun d => c48 (d := d) (n := n) (L := L) (nc := nc) (ns := ns) (nx := nx) hR ht hr rT hT X1.1 h13 (by omega) X1.2.2.1 X1.2.2.2.1
    unfold fIx at C
    rcases ffs_case (fun k => decide (f k = wl B t (nxT B t p))) c 0 with ⟨z, -⟩ | ⟨j, a1, a2, a3, -⟩
    · rw [z] at e C
      dsimp only at e C
      have hz1 : ∀ i, i < 6 → J1 (T + 1) (6 * c + i) = 0 := fun i hi => by rw [F1.1 (T + 1) _ (by unfold scT; omega)]; exact T0.1 c (Nat.le_refl _) hc i hi
      obtain ⟨J2, A2, O2, P2⟩ := c51 (n := n) (L := L) (nc := nc) (ns := ns) (nx := nx) hR ht hT2 hT hr rT X1.1 h13 hc X1.2.2.1 hz1
      have X2 := CLs_on hT2 X1 O2 (fun a k e => by omega)
      obtain ⟨J3, A3, X3, F3⟩ := advc (n := n) (nc := nc) (ns := ns) (nx := nx) ht hT2 hr X2
      have k63 := X3.1.2.2.2.1
      have kl := kd_lt (B := B) (t := t) (p := nxT B t (nxT B t p))
      have g1 : (Int32.ofNat (kdT B t (nxT B t (nxT B t p))) < 1) = (kdT B t (nxT B t (nxT B t p)) < 1) := propext (nu_lt (s := 1) (by omega) (by omega))
      have g3 : (Int32.ofNat (kdT B t (nxT B t (nxT B t p))) ≤ 3) = (kdT B t (nxT B t (nxT B t p)) ≤ 3) := propext (nu_le (s := 3) (by omega) (by omega))
      have O13 : onlyP (scX T) J J3 := onlyP_tr (fm_x hT2 F1) (onlyP_tr (onlyP_mono O2 (fun a k e => by unfold scX; omega)) (fm_x hT2 F3))
      split at e
      · rename_i hs
        have hs1 : ¬ kdT B t (nxT B t (nxT B t p)) < 1 := by omega
        have hs3 := hs.2
        obtain ⟨J4, A4, X4, F4⟩ := advc (n := n) (nc := nc) (ns := ns) (nx := nx) ht hT2 hr X3
        have k64 := X4.1.2.2.2.1
        have K4 : (Int32.ofNat (kdT B t (nxT B t (nxT B t (nxT B t p)))) = 4) = (kdT B t (nxT B t (nxT B t (nxT B t p))) = 4) := kd_i (k := 4) (by omega)
        have es : Int32.ofNat (kdT B t (nxT B t (nxT B t p))) - 1 = Int32.ofNat (kdT B t (nxT B t (nxT B t p)) - 1) := by
          rw [show Int32.ofNat (kdT B t (nxT B t (nxT B t p))) = Int32.ofNat (kdT B t (nxT B t (nxT B t p)) - 1) + 1 by rw [show kdT B t (nxT B t (nxT B t p)) = kdT B t (nxT B t (nxT B t p)) - 1 + 1 by omega]; exact (nu_add (s := 1)).symm, Int32.add_sub_cancel]
        -- what it rests on
        have RES : ∀ x, (if kdT B t (nxT B t (nxT B t (nxT B t p))) = 4 then rsp B t f c g (nxT B t (nxT B t (nxT B t p))) 0 else some (.inr (nxT B t (nxT B t (nxT B t p)), 0))) = some x → match x with
            | .inl q => ∃ J5, (∀ D, 8 ≤ D → cf D 47 [.ref 4] (SH n, J, L, R, nc, ns, nx) = some (.inl (some (.int 0)), (SH n, J5, L, R, nc, ns, nx))) ∧ RC B t q J5 ∧ fmC T J4 J5 L L
            | .inr z => ∃ J5, (∀ D, 8 ≤ D → cf D 47 [.ref 4] (SH n, J, L, R, nc, ns, nx) = rf D 47 82 [some (.ref 4), some (.int (Int32.ofNat (kdT B t (nxT B t (nxT B t p)) - 1))), some (.int (Int32.ofNat z.2))] [] (SH n, J5, L, R, nc, ns, nx)) ∧ CLs B t T c f z.1 nm h st J5 L ∧ fmC T J4 J5 L L ∧ z.2 < 2 ^ c := by
          intro x ex
          split at ex
          · rename_i h4
            have K4t := K4.trans (eq_true h4)
            have lt4 := (kd_en (j := 4) (by omega) h4).2.1
            have Q := t52 (n := n) (nc := nc) (ns := ns) (nx := nx) hR ht hT2 hT hr rT (by omega) g _ 0 0 J4 x none X4 lt4 (Nat.two_pow_pos c) (cn_none c (fun s _ => Nat.zero_testBit s)) ex
            have en : ∀ D, cf D 52 [.ref 4] (SH n, J4, L, R, nc, ns, nx) = rf D 52 4 [some (.ref 4), some (.int (Int32.ofNat 0)), some (.int (Int32.ofNat 0)), none] [] (SH n, J4, L, R, nc, ns, nx) := by
              intro D
              simp only [en52, e52_0, e52_1, e52_2, e52_3, e52_5, e52_7, e52_10, e52_11, e52_14, e52_15, e52_18, e52_20, e52_23, e52_24, e52_27, e52_30, e52_31, e52_32, e52_33, e52_34, e52_37, e52_38, e52_39, e52_40, e52_41, e52_42, e52_45, e52_46, e52_47, e52_48, e52_49, e52_50, e52_51, e52_52, e52_53, e52_54, e52_57, e52_58, e52_61, e52_63, e52_66, e52_67, e52_68, e52_71, e52_74, e52_75, rk_n, rk_v, nl_n, nl_i, nl_r, cat_n, ip_cat_int, ip_cat_ref, ip_cat_long, ip_rf_some, Nat.reduceAdd, Nat.reduceLeDiff, Nat.reduceLT, Nat.le_refl, Nat.zero_le, Bool.false_eq_true, Bool.true_eq_false, if_true, if_false, not_true_eq_false, not_false_eq_true, zle, eq_self]
              rfl
            cases x with
            | inl q =>
              obtain ⟨J5, A5, X5, F5⟩ := Q
              refine ⟨J5, fun D hD => ?_, X5, F5⟩
              obtain ⟨E, rfl⟩ : ∃ E, D = E + 2 + 1 := ⟨D - 3, by omega⟩
              have a1 := A1 (E + 2) (by omega)
              have a3 := A3 (E + 2) (by omega)
              have a4 := A4 (E + 2) (by omega)
              have a5 := (en (E + 2)).trans (A5 (E + 2) (by omega))
              simp only [en47, e47_0, e47_1, e47_4, e47_5, e47_8, e47_10, e47_13, e47_14, e47_17, e47_18, e47_21, e47_22, e47_23, e47_24, e47_27, e47_28, e47_31, e47_32, e47_35, e47_36, e47_39, e47_40, e47_43, e47_44, e47_47, e47_48, e47_49, e47_50, e47_53, e47_54, e47_55, e47_56, e47_57, e47_60, e47_61, e47_64, e47_65, e47_68, e47_69, e47_72, e47_75, e47_76, e47_77, e47_78, e47_79, e47_82, e47_83, e47_85, e47_88, e47_91, e47_92, e47_93, e47_94, e47_97, e47_98, e47_99, e47_102, e47_103, rk_n, rk_v, nl_n, nl_i, nl_r, cat_n, ip_cat_int, ip_cat_ref, ip_cat_long, ip_rf_some, Nat.reduceAdd, Nat.reduceLeDiff, Nat.reduceLT, Nat.le_refl, Nat.zero_le, a1, k6, K13t, C, A2, a3, k63, g1, g3, hs1, hs3, es, a4, k64, K4t, a5, true_or, or_true, Bool.false_eq_true, Bool.true_eq_false, if_true, if_false, not_true_eq_false, not_false_eq_true, zle, eq_self]
            | inr z =>
              obtain ⟨J5, A5, X5, F5⟩ := Q
              have rok := rsp_ok (by omega) g _ 0 z.1 z.2 lt4 (Nat.two_pow_pos c) ex
              have p2c : 2 ^ c ≤ 256 := p2le (by omega)
              have nz : (Int32.ofNat z.2 = -1) = False := eq_false (fun e => nu_nn (t := z.2) (by omega) (by rw [e]; decide))
              refine ⟨J5, fun D hD => ?_, X5, F5, rok.2.2⟩
              obtain ⟨E, rfl⟩ : ∃ E, D = E + 2 + 1 := ⟨D - 3, by omega⟩
              have a1 := A1 (E + 2) (by omega)
              have a3 := A3 (E + 2) (by omega)
              have a4 := A4 (E + 2) (by omega)
              have a5 := (en (E + 2)).trans (A5 (E + 2) (by omega))
              simp only [en47, e47_0, e47_1, e47_4, e47_5, e47_8, e47_10, e47_13, e47_14, e47_17, e47_18, e47_23, e47_24, e47_27, e47_28, e47_31, e47_32, e47_35, e47_36, e47_39, e47_40, e47_43, e47_44, e47_49, e47_50, e47_53, e47_54, e47_55, e47_56, e47_57, e47_60, e47_61, e47_64, e47_65, e47_68, e47_69, e47_72, e47_75, e47_76, e47_77, e47_78, e47_79, rk_n, rk_v, nl_n, nl_i, nl_r, cat_n, ip_cat_int, ip_cat_ref, ip_cat_long, ip_rf_some, Nat.reduceAdd, Nat.reduceLeDiff, Nat.reduceLT, Nat.le_refl, Nat.zero_le, a1, k6, K13t, C, A2, a3, k63, g1, g3, hs1, hs3, es, a4, k64, K4t, a5, nz, Bool.false_eq_true, Bool.true_eq_false, if_true, if_false, not_true_eq_false, not_false_eq_true, zle, eq_self]
          · rename_i h4
            have ex := Option.some.inj ex
            subst ex
            refine ⟨J4, fun D hD => ?_, X4, fm_r, Nat.two_pow_pos c⟩
            obtain ⟨E, rfl⟩ : ∃ E, D = E + 2 + 1 := ⟨D - 3, by omega⟩
            have a1 := A1 (E + 2) (by omega)
            have a3 := A3 (E + 2) (by omega)
            have a4 := A4 (E + 2) (by omega)
            simp only [en47, e47_0, e47_1, e47_4, e47_5, e47_8, e47_10, e47_13, e47_14, e47_17, e47_18, e47_23, e47_24, e47_27, e47_28, e47_31, e47_32, e47_35, e47_36, e47_39, e47_40, e47_43, e47_44, e47_49, e47_50, e47_53, e47_54, e47_55, e47_56, e47_57, e47_60, e47_61, e47_64, e47_65, e47_68, e47_69, e47_72, e47_75, e47_76, e47_77, e47_78, e47_79, rk_n, rk_v, nl_n, nl_i, nl_r, cat_n, ip_cat_int, ip_cat_ref, ip_cat_long, ip_rf_some, Nat.reduceAdd, Nat.reduceLeDiff, Nat.reduceLT, Nat.le_refl, Nat.zero_le, a1, k6, K13t, C, A2, a3, k63, g1, g3, hs1, hs3, es, a4, k64, K4, h4, (by decide : ¬ (0 : Int32) = -1), Bool.false_eq_true, Bool.true_eq_false, if_true, if_false, not_true_eq_false, not_false_eq_true, zle, eq_self]
            rfl
        rcases isp4_c e with ⟨q, e1, e2⟩ | ⟨p4, r, e1, e2⟩
        · subst e2
          obtain ⟨J5, A5, X5, F5⟩ := RES _ e1
          exact ⟨J5, A5, X5, onlyP_tr O13 (onlyP_tr (fm_x hT2 F4) (fm_x hT2 F5))⟩
        · obtain ⟨J5, A5, X5, F5, r5⟩ := RES _ e1
          dsimp only at A5 X5 r5
          have O15 := onlyP_tr O13 (onlyP_tr (fm_x hT2 F4) (fm_x hT2 F5))
          rcases e2 with ⟨h59, e2⟩ | ⟨h59, e2⟩
          · subst e2
            obtain ⟨J6, A6, X6, F6⟩ := passc (n := n) (nc := nc) (ns := ns) (nx := nx) (k := 59) ht hT2 hr X5 (by omega) h59
            have FF : fmC T J2 J6 L L := fm_t F3 (fm_t F4 (fm_t F5 F6))
            have G6 : ∀ a k, T ≤ a → a ≤ T + 5 → ¬ (a = T ∧ k = 7) → J6 a k = J2 a k := fun a k h1 h2 h3 => FF.1 a k (by unfold scT; omega)
            have G2 : ∀ a k, ¬ (a = T + 1 ∧ 6 * c ≤ k ∧ k < 6 * c + 6) → J2 a k = J1 a k := fun a k h1 => O2 a k h1
            have G1 : ∀ a k, T ≤ a → a ≤ T + 5 → ¬ (a = T ∧ k = 7) → J1 a k = J a k := fun a k h1 h2 h3 => F1.1 a k (by unfold scT; omega)
            have rs' : ∀ k, k < c → rs k < 2 ^ k := fun k hk => (T0.2.2.2.1 k hk).2
            obtain ⟨J7, A7, O7, s7, r7, c7, a7⟩ := c54 (n := n) (L := L) (nc := nc) (ns := ns) (nx := nx) (s0 := kdT B t (nxT B t (nxT B t p)) - 1) (r0 := r) (rs := rs) hR hT2 hT hc X6.2.2.1 rs' r5 (fun k hk => by rw [G6 (T + 4) k (by omega) (by omega) (by omega), G2 (T + 4) k (by omega), G1 (T + 4) k (by omega) (by omega) (by omega)]; exact T0.2.2.2.2.1 k hk)
            refine ⟨J7, fun D hD => ?_, ⟨h, st, ?_, ?_⟩, onlyP_tr O15 (onlyP_tr (fm_x hT2 F6) (onlyP_mono O7 (fun a k e => by unfold scX; omega)))⟩
            · rw [A5 D hD]
              obtain ⟨E, rfl⟩ : ∃ E, D = E + 2 + 1 := ⟨D - 3, by omega⟩
              have a6 : cf (E + 2) 53 [.ref 4, .int 59] (SH n, J5, L, R, nc, ns, nx) = _ := A6 (E + 2) (by omega)
              simp only [e47_0, e47_1, e47_4, e47_5, e47_8, e47_10, e47_13, e47_14, e47_17, e47_18, e47_21, e47_22, e47_23, e47_24, e47_27, e47_28, e47_31, e47_32, e47_35, e47_36, e47_39, e47_40, e47_43, e47_44, e47_47, e47_48, e47_49, e47_50, e47_53, e47_54, e47_55, e47_56, e47_57, e47_60, e47_61, e47_64, e47_65, e47_68, e47_69, e47_72, e47_75, e47_76, e47_77, e47_78, e47_79, e47_82, e47_83, e47_85, e47_88, e47_91, e47_92, e47_93, e47_94, e47_97, e47_98, e47_99, e47_102, e47_103, rk_n, rk_v, nl_n, nl_i, nl_r, cat_n, ip_cat_int, ip_cat_ref, ip_cat_long, ip_rf_some, Nat.reduceAdd, Nat.reduceLeDiff, Nat.reduceLT, Nat.le_refl, Nat.zero_le, a6, n10, rT, hT, A7, true_or, or_true, Bool.false_eq_true, Bool.true_eq_false, if_true, if_false, not_true_eq_false, not_false_eq_true, zle, eq_self]
            · obtain ⟨x1, x2, x3, x4, x5, x6, x7, x8, x9, x10⟩ := X6
              have n6 := (kd_nm.mp h13).2.1
              refine ⟨⟨?_, ?_, ?_, ?_, ?_⟩, x2, c7, ?_, ?_, x6, x7, ⟨?_, x8.2⟩, x9, x10⟩
              · rw [O7 4 3 (by omega)]; exact x1.1
              · rw [O7 4 4 (by omega)]; exact x1.2.1
              · rw [O7 4 5 (by omega)]; exact x1.2.2.1
              · rw [O7 4 6 (by omega)]; exact x1.2.2.2.1
              · intro i hi; rw [O7 3 i (by omega)]; exact x1.2.2.2.2 i hi
              · intro k hk
                by_cases z : k = c
                · subst z
                  rw [fuN_e]
                  exact ⟨wl_ok, by rw [wl_len]; exact n6, fun i hi => by rw [O7 (T + 1) _ (by omega), G6 (T + 1) _ (by omega) (by omega) (by omega)]; exact P2 i hi⟩
                · rw [fuN_n z]
                  obtain ⟨b1, b2, b3⟩ := x4 k (by omega)
                  exact ⟨b1, b2, fun i hi => by rw [O7 (T + 1) _ (by omega)]; exact b3 i hi⟩
              · rw [O7 T 7 (by omega)]; exact x5
              · rw [O7 5 2 (by omega)]; exact x8.1
            · obtain ⟨t1, t2, t3, t4, t5, t6, t7, t8, t9⟩ := T0
              have q0 := (kd_nm.mp h13).1
              refine ⟨fun k k1 k2 i hi => ?_, fun k hk => ?_, fun k hk => ?_, fun k hk => ?_, a7, fun i hi => ?_, ?_, t8, t9⟩
              · rw [O7 (T + 1) _ (by omega), G6 (T + 1) _ (by omega) (by omega) (by omega), G2 (T + 1) _ (by omega), G1 (T + 1) _ (by omega) (by omega) (by omega)]; exact t1 k (by omega) k2 i hi
              · by_cases z : k = c
                · subst z; rw [fuN_e, wl_len]; exact q0
                · rw [fuN_n z]; exact t2 k (by omega)
              · by_cases z : k = c
                · subst z; rw [fuN_e]; exact ⟨s7, by dsimp only; omega⟩
                · rw [fuN_n z, O7 (T + 2) k (by omega), G6 (T + 2) k (by omega) (by omega) (by omega), G2 (T + 2) k (by omega), G1 (T + 2) k (by omega) (by omega) (by omega)]; exact t3 k (by omega)
              · by_cases z : k = c
                · subst z; rw [fuN_e]; exact ⟨r7, r5⟩
                · rw [fuN_n z, O7 (T + 3) k (by omega), G6 (T + 3) k (by omega) (by omega) (by omega), G2 (T + 3) k (by omega), G1 (T + 3) k (by omega) (by omega) (by omega)]; exact t4 k (by omega)
              · rw [O7 (T + 5) i (by omega), G6 (T + 5) i (by omega) (by omega) (by omega), G2 (T + 5) i (by omega), G1 (T + 5) i (by omega) (by omega) (by omega)]; exact t6 i hi
              · rw [O7 T 8 (by omega), G6 T 8 (by omega) (by omega) (by omega), G2 T 8 (by omega), G1 T 8 (by omega) (by omega) (by omega)]; exact t7
          · subst e2
            have A6 := passn (n := n) (L := L) (R := R) (nc := nc) (ns := ns) (nx := nx) (k := 59) X5.1 (by omega) h59
            refine ⟨J5, fun D hD => ?_, X5.1, O15⟩
            rw [A5 D hD]
            obtain ⟨E, rfl⟩ : ∃ E, D = E + 2 + 1 := ⟨D - 3, by omega⟩
            have a6 : cf (E + 2) 53 [.ref 4, .int 59] (SH n, J5, L, R, nc, ns, nx) = _ := A6 (E + 2)
            simp only [e47_0, e47_1, e47_4, e47_5, e47_8, e47_10, e47_13, e47_14, e47_17, e47_18, e47_21, e47_22, e47_23, e47_24, e47_27, e47_28, e47_31, e47_32, e47_35, e47_36, e47_39, e47_40, e47_43, e47_44, e47_47, e47_48, e47_49, e47_50, e47_53, e47_54, e47_55, e47_56, e47_57, e47_60, e47_61, e47_64, e47_65, e47_68, e47_69, e47_72, e47_75, e47_76, e47_77, e47_78, e47_79, e47_82, e47_83, e47_85, e47_88, e47_91, e47_92, e47_93, e47_94, e47_97, e47_98, e47_99, e47_102, e47_103, rk_n, rk_v, nl_n, nl_i, nl_r, cat_n, ip_cat_int, ip_cat_ref, ip_cat_long, ip_rf_some, Nat.reduceAdd, Nat.reduceLeDiff, Nat.reduceLT, Nat.le_refl, Nat.zero_le, a6, true_or, or_true, Bool.false_eq_true, Bool.true_eq_false, if_true, if_false, not_true_eq_false, not_false_eq_true, zle, eq_self]
      · rename_i hs
        have e := Option.some.inj e
        subst e
        refine ⟨J3, fun D hD => ?_, X3.1, O13⟩
        obtain ⟨E, rfl⟩ : ∃ E, D = E + 2 + 1 := ⟨D - 3, by omega⟩
        have a1 := A1 (E + 2) (by omega)
        have a3 := A3 (E + 2) (by omega)
        by_cases hs1 : kdT B t (nxT B t (nxT B t p)) < 1
        · simp only [en47, e47_0, e47_1, e47_4, e47_5, e47_8, e47_10, e47_13, e47_14, e47_17, e47_18, e47_21, e47_22, e47_23, e47_24, e47_27, e47_28, e47_31, e47_32, e47_35, e47_36, e47_39, e47_40, e47_43, e47_44, e47_47, e47_48, e47_49, e47_50, e47_53, e47_54, e47_55, e47_56, e47_57, e47_60, e47_61, e47_64, e47_65, e47_68, e47_69, e47_72, e47_75, e47_76, e47_77, e47_78, e47_79, e47_82, e47_83, e47_85, e47_88, e47_91, e47_92, e47_93, e47_94, e47_97, e47_98, e47_99, e47_102, e47_103, rk_n, rk_v, nl_n, nl_i, nl_r, cat_n, ip_cat_int, ip_cat_ref, ip_cat_long, ip_rf_some, Nat.reduceAdd, Nat.reduceLeDiff, Nat.reduceLT, Nat.le_refl, Nat.zero_le, a1, k6, K13t, C, A2, a3, k63, g1, hs1, true_or, or_true, Bool.false_eq_true, Bool.true_eq_false, if_true, if_false, not_true_eq_false, not_false_eq_true, zle, eq_self]
        · have hs3 : ¬ kdT B t (nxT B t (nxT B t p)) ≤ 3 := fun z => hs ⟨by omega, z⟩
          simp only [en47, e47_0, e47_1, e47_4, e47_5, e47_8, e47_10, e47_13, e47_14, e47_17, e47_18, e47_21, e47_22, e47_23, e47_24, e47_27, e47_28, e47_31, e47_32, e47_35, e47_36, e47_39, e47_40, e47_43, e47_44, e47_47, e47_48, e47_49, e47_50, e47_53, e47_54, e47_55, e47_56, e47_57, e47_60, e47_61, e47_64, e47_65, e47_68, e47_69, e47_72, e47_75, e47_76, e47_77, e47_78, e47_79, e47_82, e47_83, e47_85, e47_88, e47_91, e47_92, e47_93, e47_94, e47_97, e47_98, e47_99, e47_102, e47_103, rk_n, rk_v, nl_n, nl_i, nl_r, cat_n, ip_cat_int, ip_cat_ref, ip_cat_long, ip_rf_some, Nat.reduceAdd, Nat.reduceLeDiff, Nat.reduceLT, Nat.le_refl, Nat.zero_le, a1, k6, K13t, C, A2, a3, k63, g1, g3, hs1, hs3, true_or, or_true, Bool.false_eq_true, Bool.true_eq_false, if_true, if_false, not_true_eq_false, not_false_eq_true, zle, eq_self]
    · rw [a1] at e C
      dsimp only at e C
      have e := Option.some.inj e
      subst e
      have nj : (Int32.ofNat j = -1) = False := eq_false (fun e => nu_nn (t := j) (by omega) (by rw [e]; decide))
      refine ⟨J1, fun D hD => ?_, X1.1, fm_x hT2 F1⟩
      obtain ⟨E, rfl⟩ : ∃ E, D = E + 2 + 1 := ⟨D - 3, by omega⟩
      have a1 := A1 (E + 2) (by omega)
      simp only [en47, e47_0, e47_1, e47_4, e47_5, e47_8, e47_10, e47_13, e47_14, e47_17, e47_18, e47_21, e47_22, e47_23, e47_24, e47_27, e47_28, e47_31, e47_32, e47_35, e47_36, e47_39, e47_40, e47_43, e47_44, e47_47, e47_48, e47_49, e47_50, e47_53, e47_54, e47_55, e47_56, e47_57, e47_60, e47_61, e47_64, e47_65, e47_68, e47_69, e47_72, e47_75, e47_76, e47_77, e47_78, e47_79, e47_82, e47_83, e47_85, e47_88, e47_91, e47_92, e47_93, e47_94, e47_97, e47_98, e47_99, e47_102, e47_103, rk_n, rk_v, nl_n, nl_i, nl_r, cat_n, ip_cat_int, ip_cat_ref, ip_cat_long, ip_rf_some, Nat.reduceAdd, Nat.reduceLeDiff, Nat.reduceLT, Nat.le_refl, Nat.zero_le, a1, k6, K13t, C, nj, true_or, or_true, Bool.false_eq_true, Bool.true_eq_false, if_true, if_false, not_true_eq_false, not_false_eq_true, zle, eq_self]
  · rename_i h13
    have e := Option.some.inj e
    subst e
    refine ⟨J1, fun D hD => ?_, X1.1, fm_x hT2 F1⟩
    obtain ⟨E, rfl⟩ : ∃ E, D = E + 2 + 1 := ⟨D - 3, by omega⟩
    have a1 := A1 (E + 2) (by omega)
    simp only [en47, e47_0, e47_1, e47_4, e47_5, e47_8, e47_10, e47_13, e47_14, e47_17, e47_18, e47_21, e47_22, e47_23, e47_24, e47_27, e47_28, e47_31, e47_32, e47_35, e47_36, e47_39, e47_40, e47_43, e47_44, e47_47, e47_48, e47_49, e47_50, e47_53, e47_54, e47_55, e47_56, e47_57, e47_60, e47_61, e47_64, e47_65, e47_68, e47_69, e47_72, e47_75, e47_76, e47_77, e47_78, e47_79, e47_82, e47_83, e47_85, e47_88, e47_91, e47_92, e47_93, e47_94, e47_97, e47_98, e47_99, e47_102, e47_103, rk_n, rk_v, nl_n, nl_i, nl_r, cat_n, ip_cat_int, ip_cat_ref, ip_cat_long, ip_rf_some, Nat.reduceAdd, Nat.reduceLeDiff, Nat.reduceLT, Nat.le_refl, Nat.zero_le, a1, k6, K13, h13, true_or, or_true, Bool.false_eq_true, Bool.true_eq_false, if_true, if_false, not_true_eq_false, not_false_eq_true, zle, eq_self]
end LI
