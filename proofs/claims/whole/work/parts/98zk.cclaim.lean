/-! READ: the class reads a claim -/
def scT (T a k : Nat) : Prop := (a = 4 ∧ 4 ≤ k ∧ k ≤ 6) ∨ (a = 5 ∧ k = 2) ∨ (a = T ∧ k = 7)
def CLs (B : Nat → Int32) (t T c : Nat) (f : Nat → List Nat) (p nm h : Nat) (st : Nat → Nat → Nat) (J : Nat → Nat → Int32) (L : Nat → Nat → Int64) : Prop :=
  RC B t p J ∧ p ≤ t ∧ J T 6 = Int32.ofNat c ∧ (∀ k, k < c → okl (f k) ∧ (f k).length ≤ 6 ∧ ∀ i, i < 6 → J (T + 1) (6 * k + i) = Int32.ofNat (if i < (f k).length then 96 + (f k).getD i 0 else 0)) ∧ J T 7 = Int32.ofNat nm ∧ nm ≤ 40 ∧ h ≤ nm ∧ TB h st J L ∧ (∀ i, i < h → le1 (st i)) ∧ ∀ k, k < 6 → L 1 k = ip_nm k
def fmC (T : Nat) (J J' : Nat → Nat → Int32) (L L' : Nat → Nat → Int64) : Prop := onlyP (scT T) J J' ∧ oL L L'
/-- what comes of a part: a fault at q, or one more table -/
def oBC (B : Nat → Int32) (t T c : Nat) (f : Nat → List Nat) (h : Nat) (st : Nat → Nat → Nat) (J : Nat → Nat → Int32) (L : Nat → Nat → Int64) (n : Nat) (R : Nat → Nat → Option Nat) (nc ns : Nat) (nx : Bool) (X : Option ((Option Value ⊕ String) × ip_H) → Prop) (o : Nat ⊕ SRs) : Prop :=
  match o with
  | .inl q => ∃ J' L', X (some (.inl (some (.int 0)), (SH n, J', L', R, nc, ns, nx))) ∧ RC B t q J' ∧ fmC T J J' L L'
  | .inr r => ∃ J' L' st', X (some (.inl (some (.int 1)), (SH n, J', L', R, nc, ns, nx))) ∧ CLs B t T c f r.1 r.2.1 (h + 1) st' J' L' ∧ st' h = r.2.2.2.1 ∧ (∀ i, i < h → st' i = st i) ∧ fmC T J J' L L'
section CC
variable {n d b c k t p T h nm : Nat} {B : Nat → Int32} {f : Nat → List Nat} {J K J' : Nat → Nat → Int32} {L L' : Nat → Nat → Int64} {R : Nat → Nat → Option Nat} {nc ns : Nat} {nx : Bool} {x y : Int32} {st st' : Nat → Nat → Nat} {v : Nat → Nat}
theorem fm_r : fmC T J J L L := ⟨onlyP_refl, oL_r⟩
theorem fm_t {J1 J2 J3 : Nat → Nat → Int32} {L1 L2 L3 : Nat → Nat → Int64} (a : fmC T J1 J2 L1 L2) (b : fmC T J2 J3 L2 L3) : fmC T J1 J3 L1 L3 := ⟨onlyP_tr a.1 b.1, oL_tr a.2 b.2⟩
theorem fm_4 (h : onlyP (fun a k => a = 4 ∧ 4 ≤ k ∧ k ≤ 6) J J') : fmC T J J' L L := ⟨onlyP_mono h (fun a k e => Or.inl e), oL_r⟩
theorem fm_5 {x : Int32} (g : oL L L') : fmC T J (ip_up J 5 2 x) L L' := ⟨onlyP_up onlyP_refl (Or.inr (Or.inl ⟨rfl, rfl⟩)), g⟩
theorem fm_0 (g : oL L L') : fmC T J J L L' := ⟨onlyP_refl, g⟩
/-- on to the next token -/
theorem advc (ht : t ≤ 400) (hT2 : T = 9 ∨ T = 16) (hr : R 4 1 = some 3) (X : CLs B t T c f p nm h st J L) : ∃ J', (∀ D, 3 ≤ D → cf D 40 [.ref 4] (SH n, J, L, R, nc, ns, nx) = some (.inl none, (SH n, J', L, R, nc, ns, nx))) ∧ CLs B t T c f (nxT B t p) nm h st J' L ∧ fmC T J J' L L := by
  obtain ⟨x1, x2, x3, x4, x5, x6, x7, x8, x9, x10⟩ := X
  obtain ⟨J', A, Y, O⟩ := adv (n := n) (L := L) (nc := nc) (ns := ns) (nx := nx) ht hr x2 x1
  refine ⟨J', fun D hD => ?_, ⟨Y, (nxT_le x2).2.1, ?_, ?_, ?_, x6, x7, ⟨?_, x8.2⟩, x9, x10⟩, fm_4 O⟩
  · have := A (D - 3)
    rw [show D - 3 + 3 = D by omega] at this
    exact this
  · rw [O T 6 (by omega)]; exact x3
  · intro k hk
    obtain ⟨a1, a2, a3⟩ := x4 k hk
    exact ⟨a1, a2, fun i hi => by rw [O (T + 1) _ (by omega)]; exact a3 i hi⟩
  · rw [O T 7 (by omega)]; exact x5
  · rw [O 5 2 (by omega)]; exact x8.1
/-- pass -/
theorem passc (ht : t ≤ 400) (hT2 : T = 9 ∨ T = 16) (hr : R 4 1 = some 3) (X : CLs B t T c f p nm h st J L) (hk : k < 1000) (e : kdT B t p = k) : ∃ J', (∀ D, 4 ≤ D → cf D 53 [.ref 4, .int (Int32.ofNat k)] (SH n, J, L, R, nc, ns, nx) = some (.inl (some (.int 1)), (SH n, J', L, R, nc, ns, nx))) ∧ CLs B t T c f (nxT B t p) nm h st J' L ∧ fmC T J J' L L := by
  obtain ⟨J', A, Y, O⟩ := advc (n := n) (nc := nc) (ns := ns) (nx := nx) ht hT2 hr X
  refine ⟨J', fun D hD => ?_, Y, O⟩
  obtain ⟨E, rfl⟩ : ∃ E, D = E + 1 := ⟨D - 1, by omega⟩
  have a := A E (by omega)
  simp only [en53, e53_0, e53_1, e53_4, e53_5, e53_8, e53_9, e53_10, e53_11, e53_14, e53_15, rk_n, rk_v, nl_n, nl_i, nl_r, cat_n, ip_cat_int, ip_cat_ref, ip_cat_long, ip_rf_some, Nat.reduceAdd, Nat.reduceLeDiff, Nat.reduceLT, Nat.le_refl, Nat.zero_le, X.1.2.2.2.1, e, a, true_or, or_true, Bool.false_eq_true, Bool.true_eq_false, if_true, if_false, not_true_eq_false, not_false_eq_true, zle, eq_self]
theorem passn (X : RC B t p J) (hk : k < 1000) (e : ¬ kdT B t p = k) : ∀ D, cf D 53 [.ref 4, .int (Int32.ofNat k)] (SH n, J, L, R, nc, ns, nx) = some (.inl (some (.int 0)), (SH n, J, L, R, nc, ns, nx)) := by
  intro D
  have l := kd_lt (B := B) (t := t) (p := p)
  have g : (Int32.ofNat (kdT B t p) = Int32.ofNat k) = False := eq_false (fun q => e ((nu_inj (by omega) (by omega)).mp q))
  simp only [en53, e53_0, e53_1, e53_4, e53_5, e53_8, e53_9, e53_10, e53_11, e53_14, e53_15, rk_n, rk_v, nl_n, nl_i, nl_r, cat_n, ip_cat_int, ip_cat_ref, ip_cat_long, ip_rf_some, Nat.reduceAdd, Nat.reduceLeDiff, Nat.reduceLT, Nat.le_refl, Nat.zero_le, X.2.2.2.1, g, true_or, or_true, Bool.false_eq_true, Bool.true_eq_false, if_true, if_false, not_true_eq_false, not_false_eq_true, zle, eq_self]
theorem kd_i {k : Nat} (hk : k < 1000) : (Int32.ofNat (kdT B t p) = Int32.ofNat k) = (kdT B t p = k) := by
  have l := kd_lt (B := B) (t := t) (p := p)
  exact propext (nu_inj (by omega) (by omega))
/-- a name -/
theorem c62 (hR : LYR R) (ht : t ≤ 400) (hT2 : T = 9 ∨ T = 16) (hT : isT T) (hr : R 4 1 = some 3) (rT : R 4 2 = some T) (hc8 : c ≤ 8) (X : CLs B t T c f p nm h st J L) (e : kdT B t p = 13) (o : Nat ⊕ SRs)
    (ho : (match ffs (fun k => decide (f k = wl B t p)) c 0 with | some k => if nm < 40 then some (.inr (nxT B t p, nm + 1, [(0, k, 0)], vBit k, 0)) else some (.inl p) | none => some (.inl p)) = some o) :
    oBC B t T c f h st J L n R nc ns nx (fun r => ∀ D, 5 ≤ D → cf D 62 [.ref 4] (SH n, J, L, R, nc, ns, nx) = r) o := by
  obtain ⟨x1, x2, x3, x4, x5, x6, x7, x8, x9, x10⟩ := X
  have C := fun d => c48 (d := d) (n := n) (L := L) (nc := nc) (ns := ns) (nx := nx) hR ht hr rT hT x1 e hc8 x3 x4
  unfold fIx at C
  rcases ffs_case (fun k => decide (f k = wl B t p)) c 0 with ⟨a, b⟩ | ⟨k, a1, a2, a3, a4, a5⟩
  · rw [a] at ho C
    have ho := Option.some.inj ho
    subst ho
    refine ⟨J, L, fun D hD => ?_, x1, fm_r⟩
    obtain ⟨E, rfl⟩ : ∃ E, D = E + 2 + 1 := ⟨D - 3, by omega⟩
    simp only [en62, e62_0, e62_1, e62_4, e62_5, e62_6, e62_7, e62_10, e62_11, e62_14, e62_17, e62_19, e62_22, e62_23, e62_24, e62_25, e62_28, e62_28r, e62_29, e62_32, e62_33, e62_34, e62_37, e62_38, e62_41, e62_42, e62_45, e62_46, e62_49, e62_50, rk_n, rk_v, nl_n, nl_i, nl_r, cat_n, ip_cat_int, ip_cat_ref, ip_cat_long, ip_rf_some, Nat.reduceAdd, Nat.reduceLeDiff, Nat.reduceLT, Nat.le_refl, Nat.zero_le, C, true_or, or_true, Bool.false_eq_true, Bool.true_eq_false, if_true, if_false, not_true_eq_false, not_false_eq_true, zle, eq_self]
  · rw [a1] at ho C
    dsimp only at ho C
    have nk : (Int32.ofNat k = -1) = False := eq_false (fun e => nu_nn (t := k) (by omega) (by rw [e]; decide))
    by_cases g : nm < 40
    · rw [if_pos g] at ho
      have ho := Option.some.inj ho
      subst ho
      have g4 : (Int32.ofNat nm < 40) = True := eq_true ((nu_lt (s := 40) (by omega) (by omega)).mpr g)
      have e1 : Int32.ofNat nm + 1 = Int32.ofNat (nm + 1) := nu_add (s := 1)
      generalize hJ1 : ip_up J T 7 (Int32.ofNat (nm + 1)) = J1
      have O1 : onlyP (scT T) J J1 := by rw [← hJ1]; exact onlyP_up onlyP_refl (Or.inr (Or.inr ⟨rfl, rfl⟩))
      have G1 : ∀ a q, ¬ (a = T ∧ q = 7) → J1 a q = J a q := by
        intro a q hq
        rw [← hJ1]
        by_cases z : a = T
        · subst z; exact up_k (fun e => hq ⟨rfl, e⟩)
        · exact up_a z
      obtain ⟨L2, A2, X2, O2⟩ := c63 (n := n) (J := J1) (nc := nc) (ns := ns) (nx := nx) (k := k) (st := st) (h := h) hR x10 (by omega) ⟨(G1 5 2 (by omega)).trans x8.1, x8.2⟩ (by omega)
      have Y : CLs B t T c f p (nm + 1) (h + 1) (pst st h (vBit k)) (ip_up J1 5 2 (Int32.ofNat (h + 1))) L2 := by
        have G2 : ∀ a q, ¬ (a = T ∧ q = 7) → ¬ a = 5 → ip_up J1 5 2 (Int32.ofNat (h + 1)) a q = J a q := fun a q q1 q2 => (up_a q2).trans (G1 a q q1)
        refine ⟨⟨?_, ?_, ?_, ?_, ?_⟩, x2, ?_, ?_, ?_, by omega, by omega, X2, ?_, ?_⟩
        · rw [G2 4 3 (by omega) (by omega)]; exact x1.1
        · rw [G2 4 4 (by omega) (by omega)]; exact x1.2.1
        · rw [G2 4 5 (by omega) (by omega)]; exact x1.2.2.1
        · rw [G2 4 6 (by omega) (by omega)]; exact x1.2.2.2.1
        · intro i hi; rw [G2 3 i (by omega) (by omega)]; exact x1.2.2.2.2 i hi
        · rw [G2 T 6 (by omega) (by omega)]; exact x3
        · intro k hk
          obtain ⟨b1, b2, b3⟩ := x4 k hk
          exact ⟨b1, b2, fun i hi => by rw [G2 (T + 1) _ (by omega) (by omega)]; exact b3 i hi⟩
        · rw [up_a (by omega), ← hJ1, up_eq]
        · intro i hi
          by_cases z : i = h
          · subst z; rw [pst_e]; exact le1_bit
          · rw [pst_n z]; exact x9 i (by omega)
        · intro k hk; rw [O2 1 k (by omega) (by omega)]; exact x10 k hk
      obtain ⟨J3, A3, Y3, F3⟩ := advc (n := n) (nc := nc) (ns := ns) (nx := nx) ht hT2 hr Y
      refine ⟨J3, L2, pst st h (vBit k), fun D hD => ?_, Y3, pst_e, fun i hi => pst_n (by omega), fm_t ⟨O1, oL_r⟩ (fm_t (fm_5 O2) F3)⟩
      obtain ⟨E, rfl⟩ : ∃ E, D = E + 2 + 1 := ⟨D - 3, by omega⟩
      have a2 := A2 (E + 1)
      have a3 := A3 (E + 2) (by omega)
      simp only [en62, e62_0, e62_1, e62_4, e62_5, e62_6, e62_7, e62_10, e62_11, e62_14, e62_17, e62_19, e62_22, e62_23, e62_24, e62_25, e62_28, e62_28r, e62_29, e62_32, e62_33, e62_34, e62_37, e62_38, e62_41, e62_42, e62_45, e62_46, e62_49, e62_50, rk_n, rk_v, nl_n, nl_i, nl_r, cat_n, ip_cat_int, ip_cat_ref, ip_cat_long, ip_rf_some, Nat.reduceAdd, Nat.reduceLeDiff, Nat.reduceLT, Nat.le_refl, Nat.zero_le, hR, rT, hT, C, nk, x5, g4, e1, hJ1, a2, a3, true_or, or_true, Bool.false_eq_true, Bool.true_eq_false, if_true, if_false, not_true_eq_false, not_false_eq_true, zle, eq_self]
    · rw [if_neg g] at ho
      have ho := Option.some.inj ho
      subst ho
      have g4 : (Int32.ofNat nm < 40) = False := eq_false (fun e => g ((nu_lt (s := 40) (by omega) (by omega)).mp e))
      refine ⟨J, L, fun D hD => ?_, x1, fm_r⟩
      obtain ⟨E, rfl⟩ : ∃ E, D = E + 2 + 1 := ⟨D - 3, by omega⟩
      simp only [en62, e62_0, e62_1, e62_4, e62_5, e62_6, e62_7, e62_10, e62_11, e62_14, e62_17, e62_19, e62_22, e62_23, e62_24, e62_25, e62_28, e62_28r, e62_29, e62_32, e62_33, e62_34, e62_37, e62_38, e62_41, e62_42, e62_45, e62_46, e62_49, e62_50, rk_n, rk_v, nl_n, nl_i, nl_r, cat_n, ip_cat_int, ip_cat_ref, ip_cat_long, ip_rf_some, Nat.reduceAdd, Nat.reduceLeDiff, Nat.reduceLT, Nat.le_refl, Nat.zero_le, hR, rT, hT, C, nk, x5, g4, true_or, or_true, Bool.false_eq_true, Bool.true_eq_false, if_true, if_false, not_true_eq_false, not_false_eq_true, zle, eq_self]
end CC
