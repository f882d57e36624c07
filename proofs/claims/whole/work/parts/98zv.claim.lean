/-! READ: a line that tells the claim -/
def csp (B : Nat → Int32) (t : Nat) (f : Nat → List Nat) (c g p : Nat) : SPr := bnd (sp B t f c g 0 0 (nxT B t p) 0 [] (fun _ => 0) 0) (fun p1 nm1 cs1 v1 => if kdT B t p1 = 59 then some (.inr (nxT B t p1, nm1, cs1, v1, 0)) else some (.inl p1))
section CM
variable {n d b c k t p T h nm g a b0 : Nat} {B : Nat → Int32} {f : Nat → List Nat} {sd rs br : Nat → Nat} {cl : Bool} {J K J' : Nat → Nat → Int32} {L L' : Nat → Nat → Int64} {R : Nat → Nat → Option Nat} {nc ns : Nat} {nx : Bool} {x y : Int32} {st : Nat → Nat → Nat} {v : Nat → Nat} {cs : List CD}
theorem c71 (hR : LYR R) (hT2 : T = 9 ∨ T = 16) (h5 : J 5 2 = Int32.ofNat 1) : ∃ L', (∀ d, cf d 71 [.ref 5, .ref (T + 6)] (SH n, J, L, R, nc, ns, nx) = some (.inl none, (SH n, J, L', R, nc, ns, true))) ∧ (∀ a k, ¬ a = T + 6 → L' a k = L a k) ∧ (∀ w, w < 4 → L' (T + 6) w = L 6 w) := by
  refine ⟨ip_row L (T + 6) (va_cpy (L 6) (L (T + 6)) 0 0 4), fun d => ?_, fun a k h => row_a h, fun w hw => ?_⟩
  · have h5 : J 5 2 = 1 := h5
    have z1 : (1 : Int32) - 1 = 0 := by decide
    have z2 : (0 : Int32) * 4 = 0 := by decide
    rcases hT2 with rfl | rfl
    · have e8 := fun ls s => e71_8 (d := d) (n := n) (I := J) (L := L) (R := R) (nc := nc) (ns := ns) (nx := nx) (ls := ls) (s := s) (a := 9 + 6) ⟨Or.inr rfl, by decide⟩
      have e28 := fun ls s (hc : ip_cat s ≤ 8) => e71_28l (d := d) (n := n) (I := J) (L := L) (R := R) (nc := nc) (ns := ns) (nx := nx) (ls := ls) (s := s) (a := 9 + 6) (b := 6) (z := 4) (sp := 0) (dp := 0) hc ⟨rfl, by decide⟩ ⟨rfl, by decide⟩ ⟨by decide, by decide, by decide, (show (0 : Int32).toNatClampNeg + (4 : Int32).toNatClampNeg ≤ 160 by decide), (show (0 : Int32).toNatClampNeg + (4 : Int32).toNatClampNeg ≤ 4 by decide)⟩
      have l4 : ln (SH n) (9 + 6) = 4 := rfl
      have t4 : (4 : Int32).toNatClampNeg = 4 := by decide
      simp only [en71, e71_0, e71_1, e71_4, e71_7, e8, e71_9, e71_10, e71_13, e71_14, e71_17, e71_18, e71_21, e71_22, e71_23, e71_24, e71_25, e71_26, e71_27, e28, e71_31, rk_n, rk_v, nl_n, nl_i, nl_r, cat_n, ip_cat_int, ip_cat_ref, ip_cat_long, ip_rf_some, Nat.reduceAdd, Nat.reduceLeDiff, Nat.reduceLT, Nat.le_refl, Nat.zero_le, hR, h5, l4, z1, z2, tnL, t4, (by decide : ¬ (1 : Int32) ≤ 0), (by decide : ¬ Int32.ofNat 4 < 4), Bool.false_eq_true, Bool.true_eq_false, if_true, if_false, not_true_eq_false, not_false_eq_true, zle, eq_self]
    · have e8 := fun ls s => e71_8 (d := d) (n := n) (I := J) (L := L) (R := R) (nc := nc) (ns := ns) (nx := nx) (ls := ls) (s := s) (a := 16 + 6) ⟨Or.inr rfl, by decide⟩
      have e28 := fun ls s (hc : ip_cat s ≤ 8) => e71_28l (d := d) (n := n) (I := J) (L := L) (R := R) (nc := nc) (ns := ns) (nx := nx) (ls := ls) (s := s) (a := 16 + 6) (b := 6) (z := 4) (sp := 0) (dp := 0) hc ⟨rfl, by decide⟩ ⟨rfl, by decide⟩ ⟨by decide, by decide, by decide, (show (0 : Int32).toNatClampNeg + (4 : Int32).toNatClampNeg ≤ 160 by decide), (show (0 : Int32).toNatClampNeg + (4 : Int32).toNatClampNeg ≤ 4 by decide)⟩
      have l4 : ln (SH n) (16 + 6) = 4 := rfl
      have t4 : (4 : Int32).toNatClampNeg = 4 := by decide
      simp only [en71, e71_0, e71_1, e71_4, e71_7, e8, e71_9, e71_10, e71_13, e71_14, e71_17, e71_18, e71_21, e71_22, e71_23, e71_24, e71_25, e71_26, e71_27, e28, e71_31, rk_n, rk_v, nl_n, nl_i, nl_r, cat_n, ip_cat_int, ip_cat_ref, ip_cat_long, ip_rf_some, Nat.reduceAdd, Nat.reduceLeDiff, Nat.reduceLT, Nat.le_refl, Nat.zero_le, hR, h5, l4, z1, z2, tnL, t4, (by decide : ¬ (1 : Int32) ≤ 0), (by decide : ¬ Int32.ofNat 4 < 4), Bool.false_eq_true, Bool.true_eq_false, if_true, if_false, not_true_eq_false, not_false_eq_true, zle, eq_self]
  · rw [row_eq]
    unfold va_cpy
    rw [if_pos (by omega)]
    congr 1
    omega
theorem ci_claim (hR : LYR R) (ht : t ≤ 400) (hT2 : T = 9 ∨ T = 16) (hT : isT T) (hr : R 4 1 = some 3) (rT : R 4 2 = some T) (hc8 : c ≤ 8) (X : CSX B t T c f sd rs br false nm v p J L) (o : Nat ⊕ SRs) (e : csp B t f c g p = some o) :
    match o with
    | .inl q => ∃ J' L', (∀ D, 40 ≤ D → cf D 56 [.ref 4] (SH n, J, L, R, nc, ns, nx) = some (.inl (some (.int 0)), (SH n, J', L', R, nc, ns, nx))) ∧ RC B t q J' ∧ onlyP (scX T) J J' ∧ (∀ a k, ¬ a = 6 → ¬ a = 7 → ¬ a = T + 6 → L' a k = L a k)
    | .inr z => ∃ J' L', (∀ D, 40 ≤ D → cf D 56 [.ref 4] (SH n, J, L, R, nc, ns, nx) = some (.inl (some (.int 1)), (SH n, J', L', R, nc, ns, true))) ∧ CSX B t T c f sd rs br true z.2.1 z.2.2.2.1 z.1 J' L' ∧ onlyP (scX T) J J' ∧ (∀ a k, ¬ a = 6 → ¬ a = 7 → ¬ a = T + 6 → L' a k = L a k) := by
  obtain ⟨h, st, X0, T0⟩ := X
  obtain ⟨n0, h0⟩ := T0.2.2.2.2.2.2.2.1 rfl
  subst n0; subst h0
  have n10 : ¬ (1 : Int32) = 0 := by decide
  obtain ⟨J1, A1, X1, F1⟩ := advc (n := n) (nc := nc) (ns := ns) (nx := nx) ht hT2 hr X0
  have SIM := (cl_sim (B := B) (f := f) (n := n) (nc := nc) (ns := ns) (nx := nx) hR ht hT2 hT hr rT hc8 g).1
  unfold csp at e
  rcases bnd_c e with ⟨q, e1, e2⟩ | ⟨p1, nm1', cs1, v1, j1, e1, e2⟩
  · subst e2
    obtain ⟨J2, L2, A2, X2, F2⟩ := SIM 0 _ 0 _ _ _ 0 st J1 L _ (by omega) X1 e1
    refine ⟨J2, L2, fun D hD => ?_, X2, onlyP_tr (fm_x hT2 F1) (fm_x hT2 F2), fun a k h1 h2 _ => F2.2 a k h1 h2⟩
    obtain ⟨E, rfl⟩ : ∃ E, D = E + 1 := ⟨D - 1, by omega⟩
    have a1 := A1 E (by omega)
    have a2 : cf E 57 [.ref 4, .int 0] (SH n, J1, L, R, nc, ns, nx) = _ := A2 E (by omega)
    simp only [en56, e56_0, e56_1, e56_4, e56_5, e56_6, e56_9, e56_12, e56_13, e56_15, e56_18, e56_21, e56_22, e56_23, e56_24, e56_27, e56_28, e56_31, e56_32, e56_35, e56_36, e56_39, e56_42, e56_45, e56_46, rk_n, rk_v, nl_n, nl_i, nl_r, cat_n, ip_cat_int, ip_cat_ref, ip_cat_long, ip_rf_some, Nat.reduceAdd, Nat.reduceLeDiff, Nat.reduceLT, Nat.le_refl, Nat.zero_le, a1, a2, true_or, or_true, Bool.false_eq_true, Bool.true_eq_false, if_true, if_false, not_true_eq_false, not_false_eq_true, zle, eq_self]
  · obtain ⟨J2, L2, st2, A2, X2, V2, S2, F2⟩ := SIM 0 _ 0 _ _ _ 0 st J1 L _ (by omega) X1 e1
    dsimp only at X2 V2
    split at e2
    · rename_i h59
      have e2 := Option.some.inj e2
      subst e2
      obtain ⟨J3, A3, X3, F3⟩ := passc (n := n) (nc := nc) (ns := ns) (nx := nx) (k := 59) ht hT2 hr X2 (by omega) h59
      generalize hJ4 : ip_up J3 T 8 1 = J4
      have O4 : onlyP (fun a k => a = T ∧ k = 8) J3 J4 := by rw [← hJ4]; exact onlyP_up onlyP_refl ⟨rfl, rfl⟩
      have X4 := CLs_on hT2 X3 O4 (fun a k e => by omega)
      obtain ⟨L5, A5, O5, P5⟩ := c71 (n := n) (L := L2) (nc := nc) (ns := ns) (nx := nx) hR hT2 X4.2.2.2.2.2.2.2.1.1
      have G : ∀ a k, T ≤ a → a ≤ T + 5 → ¬ (a = T ∧ k = 7) → ¬ (a = T ∧ k = 8) → J4 a k = J a k := fun a k h1 h2 h3 h4 => by
        rw [O4 a k (by omega), F3.1 a k (by unfold scT; omega), F2.1 a k (by unfold scT; omega), F1.1 a k (by unfold scT; omega)]
      refine ⟨J4, L5, fun D hD => ?_, ⟨0 + 1, st2, ?_, ?_⟩, onlyP_tr (fm_x hT2 F1) (onlyP_tr (fm_x hT2 F2) (onlyP_tr (fm_x hT2 F3) (onlyP_mono O4 (fun a k e => by unfold scX; omega)))), fun a k h1 h2 h3 => by rw [O5 a k h3]; exact F2.2 a k h1 h2⟩
      · obtain ⟨E, rfl⟩ : ∃ E, D = E + 1 := ⟨D - 1, by omega⟩
        have a1 := A1 E (by omega)
        have a2 : cf E 57 [.ref 4, .int 0] (SH n, J1, L, R, nc, ns, nx) = _ := A2 E (by omega)
        have a3 : cf E 53 [.ref 4, .int 59] (SH n, J2, L2, R, nc, ns, nx) = _ := A3 E (by omega)
        have a5 := A5 E
        simp only [en56, e56_0, e56_1, e56_4, e56_5, e56_6, e56_9, e56_12, e56_13, e56_15, e56_18, e56_21, e56_22, e56_23, e56_24, e56_27, e56_28, e56_31, e56_32, e56_35, e56_36, e56_39, e56_42, e56_45, e56_46, rk_n, rk_v, nl_n, nl_i, nl_r, cat_n, ip_cat_int, ip_cat_ref, ip_cat_long, ip_rf_some, Nat.reduceAdd, Nat.reduceLeDiff, Nat.reduceLT, Nat.le_refl, Nat.zero_le, hR, a1, a2, a3, rT, hT, hJ4, a5, n10, true_or, or_true, Bool.false_eq_true, Bool.true_eq_false, if_true, if_false, not_true_eq_false, not_false_eq_true, zle, eq_self]
      · obtain ⟨x1, x2, x3, x4, x5, x6, x7, x8, x9, x10⟩ := X4
        exact ⟨x1, x2, x3, x4, x5, x6, x7, ⟨x8.1, fun i hi s hs => by rw [O5 6 _ (by omega)]; exact x8.2 i hi s hs⟩, x9, fun k hk => by rw [O5 1 k (by omega)]; exact x10 k hk⟩
      · obtain ⟨t1, t2, t3, t4, t5, t6, t7, t8, t9⟩ := T0
        refine ⟨fun k k1 k2 i hi => ?_, t2, fun k hk => ?_, fun k hk => ?_, fun k hk => ?_, fun i hi => ?_, ?_, fun e => by (cases e), fun _ s hs => ?_⟩
        · rw [G (T + 1) _ (by omega) (by omega) (by omega) (by omega)]; exact t1 k k1 k2 i hi
        · rw [G (T + 2) _ (by omega) (by omega) (by omega) (by omega)]; exact t3 k hk
        · rw [G (T + 3) _ (by omega) (by omega) (by omega) (by omega)]; exact t4 k hk
        · rw [G (T + 4) _ (by omega) (by omega) (by omega) (by omega)]; exact t5 k hk
        · rw [G (T + 5) _ (by omega) (by omega) (by omega) (by omega)]; exact t6 i hi
        · rw [← hJ4, up_eq]; rfl
        · unfold winL
          have q := X4.2.2.2.2.2.2.2.1.2 0 (by omega) s hs
          rw [P5 (s / 64) (by omega)]
          rw [show 4 * 0 + s / 64 = s / 64 by omega, V2] at q
          exact q
    · rename_i h59
      have e2 := Option.some.inj e2
      subst e2
      have A3 := passn (n := n) (L := L2) (R := R) (nc := nc) (ns := ns) (nx := nx) (k := 59) X2.1 (by omega) h59
      refine ⟨J2, L2, fun D hD => ?_, X2.1, onlyP_tr (fm_x hT2 F1) (fm_x hT2 F2), fun a k h1 h2 _ => F2.2 a k h1 h2⟩
      obtain ⟨E, rfl⟩ : ∃ E, D = E + 1 := ⟨D - 1, by omega⟩
      have a1 := A1 E (by omega)
      have a2 : cf E 57 [.ref 4, .int 0] (SH n, J1, L, R, nc, ns, nx) = _ := A2 E (by omega)
      have a3 : cf E 53 [.ref 4, .int 59] (SH n, J2, L2, R, nc, ns, nx) = _ := A3 E
      simp only [en56, e56_0, e56_1, e56_4, e56_5, e56_6, e56_9, e56_12, e56_13, e56_15, e56_18, e56_21, e56_22, e56_23, e56_24, e56_27, e56_28, e56_31, e56_32, e56_35, e56_36, e56_39, e56_42, e56_45, e56_46, rk_n, rk_v, nl_n, nl_i, nl_r, cat_n, ip_cat_int, ip_cat_ref, ip_cat_long, ip_rf_some, Nat.reduceAdd, Nat.reduceLeDiff, Nat.reduceLT, Nat.le_refl, Nat.zero_le, a1, a2, a3, n10, true_or, or_true, Bool.false_eq_true, Bool.true_eq_false, if_true, if_false, not_true_eq_false, not_false_eq_true, zle, eq_self]
/-! the model -/
theorem mi_claim (hR : LYR R) (ht : t ≤ 400) (hB : ∀ i, i < t → ¬ B i = -1) (hc8 : c ≤ 8) (Y : MSX B t c f sd rs br false nm cs p K L) (ss : skT B t p = p) (hk : kdT B t p = 8) (o : Nat ⊕ SRs) (e : csp B t f c g p = some o) (hq : ∀ q, o = .inl q → q ≤ 400) :
    match o with
    | .inl q => ∃ K1 K2, (∀ D, 12 ≤ D → cf D 206 [.ref 265] (SH n, K, L, R, nc, ns, nx) = some (.inl none, (SH n, K1, L, R, nc, ns, nx)) ∧ cf D 213 [.ref 265, .int 59] (SH n, K1, L, R, nc, ns, nx) = some (.inl none, (SH n, K2, L, R, nc, ns, nx))) ∧ K2 265 5 = Int32.ofNat q ∧ onlyP scL K K2
    | .inr z => ∃ K1 K2 a', (∀ D, 12 ≤ D → cf D 206 [.ref 265] (SH n, K, L, R, nc, ns, nx) = some (.inl none, (SH n, K1, L, R, nc, ns, nx)) ∧ cf D 213 [.ref 265, .int 59] (SH n, K1, L, R, nc, ns, nx) = some (.inl none, (SH n, K2, L, R, nc, ns, nx))) ∧ MSX B t c f sd rs br true z.2.1 z.2.2.1 a' K2 L ∧ skT B t a' = z.1 ∧ onlyP scL K K2 := by
  obtain ⟨y1, y2, y3, y4, y5, y6, y7, y8, y9, y10, y11, y12⟩ := Y
  obtain ⟨n0, c0⟩ := y12 rfl
  subst n0; subst c0
  obtain ⟨q1, pt, q3⟩ := kd_en (j := 8) (by omega) hk
  have q1 : enT B t p = p + 5 := q1
  have e5 : Int32.ofNat p + 5 = Int32.ofNat (enT B t p) := by rw [q1]; exact nu_add (s := 5)
  have N1 := nxT_le (B := B) (t := t) (p := p) (by omega)
  have y9 : K 265 7 = 0 := y9
  have GJ : ∃ K0, K0 = ip_up (ip_up (ip_up (ip_up (ip_up (ip_up (ip_up (ip_up (ip_up (ip_up (ip_up K 265 7 1) 265 4 (Int32.ofNat (enT B t p))) 265 33 (-1)) 265 34 0) 265 33 0) 281 0 0) 282 0 0) 283 0 1) 284 0 0) 285 0 0) 286 0 0 := ⟨_, rfl⟩
  obtain ⟨K0, hK0⟩ := GJ
  have O0 : onlyP (fun a k => (a = 265 ∧ (k = 4 ∨ k = 7 ∨ k = 33 ∨ k = 34)) ∨ (281 ≤ a ∧ a ≤ 286)) K K0 := by rw [hK0]; exact onlyP_up (onlyP_up (onlyP_up (onlyP_up (onlyP_up (onlyP_up (onlyP_up (onlyP_up (onlyP_up (onlyP_up (onlyP_up onlyP_refl (by omega)) (by omega)) (by omega)) (by omega)) (by omega)) (by omega)) (by omega)) (by omega)) (by omega)) (by omega)) (by omega)
  have k47 : K0 265 7 = 1 := by rw [hK0, up_a (by decide), up_a (by decide), up_a (by decide), up_a (by decide), up_a (by decide), up_a (by decide), up_k (by decide), up_k (by decide), up_k (by decide), up_k (by decide), up_eq]
  have X0 : MS B t c (enT B t p) 0 [] 0 0 false false 0 K0 := by
    refine ⟨⟨?_, ?_, fun i hi => ?_⟩, q3, ?_, ?_, ⟨?_, by omega⟩, ⟨?_, fun i hi => absurd hi (by simp)⟩, ⟨?_, by omega⟩, ?_, ?_, ?_, ?_⟩
    · rw [O0 265 3 (by omega)]; exact y1.1
    · rw [hK0, up_a (by decide), up_a (by decide), up_a (by decide), up_a (by decide), up_a (by decide), up_a (by decide), up_k (by decide), up_k (by decide), up_k (by decide), up_eq]
    · rw [O0 266 i (by omega)]; exact y1.2.2 i hi
    · rw [O0 265 5 (by omega)]; exact y3
    · rw [O0 265 6 (by omega)]; exact y4
    · rw [O0 265 8 (by omega)]; exact y10.1
    · rw [O0 265 9 (by omega)]; exact y11.1
    · rw [hK0, up_a (by decide), up_a (by decide), up_a (by decide), up_a (by decide), up_a (by decide), up_a (by decide), up_eq]; rfl
    · rw [hK0, up_a (by decide), up_a (by decide), up_a (by decide), up_a (by decide), up_a (by decide), up_a (by decide), up_k (by decide), up_eq]; rfl
    · rw [hK0, up_a (by decide), up_a (by decide), up_eq]; rfl
    · rw [hK0, up_a (by decide), up_eq]; rfl
    · rw [hK0, up_eq]; rfl
  have k81 : K0 281 0 = 0 := by rw [hK0, up_a (by decide), up_a (by decide), up_a (by decide), up_a (by decide), up_a (by decide), up_eq]
  have HD : ∀ D, 12 ≤ D → cf D 206 [.ref 265] (SH n, K, L, R, nc, ns, nx) = rf D 206 53 [some (.ref 265), some (.int 1), none] [] (SH n, K0, L, R, nc, ns, nx) := by
    intro D hD
    obtain ⟨E, rfl⟩ : ∃ E, D = E + 1 := ⟨D - 1, by omega⟩
    have z1 : (-1 : Int32) + 1 = 0 := by decide
    have A7 : ∀ J, J 265 33 = -1 → cf E 207 [.ref 265, .int 0, .int 0] (SH n, J, L, R, nc, ns, nx) = some (.inl none, (SH n, ip_up (ip_up (ip_up (ip_up (ip_up (ip_up (ip_up J 265 33 0) 281 0 0) 282 0 0) 283 0 1) 284 0 0) 285 0 0) 286 0 0, L, R, nc, ns, nx)) := by
      intro J hJ
      simp only [en207, e207_0, e207_1, e207_1r, e207_2, e207_5, e207_6, e207_7, e207_10, e207_11, e207_14, e207_15, e207_18, e207_19, e207_20, e207_21, e207_24, e207_25, e207_28, e207_29, e207_30, e207_31, e207_34, e207_35, e207_38, e207_39, e207_40, e207_41, e207_44, e207_45, e207_48, e207_49, e207_50, e207_51, e207_54, e207_55, e207_58, e207_59, e207_60, e207_61, e207_64, e207_65, e207_68, e207_69, e207_70, rk_n, rk_v, nl_n, nl_i, nl_r, cat_n, ip_cat_int, ip_cat_ref, ip_cat_long, ip_rf_some, Nat.reduceAdd, Nat.reduceLeDiff, Nat.reduceLT, Nat.le_refl, Nat.zero_le, hR, hJ, z1, ia_lit, inbL, tnL, up_eq, up_a, Nat.reduceEqDiff, true_or, or_true, Bool.false_eq_true, Bool.true_eq_false, if_true, if_false, not_true_eq_false, not_false_eq_true, zle, eq_self]
    have r4 : ip_up K 265 7 1 265 4 = Int32.ofNat p := (up_k (by decide)).trans y1.2.1
    rw [hK0]
    have A8 := A7 (ip_up (ip_up (ip_up (ip_up K 265 7 1) 265 4 (Int32.ofNat (enT B t p))) 265 33 (-1)) 265 34 0) (by rw [up_k (by decide), up_eq])
    simp only [en206, e206_0, e206_1, e206_4, e206_7, e206_11, e206_12, e206_15, e206_16, e206_20, e206_21, e206_22, e206_25, e206_26, e206_26r, e206_27, e206_30, e206_31, e206_32, e206_35, e206_36, e206_37, e206_40, e206_41, e206_42, e206_45, e206_46, e206_47, e206_48, e206_51, e206_52, rk_n, rk_v, nl_n, nl_i, nl_r, cat_n, ip_cat_int, ip_cat_ref, ip_cat_long, ip_rf_some, Nat.reduceAdd, Nat.reduceLeDiff, Nat.reduceLT, Nat.le_refl, Nat.zero_le, y9, y3, r4, e5, A8, true_or, or_true, Bool.false_eq_true, Bool.true_eq_false, if_true, if_false, not_true_eq_false, not_false_eq_true, zle, eq_self]
  have OS : ∀ {K'}, onlyP scK K0 K' → onlyP scL K K' := fun O => onlyP_tr (onlyP_mono O0 (fun a k e => by unfold scL; omega)) (onlyP_mono O (fun a k e => by unfold scK at e; unfold scL; omega))
  have SIM := (ml_sim (B := B) (f := f) (n := n) (nc := nc) (ns := ns) (nx := nx) hR ht hB hc8 y5 g).1
  unfold csp at e
  rcases bnd_c e with ⟨q, e1, e2⟩ | ⟨p1, nm1', cs1, v1, j1, e1, e2⟩
  · have hq2 := hq q e2
    subst e2
    obtain ⟨K1, A1, x5, O1⟩ := SIM 0 _ 0 _ _ _ (enT B t p) [] 0 K0 _ none (by omega) (by omega) X0 rfl (by simp) e1
    exact ⟨K1, K1, fun D hD => ⟨(HD D hD).trans (A1 D (by omega)), c213f (by rw [x5]; exact nm1 hq2)⟩, x5, OS O1⟩
  · obtain ⟨K1, a1, l1, A1, CSf, ω', X1, s1, hC, k9, k10, S1⟩ := SIM 0 _ 0 _ _ _ (enT B t p) [] 0 K0 _ none (by omega) (by omega) X0 rfl (by simp) e1
    have ok := sp_ok (B := B) (f := f) ht hc8 g _ _ _ _ _ _ _ _ (by omega) N1.2.1 (by omega) (by omega) e1
    obtain ⟨o1, o2, o3, o4, o5, o6⟩ := ok
    rw [if_neg (by omega), if_neg (by omega)] at o6
    have o61 := o6.1
    dsimp only at X1 s1 k9 k10 hC o1 o2 o61
    have lC : CSf.length + (orl ω').length = cs1.length := by rw [← List.length_append, hC]; rfl
    obtain ⟨K2, A2, X2, S2⟩ := h_end (n := n) (L := L) (nc := nc) (ns := ns) (nx := nx) (l2 := l1) hR ht hB X1 s1 k9 k10 (by omega) ((S1.2.2 281 (by omega) (by omega)).trans k81)
    rw [hC, List.nil_append] at X2
    have ss1 : skT B t p1 = p1 := by have := skT_sk (B := B) X1.2.1; rw [s1] at this; exact this
    have S12 := SM_t S1 S2
    have W : ∀ D, 12 ≤ D → cf D 206 [.ref 265] (SH n, K, L, R, nc, ns, nx) = some (.inl none, (SH n, K2, L, R, nc, ns, nx)) := fun D hD => ((HD D hD).trans (A1 D (by omega))).trans (A2 D (by omega))
    split at e2
    · rename_i h59
      have e2 := Option.some.inj e2
      subst e2
      have Mu := fun d => c213 (d := d) (n := n) (L := L) (nc := nc) (ns := ns) (nx := nx) (s := 59) (p := p1) (by omega) hR ht X2.1 X2.2.1 ss1 X2.2.2.1 h59
      have en1 := (enT_le (B := B) (t := t) (p := p1) (by omega)).2.1
      obtain ⟨X3, -⟩ := m_at (a' := enT B t p1) X2 en1
      have G : ∀ a k, ¬ scK a k → ¬ ((a = 265 ∧ (k = 4 ∨ k = 7 ∨ k = 33 ∨ k = 34)) ∨ (281 ≤ a ∧ a ≤ 286)) → atM K2 (enT B t p1) a k = K a k := fun a k h1 h2 => by
        unfold atM
        by_cases z : a = 265
        · subst z; rw [up_k (by omega), S12.1 _ _ h1]; exact O0 _ _ h2
        · rw [up_a z, S12.1 _ _ h1]; exact O0 _ _ h2
      refine ⟨K2, atM K2 (enT B t p1), enT B t p1, fun D hD => ⟨W D hD, ?_⟩, ⟨X3.1, X3.2.1, X3.2.2.1, X3.2.2.2.1, y5, fun k hk => ?_, fun k hk => ?_, fun i hi => ?_, ?_, X3.2.2.2.2.1, X3.2.2.2.2.2.1, fun e => by (cases e)⟩, rfl, onlyP_up (OS S12.1) (by unfold scL; omega)⟩
      · obtain ⟨E, rfl⟩ : ∃ E, D = E + 1 := ⟨D - 1, by omega⟩
        exact Mu E
      · rw [G 268 k (by unfold scK; omega) (by omega)]; exact y6 k hk
      · rw [G 269 k (by unfold scK; omega) (by omega)]; exact y7 k hk
      · rw [G 270 i (by unfold scK; omega) (by omega)]; exact y8 i hi
      · unfold atM; rw [up_k (by decide), S12.1 265 7 (by unfold scK; omega)]; exact k47
    · rename_i h59
      have e2 := Option.some.inj e2
      subst e2
      have Mu := fun d => c213n (d := d) (n := n) (L := L) (nc := nc) (ns := ns) (nx := nx) (s := 59) (p := p1) (by omega) hR ht X2.1 X2.2.1 ss1 X2.2.2.1 h59
      refine ⟨K2, wrM K2 p1, fun D hD => ⟨W D hD, ?_⟩, by unfold wrM; rw [up_eq], by unfold wrM; exact onlyP_up (onlyP_up (OS S12.1) (by unfold scL; omega)) (by unfold scL; omega)⟩
      obtain ⟨E, rfl⟩ : ∃ E, D = E + 1 := ⟨D - 1, by omega⟩
      exact Mu E
end CM
