/-! READ: what an issue rests on -/
def rsp (B : Nat → Int32) (t : Nat) (f : Nat → List Nat) (c : Nat) : Nat → Nat → Nat → Option (Nat ⊕ (Nat × Nat))
  | 0, _, _ => none
  | g + 1, p, r => if kdT B t (nxT B t p) = 13 then (match ffs (fun k => decide (f k = wl B t (nxT B t p))) c 0 with
      | some j => if r.testBit j = true then some (.inl (nxT B t p)) else (if kdT B t (nxT B t (nxT B t p)) = 44 then rsp B t f c g (nxT B t (nxT B t p)) (r ||| 2 ^ j) else some (.inr (nxT B t (nxT B t p), r ||| 2 ^ j)))
      | none => some (.inl (nxT B t p))) else some (.inl (nxT B t p))
theorem cn_set {r j : Nat} (hj : r.testBit j = false) : ∀ c, cn (fun i => (r ||| 2 ^ j).testBit i) c = cn (fun i => r.testBit i) c + (if j < c then 1 else 0) := by
  intro c
  induction c with
  | zero => rfl
  | succ c ih =>
    rw [cn, cn, ih, Nat.testBit_or, Nat.testBit_two_pow]
    by_cases e : j = c
    · subst e
      have e1 : (if j < j then 1 else 0) = 0 := if_neg (by omega)
      have e2 : (if j < j + 1 then 1 else 0) = 1 := if_pos (by omega)
      rw [hj, decide_eq_true rfl, e1, e2]
      rfl
    · rw [decide_eq_false e, Bool.or_false]
      by_cases q : j < c
      · have e1 : (if j < c then 1 else 0) = 1 := if_pos q
        have e2 : (if j < c + 1 then 1 else 0) = 1 := if_pos (by omega)
        rw [e1, e2]; omega
      · have e1 : (if j < c then 1 else 0) = 0 := if_neg q
        have e2 : (if j < c + 1 then 1 else 0) = 0 := if_neg (by omega)
        rw [e1, e2]; omega
section RS
variable {n d b c k t p T h nm r : Nat} {B : Nat → Int32} {f : Nat → List Nat} {J K J' : Nat → Nat → Int32} {L L' : Nat → Nat → Int64} {R : Nat → Nat → Option Nat} {nc ns : Nat} {nx : Bool} {x y : Int32} {st : Nat → Nat → Nat} {v : Nat → Nat}
theorem rsp_ok (hc : c ≤ 8) : ∀ g p r p' r', p < t → r < 2 ^ c → rsp B t f c g p r = some (.inr (p', r')) → p < p' ∧ p' ≤ t ∧ r' < 2 ^ c := by
  intro g
  induction g with
  | zero => intro p r p' r' _ _ e; cases e
  | succ g ih =>
    intro p r p' r' hp hr e
    have N1 := nxT_le (B := B) (t := t) (p := p) (by omega)
    have N2 := nxT_le (B := B) (t := t) (p := nxT B t p) N1.2.1
    have N13 := N1.2.2 hp
    rw [rsp] at e
    split at e
    · rcases ffs_case (fun k => decide (f k = wl B t (nxT B t p))) c 0 with ⟨a, -⟩ | ⟨j, a1, a2, a3, -⟩
      · rw [a] at e; cases e
      · rw [a1] at e
        dsimp only at e
        have r2 : r ||| 2 ^ j < 2 ^ c := Nat.or_lt_two_pow hr (Nat.pow_lt_pow_right (by omega) (by omega))
        split at e
        · cases e
        · split at e
          · rename_i hk
            have lt := (kd_sn (s := 44) (by omega) hk).2
            obtain ⟨b1, b2, b3⟩ := ih _ _ _ _ lt r2 e
            exact ⟨by omega, b2, b3⟩
          · have e := Sum.inr.inj (Option.some.inj e)
            have e1 := congrArg Prod.fst e
            have e2 := congrArg Prod.snd e
            dsimp only at e1 e2
            subst e1; subst e2
            exact ⟨by omega, N2.2.1, r2⟩
    · cases e
theorem rsp_tot (hc : c ≤ 8) : ∀ g p r, p < t → t - p < g → ∃ o, rsp B t f c g p r = some o := by
  intro g
  induction g with
  | zero => intro p r _ h; omega
  | succ g ih =>
    intro p r hp h
    have N1 := nxT_le (B := B) (t := t) (p := p) (by omega)
    have N2 := nxT_le (B := B) (t := t) (p := nxT B t p) N1.2.1
    have N13 := N1.2.2 hp
    rw [rsp]
    split
    · split
      · split
        · exact ⟨_, rfl⟩
        · split
          · rename_i hk
            have lt := (kd_sn (s := 44) (by omega) hk).2
            exact ih _ _ lt (by omega)
          · exact ⟨_, rfl⟩
      · exact ⟨_, rfl⟩
    · exact ⟨_, rfl⟩
/-- the class -/
theorem t52 (hR : LYR R) (ht : t ≤ 400) (hT2 : T = 9 ∨ T = 16) (hT : isT T) (hr : R 4 1 = some 3) (rT : R 4 2 = some T) (hc8 : c ≤ 8) : ∀ g p r k J o (l3 : Option Value), CLs B t T c f p nm h st J L → p < t → r < 2 ^ c → cn (fun i => r.testBit i) c = k → rsp B t f c g p r = some o →
    match o with
    | .inl q => ∃ J', (∀ D, 5 ≤ D → rf D 52 4 [some (.ref 4), some (.int (Int32.ofNat r)), some (.int (Int32.ofNat k)), l3] [] (SH n, J, L, R, nc, ns, nx) = some (.inl (some (.int (-1))), (SH n, J', L, R, nc, ns, nx))) ∧ RC B t q J' ∧ fmC T J J' L L
    | .inr z => ∃ J', (∀ D, 5 ≤ D → rf D 52 4 [some (.ref 4), some (.int (Int32.ofNat r)), some (.int (Int32.ofNat k)), l3] [] (SH n, J, L, R, nc, ns, nx) = some (.inl (some (.int (Int32.ofNat z.2))), (SH n, J', L, R, nc, ns, nx))) ∧ CLs B t T c f z.1 nm h st J' L ∧ fmC T J J' L L := by
  intro g
  induction g with
  | zero => intro p r k J o l3 _ _ _ _ e; cases e
  | succ g ih =>
    intro p r k J o l3 X pt hr2 hk e
    have kc : k ≤ c := by rw [← hk]; exact cn_le _ _
    have p2c : 2 ^ c ≤ 256 := p2le hc8
    have g8 : ((8 : Int32) < Int32.ofNat k) = False := eq_false (fun e => by have := (nu_lt (t := 8) (by omega) (by omega)).mp e; omega)
    obtain ⟨J1, A1, X1, F1⟩ := advc (n := n) (nc := nc) (ns := ns) (nx := nx) ht hT2 hr X
    have q6 := X1.1.2.2.2.1
    have K13 : (Int32.ofNat (kdT B t (nxT B t p)) = 13) = (kdT B t (nxT B t p) = 13) := kd_i (k := 13) (by omega)
    rw [rsp] at e
    split at e
    · rename_i h13
      have K13t := K13.trans (eq_true h13)
      have C := fun d => c48 (d := d) (n := n) (L := L) (nc := nc) (ns := ns) (nx := nx) hR ht hr rT hT X1.1 h13 hc8 X1.2.2.1 X1.2.2.2.1
      unfold fIx at C
      rcases ffs_case (fun k => decide (f k = wl B t (nxT B t p))) c 0 with ⟨a, -⟩ | ⟨j, a1, a2, a3, -⟩
      · rw [a] at e C
        have e := Option.some.inj e
        subst e
        refine ⟨J1, fun D hD => ?_, X1.1, F1⟩
        obtain ⟨E, rfl⟩ : ∃ E, D = E + 2 + 1 := ⟨D - 3, by omega⟩
        have a1 := A1 (E + 2) (by omega)
        rw [e52_4]
        simp only [e52_0, e52_1, e52_2, e52_3, e52_5, e52_7, e52_10, e52_11, e52_14, e52_15, e52_18, e52_20, e52_23, e52_24, e52_27, e52_30, e52_31, e52_32, e52_33, e52_34, e52_37, e52_38, e52_39, e52_40, e52_41, e52_42, e52_45, e52_46, e52_47, e52_48, e52_49, e52_50, e52_51, e52_52, e52_53, e52_54, e52_57, e52_58, e52_61, e52_63, e52_66, e52_67, e52_68, e52_71, e52_74, e52_75, rk_n, rk_v, nl_n, nl_i, nl_r, cat_n, ip_cat_int, ip_cat_ref, ip_cat_long, ip_rf_some, Nat.reduceAdd, Nat.reduceLeDiff, Nat.reduceLT, Nat.le_refl, Nat.zero_le, g8, a1, q6, K13t, C, Bool.false_eq_true, Bool.true_eq_false, if_true, if_false, not_true_eq_false, not_false_eq_true, zle, eq_self]
      · rw [a1] at e C
        dsimp only at e C
        have nj : (Int32.ofNat j = -1) = False := eq_false (fun e => nu_nn (t := j) (by omega) (by rw [e]; decide))
        have s1 := sh1 j (by omega)
        have b2 := bit_2 (s := r) (k := j) (by omega) (by omega)
        split at e
        · rename_i hb
          have e := Option.some.inj e
          subst e
          refine ⟨J1, fun D hD => ?_, X1.1, F1⟩
          obtain ⟨E, rfl⟩ : ∃ E, D = E + 2 + 1 := ⟨D - 3, by omega⟩
          have a1 := A1 (E + 2) (by omega)
          rw [e52_4]
          simp only [e52_0, e52_1, e52_2, e52_3, e52_5, e52_7, e52_10, e52_11, e52_14, e52_15, e52_18, e52_20, e52_23, e52_24, e52_27, e52_30, e52_31, e52_32, e52_33, e52_34, e52_37, e52_38, e52_39, e52_40, e52_41, e52_42, e52_45, e52_46, e52_47, e52_48, e52_49, e52_50, e52_51, e52_52, e52_53, e52_54, e52_57, e52_58, e52_61, e52_63, e52_66, e52_67, e52_68, e52_71, e52_74, e52_75, rk_n, rk_v, nl_n, nl_i, nl_r, cat_n, ip_cat_int, ip_cat_ref, ip_cat_long, ip_rf_some, Nat.reduceAdd, Nat.reduceLeDiff, Nat.reduceLT, Nat.le_refl, Nat.zero_le, g8, a1, q6, K13t, C, nj, s1, b2, hb, Bool.false_eq_true, Bool.true_eq_false, if_true, if_false, not_true_eq_false, not_false_eq_true, zle, eq_self]
        · rename_i hb
          have hb : r.testBit j = false := by
            cases z : r.testBit j with
            | false => rfl
            | true => exact absurd z hb
          obtain ⟨J2, A2, X2, F2⟩ := advc (n := n) (nc := nc) (ns := ns) (nx := nx) ht hT2 hr X1
          have q7 := X2.1.2.2.2.1
          have K44 : (Int32.ofNat (kdT B t (nxT B t (nxT B t p))) = 44) = (kdT B t (nxT B t (nxT B t p)) = 44) := kd_i (k := 44) (by omega)
          have r2 : r ||| 2 ^ j < 2 ^ c := Nat.or_lt_two_pow hr2 (Nat.pow_lt_pow_right (by omega) (by omega))
          have e1 : Int32.ofNat k + 1 = Int32.ofNat (k + 1) := nu_add (s := 1)
          split at e
          · rename_i h44
            have K44t := K44.trans (eq_true h44)
            have lt := (kd_sn (s := 44) (by omega) h44).2
            have kk : cn (fun i => (r ||| 2 ^ j).testBit i) c = k + 1 := by rw [cn_set hb, if_pos (by omega), hk]
            have Q := ih _ _ (k + 1) J2 o (some (.int (Int32.ofNat j))) X2 lt r2 kk e
            have W : ∀ D, 5 ≤ D → rf D 52 4 [some (.ref 4), some (.int (Int32.ofNat r)), some (.int (Int32.ofNat k)), l3] [] (SH n, J, L, R, nc, ns, nx) = rf D 52 4 [some (.ref 4), some (.int (Int32.ofNat (r ||| 2 ^ j))), some (.int (Int32.ofNat (k + 1))), some (.int (Int32.ofNat j))] [] (SH n, J2, L, R, nc, ns, nx) := by
              intro D hD
              obtain ⟨E, rfl⟩ : ∃ E, D = E + 2 + 1 := ⟨D - 3, by omega⟩
              have a1 := A1 (E + 2) (by omega)
              have a2 := A2 (E + 2) (by omega)
              rw [e52_4]
              simp only [e52_0, e52_1, e52_2, e52_3, e52_5, e52_7, e52_10, e52_11, e52_14, e52_15, e52_18, e52_20, e52_23, e52_24, e52_27, e52_30, e52_31, e52_32, e52_33, e52_34, e52_37, e52_38, e52_39, e52_40, e52_41, e52_42, e52_45, e52_46, e52_47, e52_48, e52_49, e52_50, e52_51, e52_52, e52_53, e52_54, e52_57, e52_58, e52_61, e52_63, e52_66, e52_67, e52_68, e52_71, e52_74, e52_75, rk_n, rk_v, nl_n, nl_i, nl_r, cat_n, ip_cat_int, ip_cat_ref, ip_cat_long, ip_rf_some, Nat.reduceAdd, Nat.reduceLeDiff, Nat.reduceLT, Nat.le_refl, Nat.zero_le, g8, a1, q6, K13t, C, nj, s1, b2, hb, of_or, a2, q7, K44t, e1, Bool.false_eq_true, Bool.true_eq_false, if_true, if_false, not_true_eq_false, not_false_eq_true, zle, eq_self]
            cases o with
            | inl q =>
              obtain ⟨J3, A3, X3, F3⟩ := Q
              exact ⟨J3, fun D hD => (W D hD).trans (A3 D hD), X3, fm_t F1 (fm_t F2 F3)⟩
            | inr z =>
              obtain ⟨J3, A3, X3, F3⟩ := Q
              exact ⟨J3, fun D hD => (W D hD).trans (A3 D hD), X3, fm_t F1 (fm_t F2 F3)⟩
          · rename_i h44
            have e := Option.some.inj e
            subst e
            refine ⟨J2, fun D hD => ?_, X2, fm_t F1 F2⟩
            obtain ⟨E, rfl⟩ : ∃ E, D = E + 2 + 1 := ⟨D - 3, by omega⟩
            have a1 := A1 (E + 2) (by omega)
            have a2 := A2 (E + 2) (by omega)
            rw [e52_4]
            simp only [e52_0, e52_1, e52_2, e52_3, e52_5, e52_7, e52_10, e52_11, e52_14, e52_15, e52_18, e52_20, e52_23, e52_24, e52_27, e52_30, e52_31, e52_32, e52_33, e52_34, e52_37, e52_38, e52_39, e52_40, e52_41, e52_42, e52_45, e52_46, e52_47, e52_48, e52_49, e52_50, e52_51, e52_52, e52_53, e52_54, e52_57, e52_58, e52_61, e52_63, e52_66, e52_67, e52_68, e52_71, e52_74, e52_75, rk_n, rk_v, nl_n, nl_i, nl_r, cat_n, ip_cat_int, ip_cat_ref, ip_cat_long, ip_rf_some, Nat.reduceAdd, Nat.reduceLeDiff, Nat.reduceLT, Nat.le_refl, Nat.zero_le, g8, a1, q6, K13t, C, nj, s1, b2, hb, of_or, a2, q7, K44, h44, Bool.false_eq_true, Bool.true_eq_false, if_true, if_false, not_true_eq_false, not_false_eq_true, zle, eq_self]
    · rename_i h13
      have e := Option.some.inj e
      subst e
      refine ⟨J1, fun D hD => ?_, X1.1, F1⟩
      obtain ⟨E, rfl⟩ : ∃ E, D = E + 2 + 1 := ⟨D - 3, by omega⟩
      have a1 := A1 (E + 2) (by omega)
      rw [e52_4]
      simp only [e52_0, e52_1, e52_2, e52_3, e52_5, e52_7, e52_10, e52_11, e52_14, e52_15, e52_18, e52_20, e52_23, e52_24, e52_27, e52_30, e52_31, e52_32, e52_33, e52_34, e52_37, e52_38, e52_39, e52_40, e52_41, e52_42, e52_45, e52_46, e52_47, e52_48, e52_49, e52_50, e52_51, e52_52, e52_53, e52_54, e52_57, e52_58, e52_61, e52_63, e52_66, e52_67, e52_68, e52_71, e52_74, e52_75, rk_n, rk_v, nl_n, nl_i, nl_r, cat_n, ip_cat_int, ip_cat_ref, ip_cat_long, ip_rf_some, Nat.reduceAdd, Nat.reduceLeDiff, Nat.reduceLT, Nat.le_refl, Nat.zero_le, g8, a1, q6, K13, h13, Bool.false_eq_true, Bool.true_eq_false, if_true, if_false, not_true_eq_false, not_false_eq_true, zle, eq_self]
/-- the model -/
def scI (c a k : Nat) : Prop := (a = 265 ∧ (k = 4 ∨ k = 5)) ∨ (a = 269 ∧ k = c)
theorem t196 (hR : LYR R) (ht : t ≤ 400) (hB : ∀ i, i < t → ¬ B i = -1) (hc7 : c < 8) (F : ∀ k, k < c → okl (f k) ∧ (f k).length ≤ 6 ∧ L 267 k = Int64.ofNat (pck (f k))) : ∀ g p r a K o (l3 : Option Value), RM B t a K → a ≤ t → skT B t a = nxT B t p → K 265 5 = -1 → K 265 6 = Int32.ofNat c → K 269 c = Int32.ofNat r → p < t → r < 2 ^ c → rsp B t f c g p r = some o →
    match o with
    | .inl q => ∃ K', (∀ D, 6 ≤ D → rf D 196 158 [some (.ref 265), some (.int (Int32.ofNat c)), some (.int 1), l3] [] (SH n, K, L, R, nc, ns, nx) = some (.inl none, (SH n, K', L, R, nc, ns, nx))) ∧ K' 265 5 = Int32.ofNat q ∧ onlyP (scI c) K K'
    | .inr z => ∃ K' l3', (∀ D, 6 ≤ D → rf D 196 158 [some (.ref 265), some (.int (Int32.ofNat c)), some (.int 1), l3] [] (SH n, K, L, R, nc, ns, nx) = rf D 196 274 [some (.ref 265), some (.int (Int32.ofNat c)), some (.int 0), l3'] [] (SH n, K', L, R, nc, ns, nx)) ∧ RM B t z.1 K' ∧ skT B t z.1 = z.1 ∧ K' 265 5 = -1 ∧ K' 269 c = Int32.ofNat z.2 ∧ onlyP (scI c) K K' := by
  have p2c : 2 ^ c ≤ 256 := p2le (by omega)
  have lc : c < 2147483648 := by omega
  intro g
  induction g with
  | zero => intro p r a K o l3 _ _ _ _ _ _ _ _ e; cases e
  | succ g ih =>
    intro p r a K o l3 X ha hs F5 h6 h9 pt hr2 e
    have N1 := nxT_le (B := B) (t := t) (p := p) (by omega)
    generalize hQ : nxT B t p = Q at *
    have ss : skT B t Q = Q := by have := skT_sk (B := B) ha; rw [hs] at this; exact this
    have Y : RM B t Q (atM K Q) := RM_at X
    have y5 : atM K Q 265 5 = -1 := (up_k (by decide)).trans F5
    have y6 : atM K Q 265 6 = Int32.ofNat c := (up_k (by decide)).trans h6
    have y9 : atM K Q 269 c = Int32.ofNat r := (up_a (by decide)).trans h9
    have N := fun d => c198 (d := d) (n := n) (L := L) (nc := nc) (ns := ns) (nx := nx) (p := Q) hR ht hB X ha hs
    have W := fun d => c197 (d := d) (n := n) (J := atM K Q) (L := L) (R := R) (nc := nc) (ns := ns) (nx := nx) (p := Q) up_eq y5
    have w5 : ¬ ip_up (atM K Q) 265 5 (Int32.ofNat Q) 265 5 = -1 := by rw [up_eq]; exact nm1 (by omega)
    have OW : onlyP (scI c) K (ip_up (atM K Q) 265 5 (Int32.ofNat Q)) := onlyP_up (onlyP_up onlyP_refl (by unfold scI; omega)) (by unfold scI; omega)
    rw [rsp, hQ] at e
    split at e
    · rename_i h13
      rw [if_pos h13] at N
      have C := fun d => c200 (d := d) (n := n) (L := L) (nc := nc) (ns := ns) (nx := nx) (p := Q) (f := f) hR ht hB Y N1.2.1 ss h13 (by omega) y6 F
      rw [atM_at] at C
      unfold fIx at C
      rcases ffs_case (fun k => decide (f k = wl B t Q)) c 0 with ⟨z, -⟩ | ⟨j, a1, a2, a3, -⟩
      · rw [z] at e C
        have e := Option.some.inj e
        subst e
        refine ⟨_, fun D hD => ?_, up_eq, OW⟩
        obtain ⟨E, rfl⟩ : ∃ E, D = E + 4 + 1 := ⟨D - 5, by omega⟩
        rw [e196_158]
        simp only [e196_0, e196_1, e196_4, e196_6, e196_9, e196_10, e196_13, e196_14, e196_17, e196_18, e196_21, e196_22, e196_23, e196_23r, e196_24, e196_27, e196_28, e196_29, e196_32, e196_33, e196_36, e196_39, e196_40, e196_43, e196_44, e196_47, e196_48, e196_51, e196_52, e196_55, e196_56, e196_59, e196_60, e196_61, e196_64, e196_65, e196_66, e196_69, e196_70, e196_71, e196_74, e196_75, e196_76, e196_76r, e196_77, e196_80, e196_81, e196_84, e196_85, e196_88, e196_89, e196_92, e196_93, e196_94, e196_96, e196_99, e196_102, e196_103, e196_106, e196_107, e196_109, e196_112, e196_115, e196_116, e196_119, e196_120, e196_121, e196_122, e196_125, e196_126, e196_127, e196_128, e196_131, e196_132, e196_134, e196_137, e196_140, e196_141, e196_144, e196_145, e196_148, e196_149, e196_150, e196_151, e196_152, e196_154, e196_157, e196_159, e196_162, e196_163, e196_166, e196_167, e196_170, e196_171, e196_174, e196_177, e196_178, e196_181, e196_184, e196_185, e196_186, e196_187, e196_188, e196_191, e196_192, e196_195, e196_196, e196_197, e196_198, e196_201, e196_204, e196_205, e196_208, e196_209, e196_212, e196_213, e196_216, e196_217, e196_218, e196_221, e196_222, e196_223, e196_224, e196_225, e196_226, e196_227, e196_228, e196_229, e196_230, e196_230r, e196_231, e196_234, e196_235, e196_238, e196_239, e196_242, e196_243, e196_246, e196_248, e196_251, e196_252, e196_255, e196_256, e196_257, e196_258, e196_261, e196_262, e196_262r, e196_263, e196_266, e196_267, e196_268, e196_271, e196_274, e196_275, e196_275r, e196_276, e196_279, e196_280, e196_281, e196_284, rk_n, rk_v, nl_n, nl_i, nl_r, cat_n, ip_cat_int, ip_cat_ref, ip_cat_long, ip_rf_some, Nat.reduceAdd, Nat.reduceLeDiff, Nat.reduceLT, Nat.le_refl, Nat.zero_le, F5, N, C, W, w5, (by decide : ¬ (1 : Int32) = 0), Bool.false_eq_true, Bool.true_eq_false, if_true, if_false, not_true_eq_false, not_false_eq_true, zle, eq_self]
      · rw [a1] at e C
        dsimp only at e C
        have nj : (Int32.ofNat j = -1) = False := eq_false (nm1 (by omega))
        have hb2 := fun d h => hasB (d := d) (h := h) (s := r) (k := j) (by omega) (by omega)
        split at e
        · rename_i hb
          have e := Option.some.inj e
          subst e
          refine ⟨_, fun D hD => ?_, up_eq, OW⟩
          obtain ⟨E, rfl⟩ : ∃ E, D = E + 4 + 1 := ⟨D - 5, by omega⟩
          rw [e196_158]
          simp only [e196_0, e196_1, e196_4, e196_6, e196_9, e196_10, e196_13, e196_14, e196_17, e196_18, e196_21, e196_22, e196_23, e196_23r, e196_24, e196_27, e196_28, e196_29, e196_32, e196_33, e196_36, e196_39, e196_40, e196_43, e196_44, e196_47, e196_48, e196_51, e196_52, e196_55, e196_56, e196_59, e196_60, e196_61, e196_64, e196_65, e196_66, e196_69, e196_70, e196_71, e196_74, e196_75, e196_76, e196_76r, e196_77, e196_80, e196_81, e196_84, e196_85, e196_88, e196_89, e196_92, e196_93, e196_94, e196_96, e196_99, e196_102, e196_103, e196_106, e196_107, e196_109, e196_112, e196_115, e196_116, e196_119, e196_120, e196_121, e196_122, e196_125, e196_126, e196_127, e196_128, e196_131, e196_132, e196_134, e196_137, e196_140, e196_141, e196_144, e196_145, e196_148, e196_149, e196_150, e196_151, e196_152, e196_154, e196_157, e196_159, e196_162, e196_163, e196_166, e196_167, e196_170, e196_171, e196_174, e196_177, e196_178, e196_181, e196_184, e196_185, e196_186, e196_187, e196_188, e196_191, e196_192, e196_195, e196_196, e196_197, e196_198, e196_201, e196_204, e196_205, e196_208, e196_209, e196_212, e196_213, e196_216, e196_217, e196_218, e196_221, e196_222, e196_223, e196_224, e196_225, e196_226, e196_227, e196_228, e196_229, e196_230, e196_230r, e196_231, e196_234, e196_235, e196_238, e196_239, e196_242, e196_243, e196_246, e196_248, e196_251, e196_252, e196_255, e196_256, e196_257, e196_258, e196_261, e196_262, e196_262r, e196_263, e196_266, e196_267, e196_268, e196_271, e196_274, e196_275, e196_275r, e196_276, e196_279, e196_280, e196_281, e196_284, rk_n, rk_v, nl_n, nl_i, nl_r, cat_n, ip_cat_int, ip_cat_ref, ip_cat_long, ip_rf_some, Nat.reduceAdd, Nat.reduceLeDiff, Nat.reduceLT, Nat.le_refl, Nat.zero_le, hR, F5, N, C, nj, ia_lit, nu_i, nu_tn, lc, hc7, y9, hb2, hb, W, w5, (by decide : ¬ (1 : Int32) = 0), Bool.false_eq_true, Bool.true_eq_false, if_true, if_false, not_true_eq_false, not_false_eq_true, zle, eq_self]
        · rename_i hb
          have hb : r.testBit j = false := by
            cases z : r.testBit j with
            | false => rfl
            | true => exact absurd z hb
          obtain ⟨q1, q2⟩ := kd_ne h13
          have r1 := (enT_le (B := B) (t := t) (p := Q) (by omega))
          have s1 := sh1 j (by omega)
          have r2 : r ||| 2 ^ j < 2 ^ c := Nat.or_lt_two_pow hr2 (Nat.pow_lt_pow_right (by omega) (by omega))
          generalize hK2 : ip_up (atM K Q) 269 c (Int32.ofNat (r ||| 2 ^ j)) = K2
          have Y2 : RM B t Q K2 := by rw [← hK2]; exact ⟨(up_a (by decide)).trans Y.1, (up_a (by decide)).trans Y.2.1, fun i hi => (up_a (by decide)).trans (Y.2.2 i hi)⟩
          have Wz := fun d => c195 (d := d) (n := n) (L := L) (nc := nc) (ns := ns) (nx := nx) (p := Q) hR ht hB Y2 N1.2.1 ss
          rw [atM_s Y2] at Wz
          have k4 : K2 265 4 = Int32.ofNat Q := Y2.2.1
          have e4 : Int32.ofNat Q + Int32.ofNat (rnn lxL B t Q - Q) = Int32.ofNat (enT B t Q) := by rw [nu_add, q1]; congr 1; omega
          have e5 : ip_up K2 265 4 (Int32.ofNat (enT B t Q)) = atM K2 (enT B t Q) := rfl
          have Y3 : RM B t (enT B t Q) (atM K2 (enT B t Q)) := RM_at Y2
          have H := fun d => c193 (d := d) (n := n) (L := L) (nc := nc) (ns := ns) (nx := nx) (p := nxT B t Q) hR ht Y3 r1.2.1 rfl
          rw [atM_at] at H
          have N2 := nxT_le (B := B) (t := t) (p := Q) (by omega)
          have O2 : ∀ q, onlyP (scI c) K (atM K2 q) := fun q => by rw [← hK2]; exact onlyP_up (onlyP_up (onlyP_up onlyP_refl (by unfold scI; omega)) (by unfold scI; omega)) (by unfold scI; omega)
          have f5 : ∀ q, atM K2 q 265 5 = -1 := fun q => by rw [← hK2]; unfold atM; rw [up_k (by decide), up_a (by decide), up_k (by decide)]; exact F5
          have f6 : ∀ q, atM K2 q 265 6 = Int32.ofNat c := fun q => by rw [← hK2]; unfold atM; rw [up_k (by decide), up_a (by decide), up_k (by decide)]; exact h6
          have f9 : ∀ q, atM K2 q 269 c = Int32.ofNat (r ||| 2 ^ j) := fun q => by unfold atM; rw [up_a (by decide), ← hK2, up_eq]
          split at e
          · rename_i h44
            have hv4 : hv B t (nxT B t Q) = 44 := (kd_sg (s := 44) (by omega)).mp h44
            rw [hv4] at H
            obtain ⟨u1, u2⟩ := kd_sn (s := 44) (by omega) h44
            have u3 := (enT_le (B := B) (t := t) (p := nxT B t Q) (by omega))
            have e6 : Int32.ofNat (nxT B t Q) + 1 = Int32.ofNat (enT B t (nxT B t Q)) := by rw [u1]; exact nu_add (s := 1)
            have e7 : ip_up (atM K2 (nxT B t Q)) 265 4 (Int32.ofNat (enT B t (nxT B t Q))) = atM K2 (enT B t (nxT B t Q)) := up_up
            have y44 : atM K2 (nxT B t Q) 265 4 = Int32.ofNat (nxT B t Q) := up_eq
            have Q2 := ih (nxT B t Q) (r ||| 2 ^ j) (enT B t (nxT B t Q)) (atM K2 (enT B t (nxT B t Q))) o (some (.int (Int32.ofNat j))) (RM_at Y2) u3.2.1 rfl (f5 _) (f6 _) (f9 _) u2 r2 e
            have WW : ∀ D, 6 ≤ D → rf D 196 158 [some (.ref 265), some (.int (Int32.ofNat c)), some (.int 1), l3] [] (SH n, K, L, R, nc, ns, nx) = rf D 196 158 [some (.ref 265), some (.int (Int32.ofNat c)), some (.int 1), some (.int (Int32.ofNat j))] [] (SH n, atM K2 (enT B t (nxT B t Q)), L, R, nc, ns, nx) := by
              intro D hD
              obtain ⟨E, rfl⟩ : ∃ E, D = E + 4 + 1 := ⟨D - 5, by omega⟩
              rw [e196_158]
              simp only [e196_0, e196_1, e196_4, e196_6, e196_9, e196_10, e196_13, e196_14, e196_17, e196_18, e196_21, e196_22, e196_23, e196_23r, e196_24, e196_27, e196_28, e196_29, e196_32, e196_33, e196_36, e196_39, e196_40, e196_43, e196_44, e196_47, e196_48, e196_51, e196_52, e196_55, e196_56, e196_59, e196_60, e196_61, e196_64, e196_65, e196_66, e196_69, e196_70, e196_71, e196_74, e196_75, e196_76, e196_76r, e196_77, e196_80, e196_81, e196_84, e196_85, e196_88, e196_89, e196_92, e196_93, e196_94, e196_96, e196_99, e196_102, e196_103, e196_106, e196_107, e196_109, e196_112, e196_115, e196_116, e196_119, e196_120, e196_121, e196_122, e196_125, e196_126, e196_127, e196_128, e196_131, e196_132, e196_134, e196_137, e196_140, e196_141, e196_144, e196_145, e196_148, e196_149, e196_150, e196_151, e196_152, e196_154, e196_157, e196_159, e196_162, e196_163, e196_166, e196_167, e196_170, e196_171, e196_174, e196_177, e196_178, e196_181, e196_184, e196_185, e196_186, e196_187, e196_188, e196_191, e196_192, e196_195, e196_196, e196_197, e196_198, e196_201, e196_204, e196_205, e196_208, e196_209, e196_212, e196_213, e196_216, e196_217, e196_218, e196_221, e196_222, e196_223, e196_224, e196_225, e196_226, e196_227, e196_228, e196_229, e196_230, e196_230r, e196_231, e196_234, e196_235, e196_238, e196_239, e196_242, e196_243, e196_246, e196_248, e196_251, e196_252, e196_255, e196_256, e196_257, e196_258, e196_261, e196_262, e196_262r, e196_263, e196_266, e196_267, e196_268, e196_271, e196_274, e196_275, e196_275r, e196_276, e196_279, e196_280, e196_281, e196_284, rk_n, rk_v, nl_n, nl_i, nl_r, cat_n, ip_cat_int, ip_cat_ref, ip_cat_long, ip_rf_some, Nat.reduceAdd, Nat.reduceLeDiff, Nat.reduceLT, Nat.le_refl, Nat.zero_le, hR, F5, N, C, nj, ia_lit, nu_i, nu_tn, lc, hc7, y9, hb2, hb, y5, s1, of_or, hK2, Wz, k4, e4, e5, H, y44, e6, e7, (by decide : ¬ (1 : Int32) = 0), Bool.false_eq_true, Bool.true_eq_false, if_true, if_false, not_true_eq_false, not_false_eq_true, zle, eq_self]
            cases o with
            | inl q =>
              obtain ⟨K3, A3, X3, F3⟩ := Q2
              exact ⟨K3, fun D hD => (WW D hD).trans (A3 D hD), X3, onlyP_tr (O2 _) F3⟩
            | inr z =>
              obtain ⟨K3, l3', A3, X3, s3, x5, x9, F3⟩ := Q2
              exact ⟨K3, l3', fun D hD => (WW D hD).trans (A3 D hD), X3, s3, x5, x9, onlyP_tr (O2 _) F3⟩
          · rename_i h44
            have e := Option.some.inj e
            subst e
            have n44 : (hv B t (nxT B t Q) = 44) = False := eq_false (fun z => h44 ((kd_sg (s := 44) (by omega)).mpr z))
            refine ⟨atM K2 (nxT B t Q), some (.int (Int32.ofNat j)), fun D hD => ?_, RM_at Y2, skT_sk r1.2.1, f5 _, f9 _, O2 _⟩
            obtain ⟨E, rfl⟩ : ∃ E, D = E + 4 + 1 := ⟨D - 5, by omega⟩
            rw [e196_158]
            simp only [e196_0, e196_1, e196_4, e196_6, e196_9, e196_10, e196_13, e196_14, e196_17, e196_18, e196_21, e196_22, e196_23, e196_23r, e196_24, e196_27, e196_28, e196_29, e196_32, e196_33, e196_36, e196_39, e196_40, e196_43, e196_44, e196_47, e196_48, e196_51, e196_52, e196_55, e196_56, e196_59, e196_60, e196_61, e196_64, e196_65, e196_66, e196_69, e196_70, e196_71, e196_74, e196_75, e196_76, e196_76r, e196_77, e196_80, e196_81, e196_84, e196_85, e196_88, e196_89, e196_92, e196_93, e196_94, e196_96, e196_99, e196_102, e196_103, e196_106, e196_107, e196_109, e196_112, e196_115, e196_116, e196_119, e196_120, e196_121, e196_122, e196_125, e196_126, e196_127, e196_128, e196_131, e196_132, e196_134, e196_137, e196_140, e196_141, e196_144, e196_145, e196_148, e196_149, e196_150, e196_151, e196_152, e196_154, e196_157, e196_159, e196_162, e196_163, e196_166, e196_167, e196_170, e196_171, e196_174, e196_177, e196_178, e196_181, e196_184, e196_185, e196_186, e196_187, e196_188, e196_191, e196_192, e196_195, e196_196, e196_197, e196_198, e196_201, e196_204, e196_205, e196_208, e196_209, e196_212, e196_213, e196_216, e196_217, e196_218, e196_221, e196_222, e196_223, e196_224, e196_225, e196_226, e196_227, e196_228, e196_229, e196_230, e196_230r, e196_231, e196_234, e196_235, e196_238, e196_239, e196_242, e196_243, e196_246, e196_248, e196_251, e196_252, e196_255, e196_256, e196_257, e196_258, e196_261, e196_262, e196_262r, e196_263, e196_266, e196_267, e196_268, e196_271, e196_274, e196_275, e196_275r, e196_276, e196_279, e196_280, e196_281, e196_284, rk_n, rk_v, nl_n, nl_i, nl_r, cat_n, ip_cat_int, ip_cat_ref, ip_cat_long, ip_rf_some, Nat.reduceAdd, Nat.reduceLeDiff, Nat.reduceLT, Nat.le_refl, Nat.zero_le, hR, F5, N, C, nj, ia_lit, nu_i, nu_tn, lc, hc7, y9, hb2, hb, y5, s1, of_or, hK2, Wz, k4, e4, e5, H, n44, (by decide : ¬ (1 : Int32) = 0), Bool.false_eq_true, Bool.true_eq_false, if_true, if_false, not_true_eq_false, not_false_eq_true, zle, eq_self]
            rw [e196_158]
            simp only [e196_0, e196_1, e196_4, e196_6, e196_9, e196_10, e196_13, e196_14, e196_17, e196_18, e196_21, e196_22, e196_23, e196_23r, e196_24, e196_27, e196_28, e196_29, e196_32, e196_33, e196_36, e196_39, e196_40, e196_43, e196_44, e196_47, e196_48, e196_51, e196_52, e196_55, e196_56, e196_59, e196_60, e196_61, e196_64, e196_65, e196_66, e196_69, e196_70, e196_71, e196_74, e196_75, e196_76, e196_76r, e196_77, e196_80, e196_81, e196_84, e196_85, e196_88, e196_89, e196_92, e196_93, e196_94, e196_96, e196_99, e196_102, e196_103, e196_106, e196_107, e196_109, e196_112, e196_115, e196_116, e196_119, e196_120, e196_121, e196_122, e196_125, e196_126, e196_127, e196_128, e196_131, e196_132, e196_134, e196_137, e196_140, e196_141, e196_144, e196_145, e196_148, e196_149, e196_150, e196_151, e196_152, e196_154, e196_157, e196_159, e196_162, e196_163, e196_166, e196_167, e196_170, e196_171, e196_174, e196_177, e196_178, e196_181, e196_184, e196_185, e196_186, e196_187, e196_188, e196_191, e196_192, e196_195, e196_196, e196_197, e196_198, e196_201, e196_204, e196_205, e196_208, e196_209, e196_212, e196_213, e196_216, e196_217, e196_218, e196_221, e196_222, e196_223, e196_224, e196_225, e196_226, e196_227, e196_228, e196_229, e196_230, e196_230r, e196_231, e196_234, e196_235, e196_238, e196_239, e196_242, e196_243, e196_246, e196_248, e196_251, e196_252, e196_255, e196_256, e196_257, e196_258, e196_261, e196_262, e196_262r, e196_263, e196_266, e196_267, e196_268, e196_271, e196_274, e196_275, e196_275r, e196_276, e196_279, e196_280, e196_281, e196_284, rk_n, rk_v, nl_n, nl_i, nl_r, cat_n, ip_cat_int, ip_cat_ref, ip_cat_long, ip_rf_some, Nat.reduceAdd, Nat.reduceLeDiff, Nat.reduceLT, Nat.le_refl, Nat.zero_le, Bool.false_eq_true, Bool.true_eq_false, if_true, if_false, not_true_eq_false, not_false_eq_true, zle, eq_self]
    · rename_i h13
      rw [if_neg h13] at N
      have e := Option.some.inj e
      subst e
      refine ⟨_, fun D hD => ?_, up_eq, OW⟩
      obtain ⟨E, rfl⟩ : ∃ E, D = E + 4 + 1 := ⟨D - 5, by omega⟩
      rw [e196_158]
      simp only [e196_0, e196_1, e196_4, e196_6, e196_9, e196_10, e196_13, e196_14, e196_17, e196_18, e196_21, e196_22, e196_23, e196_23r, e196_24, e196_27, e196_28, e196_29, e196_32, e196_33, e196_36, e196_39, e196_40, e196_43, e196_44, e196_47, e196_48, e196_51, e196_52, e196_55, e196_56, e196_59, e196_60, e196_61, e196_64, e196_65, e196_66, e196_69, e196_70, e196_71, e196_74, e196_75, e196_76, e196_76r, e196_77, e196_80, e196_81, e196_84, e196_85, e196_88, e196_89, e196_92, e196_93, e196_94, e196_96, e196_99, e196_102, e196_103, e196_106, e196_107, e196_109, e196_112, e196_115, e196_116, e196_119, e196_120, e196_121, e196_122, e196_125, e196_126, e196_127, e196_128, e196_131, e196_132, e196_134, e196_137, e196_140, e196_141, e196_144, e196_145, e196_148, e196_149, e196_150, e196_151, e196_152, e196_154, e196_157, e196_159, e196_162, e196_163, e196_166, e196_167, e196_170, e196_171, e196_174, e196_177, e196_178, e196_181, e196_184, e196_185, e196_186, e196_187, e196_188, e196_191, e196_192, e196_195, e196_196, e196_197, e196_198, e196_201, e196_204, e196_205, e196_208, e196_209, e196_212, e196_213, e196_216, e196_217, e196_218, e196_221, e196_222, e196_223, e196_224, e196_225, e196_226, e196_227, e196_228, e196_229, e196_230, e196_230r, e196_231, e196_234, e196_235, e196_238, e196_239, e196_242, e196_243, e196_246, e196_248, e196_251, e196_252, e196_255, e196_256, e196_257, e196_258, e196_261, e196_262, e196_262r, e196_263, e196_266, e196_267, e196_268, e196_271, e196_274, e196_275, e196_275r, e196_276, e196_279, e196_280, e196_281, e196_284, rk_n, rk_v, nl_n, nl_i, nl_r, cat_n, ip_cat_int, ip_cat_ref, ip_cat_long, ip_rf_some, Nat.reduceAdd, Nat.reduceLeDiff, Nat.reduceLT, Nat.le_refl, Nat.zero_le, F5, N, W, w5, (by decide : ¬ (1 : Int32) = 0), Bool.false_eq_true, Bool.true_eq_false, if_true, if_false, not_true_eq_false, not_false_eq_true, zle, eq_self]
end RS
