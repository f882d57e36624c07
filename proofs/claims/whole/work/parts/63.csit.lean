/-! THE CLASS'S COURT: hearSide, levelFrom, sit -/
section CS
variable {n d a b T c s t z o w m p lev k side ap b0 b1 h0 h1 md C F B : Nat} {I J K : Nat → Nat → Int32} {L : Nat → Nat → Int64} {R : Nat → Nat → Option Nat} {nc ns : Nat} {nx : Bool} {x y j v lv hw0 : Int32} {h : ip_H} {f g std rst V : Nat → Nat} {win : Nat → Bool} {br fl : Nat → Int32}
theorem CTx_P {P : Nat → Nat → Prop} (H : onlyP P I J) (hP : ∀ i, i ≤ 6 → ∀ k, ¬ P (T + i) k) (X : CTx T c std rst br win I L) : CTx T c std rst br win J L := by
  obtain ⟨h1, h2, h3, h4, h5, h6, h7, h8⟩ := X
  refine ⟨h1, h2, ?_, ?_, ?_, ?_, ?_, h8⟩
  · rw [H T 6 (hP 0 (by omega) 6)]; exact h3
  · intro k hk; rw [H _ _ (hP 2 (by omega) k)]; exact h4 k hk
  · intro k hk; rw [H _ _ (hP 3 (by omega) k)]; exact h5 k hk
  · intro k hk; rw [H _ _ (hP 4 (by omega) k)]; exact h6 k hk
  · intro k hk; rw [H _ _ (hP 5 (by omega) k)]; exact h7 k hk
theorem CNd_P {P : Nat → Nat → Prop} (H : onlyP P I J) (hP : ∀ i, i ≤ 3 → ∀ k, ¬ P (F + i) k) (hB : ¬ P B 7) (X : CNd F B c lev V fl I) : CNd F B c lev V fl J := by
  obtain ⟨h1, h2, h3, h4, h5, h6, h7, h8, h9, h10, h11, h12, h13, h14⟩ := X
  refine ⟨h1, h2, h3, ?_, ?_, ?_, ?_, ?_, ?_, ?_, ?_, ?_, h13, h14⟩
  · rw [H F 4 (hP 0 (by omega) 4)]; exact h4
  · rw [H F 5 (hP 0 (by omega) 5)]; exact h5
  · rw [H F 6 (hP 0 (by omega) 6)]; exact h6
  · rw [H F 7 (hP 0 (by omega) 7)]; exact h7
  · rw [H F 8 (hP 0 (by omega) 8)]; exact h8
  · rw [H F 10 (hP 0 (by omega) 10)]; exact h9
  · intro s hs; rw [H _ _ (hP 1 (by omega) s), H _ _ (hP 2 (by omega) s)]; exact h10 s hs
  · intro k hk e; rw [H _ _ (hP 3 (by omega) k)]; exact h11 k hk e
  · intro e; rw [H _ _ hB]; exact h12 e
theorem dis_T (hC : isC C) (hT : isT T) {i j : Nat} (hi : i ≤ 6) (hj : j = 0 ∨ (13 ≤ j ∧ j ≤ 15)) : ¬ T + i = C + j := by
  unfold isC at hC
  unfold isT at hT
  omega
theorem dis_N (hC : isC C) (hF : isN F) {i j : Nat} (hi : i ≤ 4) (hj : j = 0 ∨ (13 ≤ j ∧ j ≤ 15)) : ¬ F + i = C + j := by
  unfold isC at hC
  unfold isN at hF
  rcases hF with rfl | rfl | rfl | ⟨k, hk, rfl⟩ <;> omega
/-- what hearSide writes -/
def atH (C side a k : Nat) : Prop := (a = C + 13 ∨ a = C + 14) ∧ k = side
def errS (c : Nat) (std rst : Nat → Nat) (br : Nat → Int32) (win : Nat → Bool) (V : Nat → Nat) (fl : Nat → Int32) (lev side : Nat) : Nat := setN (fun k => decide (whyI V fl lev k side = 0) && !decide (fl k < br (3 * lev - 3 + std k))) c
theorem c81n {l q : Nat} (h0 : 0 < l) : cf d 81 [.int (Int32.ofNat l), .int (Int32.ofNat q)] h = some (.inl (some (.int (Int32.ofNat (3 * l - 3 + q)))), h) := by
  have e : (Int32.ofNat l - 1) * 3 = Int32.ofNat (3 * l - 3) := by
    rw [show Int32.ofNat l - 1 = Int32.ofNat (l - 1) from (Int32.ofNat_sub l 1 (by omega)).symm]
    show Int32.ofNat (l - 1) * Int32.ofNat 3 = _
    rw [← Int32.ofNat_mul, show (l - 1) * 3 = 3 * l - 3 by omega]
  rw [c81, e, nu_add]
theorem why_ag {k : Nat} (e : whyI V fl lev k side = 0) : (V 6).testBit k = false := by
  unfold whyI at e
  cases ha : agN V k side with
  | false => rw [ha, if_pos rfl] at e; exact absurd e (by decide)
  | true =>
    unfold agN at ha
    cases e6 : (V 6).testBit k with
    | false => rfl
    | true => rw [e6] at ha; cases ha
theorem c103 (hR : LYR R) (hC : isC C) (X : CTx T c std rst br win I L) (N : CNd F B c lev V fl I) (hl : lev = 1 ∨ lev = 2) (rT : R C 0 = some T) (rF : R C 1 = some F) (rB : R C 2 = some B) (hlv : I C 3 = Int32.ofNat lev) (hs : side < 2) :
    ∃ J, cf (d + 2) 103 [.ref C, .int (Int32.ofNat side)] (SH n, I, L, R, nc, ns, nx) = some (.inl none, (SH n, J, L, R, nc, ns, nx)) ∧ onlyP (atH C side) I J ∧ J (C + 13) side = Int32.ofNat (heardN c std rst br win V fl lev side) ∧ J (C + 14) side = Int32.ofNat (errS c std rst br win V fl lev side) := by
  have ls : side < 2147483648 := by omega
  have n13 : ¬ C = C + 13 := by omega
  have n14 : ¬ C = C + 14 := by omega
  have ne1 : ¬ C + 14 = C + 13 := by omega
  have ne2 : ¬ C + 13 = C + 14 := by omega
  have hT := X.1
  have nF := N.1
  have nB := N.2.1
  have fT : ∀ i, i ≤ 6 → ∀ k, ¬ atH C side (T + i) k := by
    intro i hi k e
    rcases e.1 with e | e
    · exact dis_T hC hT hi (Or.inr (by omega)) e
    · exact dis_T hC hT hi (Or.inr (by omega)) e
  have fF : ∀ i, i ≤ 3 → ∀ k, ¬ atH C side (F + i) k := by
    intro i hi k e
    rcases e.1 with e | e
    · exact dis_N hC nF (by omega) (Or.inr (by omega)) e
    · exact dis_N hC nF (by omega) (Or.inr (by omega)) e
  have fB : ¬ atH C side B 7 := by
    intro e
    rcases e.1 with e | e
    · exact dis_N (i := 0) hC nB (by omega) (Or.inr (by omega)) e
    · exact dis_N (i := 0) hC nB (by omega) (Or.inr (by omega)) e
  have lc := lt8 X.2.1
  simp only [en103, e103_0, e103_1, e103_4, e103_5, e103_6, e103_7, e103_8, e103_11, e103_12, e103_13, e103_14, e103_15, e103_17, e103_18, e103_21, e103_24, e103_27, e103_28, e103_29, e103_30, e103_33, e103_36, e103_37, e103_40, e103_41, e103_42, e103_43, e103_44, e103_45, e103_46, e103_47, e103_48, e103_49, e103_52, e103_55, e103_56, e103_57, e103_58, e103_61, e103_64, e103_65, e103_68, e103_69, e103_72, e103_75, e103_76, e103_77, e103_80, e103_81, e103_84, e103_85, e103_88, e103_89, e103_90, e103_91, e103_92, e103_93, e103_94, e103_95, e103_96, e103_99, e103_102, rk_n, rk_v, nl_n, nl_i, nl_r, cat_n, ip_cat_int, ip_cat_ref, ip_cat_long, ip_rf_some, Nat.reduceAdd, Nat.reduceLeDiff, Nat.reduceLT, Nat.le_refl, Nat.zero_le, hR, hC, ia_C13 hC, ia_C14 hC, nu_i, nu_tn, ls, hs, Bool.false_eq_true, Bool.true_eq_false, if_true, if_false, not_true_eq_false, not_false_eq_true, zle, eq_self]
  refine Exists.elim (for_ex (c := c) (fun k (J : Nat → Nat → Int32) => rf (d + 2) 103 16 [some (.ref C), some (.int (Int32.ofNat side)), some (.int (Int32.ofNat k))] [] (SH n, J, L, R, nc, ns, nx)) (fun k J => onlyP (atH C side) I J ∧ J (C + 13) side = Int32.ofNat (setN (fun k => decide (whyI V fl lev k side = 0)) k) ∧ J (C + 14) side = Int32.ofNat (setN (fun k => decide (whyI V fl lev k side = 0) && !decide (fl k < br (3 * lev - 3 + std k))) k)) ?_ (ip_up (ip_up I (C + 13) side 0) (C + 14) side 0) ?_) ?_
  · rintro k J hk ⟨o1, j13, j14⟩
    have X1 := CTx_P o1 fT X
    have N1 := CNd_P o1 fF fB N
    have hlv1 : J C 3 = Int32.ofNat lev := (o1 C 3 (fun e => by rcases e.1 with e | e <;> omega)).trans hlv
    have E := c104 (d := d) (n := n) (L := L) (nc := nc) (ns := ns) (nx := nx) hR hC N1 hl rF rB hlv1 X.2.1 hk hs
    obtain ⟨-, hc8, x6, x2, -, -, x5, -⟩ := X1
    have lk : k < 2147483648 := by omega
    have g1 : ¬ c ≤ k := by omega
    have k8 : k < 8 := by omega
    obtain ⟨s1, s2⟩ := x2 k hk
    have b6 : 3 * lev - 3 + std k < 6 := by omega
    have lb : 3 * lev - 3 + std k < 2147483648 := by omega
    have l0 : 0 < lev := by omega
    have r1 := x5 _ b6
    have dT13 : ∀ i, i ≤ 6 → ¬ T + i = C + 13 := fun i hi => dis_T hC hT hi (Or.inr (by omega))
    have dT0 : ¬ T = C + 13 := dT13 0 (by omega)
    have dT5 := dT13 5 (by omega)
    have dT2 := dT13 2 (by omega)
    have dF3 : ¬ F + 3 = C + 13 := dis_N hC nF (by omega) (Or.inr (by omega))
    rw [setN, setN]
    by_cases g2 : whyI V fl lev k side = 0
    · have hfl := N1.2.2.2.2.2.2.2.2.2.2.1 k hk (why_ag g2)
      by_cases g3 : fl k < br (3 * lev - 3 + std k)
      · refine ⟨ip_up J (C + 13) side (Int32.ofNat (setN (fun k => decide (whyI V fl lev k side = 0)) k ||| 2 ^ k)), ⟨onlyP_up o1 ⟨Or.inl rfl, rfl⟩, ?_, ?_⟩, ?_⟩
        · rw [up_eq]; simp only [g2, decide_true, Bool.false_eq_true, Bool.true_eq_false, if_true, if_false, not_true_eq_false, not_false_eq_true, zle, eq_self]
        · rw [up_a ne1, j14]; simp only [g2, g3, decide_true, Bool.not_true, Bool.and_false, Bool.false_eq_true, Bool.true_eq_false, if_true, if_false, not_true_eq_false, not_false_eq_true, zle, eq_self]
        · rw [e103_16]
          simp only [e103_0, e103_1, e103_4, e103_5, e103_6, e103_7, e103_8, e103_11, e103_12, e103_13, e103_14, e103_15, e103_17, e103_18, e103_21, e103_24, e103_27, e103_28, e103_29, e103_30, e103_33, e103_36, e103_37, e103_40, e103_41, e103_42, e103_43, e103_44, e103_45, e103_46, e103_47, e103_48, e103_49, e103_52, e103_55, e103_56, e103_57, e103_58, e103_61, e103_64, e103_65, e103_68, e103_69, e103_72, e103_75, e103_76, e103_77, e103_80, e103_81, e103_84, e103_85, e103_88, e103_89, e103_90, e103_91, e103_92, e103_93, e103_94, e103_95, e103_96, e103_99, e103_102, rk_n, rk_v, nl_n, nl_i, nl_r, cat_n, ip_cat_int, ip_cat_ref, ip_cat_long, ip_rf_some, Nat.reduceAdd, Nat.reduceLeDiff, Nat.reduceLT, Nat.le_refl, Nat.zero_le, hR, hC, hT, nF, rT, rF, x6, nu_ge, lk, lc, g1, E, g2, ia_C13 hC, ia_C14 hC, ia_N3 nF, ia_T2 hT, ia_T5 hT, nu_i, nu_tn, ls, hs, k8, j13, sh1, of_or, up_a, dT0, dT5, dT2, dF3, n13, hfl, hlv1, s1, c81n l0, lb, b6, r1, g3, nu_1, Bool.false_eq_true, Bool.true_eq_false, if_true, if_false, not_true_eq_false, not_false_eq_true, zle, eq_self]
      · refine ⟨ip_up (ip_up J (C + 13) side (Int32.ofNat (setN (fun k => decide (whyI V fl lev k side = 0)) k ||| 2 ^ k))) (C + 14) side (Int32.ofNat (setN (fun k => decide (whyI V fl lev k side = 0) && !decide (fl k < br (3 * lev - 3 + std k))) k ||| 2 ^ k)), ⟨onlyP_up (onlyP_up o1 ⟨Or.inl rfl, rfl⟩) ⟨Or.inr rfl, rfl⟩, ?_, ?_⟩, ?_⟩
        · rw [up_a ne2, up_eq]; simp only [g2, decide_true, Bool.false_eq_true, Bool.true_eq_false, if_true, if_false, not_true_eq_false, not_false_eq_true, zle, eq_self]
        · rw [up_eq]; simp only [g2, g3, decide_true, decide_false, Bool.not_false, Bool.and_true, Bool.false_eq_true, Bool.true_eq_false, if_true, if_false, not_true_eq_false, not_false_eq_true, zle, eq_self]
        · rw [e103_16]
          simp only [e103_0, e103_1, e103_4, e103_5, e103_6, e103_7, e103_8, e103_11, e103_12, e103_13, e103_14, e103_15, e103_17, e103_18, e103_21, e103_24, e103_27, e103_28, e103_29, e103_30, e103_33, e103_36, e103_37, e103_40, e103_41, e103_42, e103_43, e103_44, e103_45, e103_46, e103_47, e103_48, e103_49, e103_52, e103_55, e103_56, e103_57, e103_58, e103_61, e103_64, e103_65, e103_68, e103_69, e103_72, e103_75, e103_76, e103_77, e103_80, e103_81, e103_84, e103_85, e103_88, e103_89, e103_90, e103_91, e103_92, e103_93, e103_94, e103_95, e103_96, e103_99, e103_102, rk_n, rk_v, nl_n, nl_i, nl_r, cat_n, ip_cat_int, ip_cat_ref, ip_cat_long, ip_rf_some, Nat.reduceAdd, Nat.reduceLeDiff, Nat.reduceLT, Nat.le_refl, Nat.zero_le, hR, hC, hT, nF, rT, rF, x6, nu_ge, lk, lc, g1, E, g2, ia_C13 hC, ia_C14 hC, ia_N3 nF, ia_T2 hT, ia_T5 hT, nu_i, nu_tn, ls, hs, k8, j13, j14, sh1, of_or, up_a, dT0, dT5, dT2, dF3, n13, ne1, hfl, hlv1, s1, c81n l0, lb, b6, r1, g3, nu_1, Bool.false_eq_true, Bool.true_eq_false, if_true, if_false, not_true_eq_false, not_false_eq_true, zle, eq_self]
    · refine ⟨J, ⟨o1, ?_, ?_⟩, ?_⟩
      · rw [j13]; simp only [g2, decide_false, Bool.false_eq_true, Bool.true_eq_false, if_true, if_false, not_true_eq_false, not_false_eq_true, zle, eq_self]
      · rw [j14]; simp only [g2, decide_false, Bool.false_and, Bool.false_eq_true, Bool.true_eq_false, if_true, if_false, not_true_eq_false, not_false_eq_true, zle, eq_self]
      · rw [e103_16]
        simp only [e103_0, e103_1, e103_4, e103_5, e103_6, e103_7, e103_8, e103_11, e103_12, e103_13, e103_14, e103_15, e103_17, e103_18, e103_21, e103_24, e103_27, e103_28, e103_29, e103_30, e103_33, e103_36, e103_37, e103_40, e103_41, e103_42, e103_43, e103_44, e103_45, e103_46, e103_47, e103_48, e103_49, e103_52, e103_55, e103_56, e103_57, e103_58, e103_61, e103_64, e103_65, e103_68, e103_69, e103_72, e103_75, e103_76, e103_77, e103_80, e103_81, e103_84, e103_85, e103_88, e103_89, e103_90, e103_91, e103_92, e103_93, e103_94, e103_95, e103_96, e103_99, e103_102, rk_n, rk_v, nl_n, nl_i, nl_r, cat_n, ip_cat_int, ip_cat_ref, ip_cat_long, ip_rf_some, Nat.reduceAdd, Nat.reduceLeDiff, Nat.reduceLT, Nat.le_refl, Nat.zero_le, hR, hC, hT, rT, x6, nu_ge, lk, lc, g1, E, g2, nu_1, Bool.false_eq_true, Bool.true_eq_false, if_true, if_false, not_true_eq_false, not_false_eq_true, zle, eq_self]
  · refine ⟨onlyP_up (onlyP_up onlyP_refl ⟨Or.inl rfl, rfl⟩) ⟨Or.inr rfl, rfl⟩, ?_, ?_⟩
    · rw [up_a ne2, up_eq]; rfl
    · rw [up_eq]; rfl
  · rintro J ⟨⟨o1, j13, j14⟩, e⟩
    have X1 := CTx_P o1 fT X
    refine ⟨J, ?_, o1, j13, j14⟩
    refine Eq.trans e ?_
    rw [e103_16]
    simp only [e103_0, e103_1, e103_4, e103_5, e103_6, e103_7, e103_8, e103_11, e103_12, e103_13, e103_14, e103_15, e103_17, e103_18, e103_21, e103_24, e103_27, e103_28, e103_29, e103_30, e103_33, e103_36, e103_37, e103_40, e103_41, e103_42, e103_43, e103_44, e103_45, e103_46, e103_47, e103_48, e103_49, e103_52, e103_55, e103_56, e103_57, e103_58, e103_61, e103_64, e103_65, e103_68, e103_69, e103_72, e103_75, e103_76, e103_77, e103_80, e103_81, e103_84, e103_85, e103_88, e103_89, e103_90, e103_91, e103_92, e103_93, e103_94, e103_95, e103_96, e103_99, e103_102, rk_n, rk_v, nl_n, nl_i, nl_r, cat_n, ip_cat_int, ip_cat_ref, ip_cat_long, ip_rf_some, Nat.reduceAdd, Nat.reduceLeDiff, Nat.reduceLT, Nat.le_refl, Nat.zero_le, hR, hC, hT, rT, X1.2.2.1, Int32.le_refl, Bool.false_eq_true, Bool.true_eq_false, if_true, if_false, not_true_eq_false, not_false_eq_true, zle, eq_self]
theorem c101 (nF : isN F) (e1 : I F 0 = lv) (e2 : I F 2 = hw0) (e3 : I F 3 = Int32.ofNat md) (e6 : I F 6 = Int32.ofNat o) (hm : md < 256) : cf d 101 [.ref F] (SH n, I, L, R, nc, ns, nx) = some (.inl (some (.int (levI lv hw0 o md))), (SH n, I, L, R, nc, ns, nx)) := by
  have lo : md &&& o < 2147483648 := Nat.lt_of_le_of_lt Nat.and_le_left (by omega)
  unfold levI
  by_cases g1 : lv = 0
  · by_cases g2 : o &&& md = 0
    · have g3 : md &&& o = 0 := by rw [Nat.and_comm]; exact g2
      simp only [en101, e101_0, e101_1, e101_4, e101_7, e101_8, e101_11, e101_12, e101_15, e101_16, e101_19, e101_20, e101_23, e101_24, e101_25, e101_26, e101_29, e101_30, e101_33, e101_34, e101_37, e101_38, e101_41, e101_42, e101_45, e101_46, rk_n, rk_v, nl_n, nl_i, nl_r, cat_n, ip_cat_int, ip_cat_ref, ip_cat_long, ip_rf_some, Nat.reduceAdd, Nat.reduceLeDiff, Nat.reduceLT, Nat.le_refl, Nat.zero_le, nF, e1, e2, e3, e6, of_and, ofn_0, lo, g1, g2, g3, nz0, Bool.false_eq_true, Bool.true_eq_false, if_true, if_false, not_true_eq_false, not_false_eq_true, zle, eq_self]
    · have g3 : ¬ md &&& o = 0 := by rw [Nat.and_comm]; exact g2
      simp only [en101, e101_0, e101_1, e101_4, e101_7, e101_8, e101_11, e101_12, e101_15, e101_16, e101_19, e101_20, e101_23, e101_24, e101_25, e101_26, e101_29, e101_30, e101_33, e101_34, e101_37, e101_38, e101_41, e101_42, e101_45, e101_46, rk_n, rk_v, nl_n, nl_i, nl_r, cat_n, ip_cat_int, ip_cat_ref, ip_cat_long, ip_rf_some, Nat.reduceAdd, Nat.reduceLeDiff, Nat.reduceLT, Nat.le_refl, Nat.zero_le, nF, e1, e2, e3, e6, of_and, ofn_0, lo, g1, g2, g3, Bool.false_eq_true, Bool.true_eq_false, if_true, if_false, not_true_eq_false, not_false_eq_true, zle, eq_self]
  · by_cases g2 : lv = 1
    · by_cases g4 : hw0 = 3
      · simp only [en101, e101_0, e101_1, e101_4, e101_7, e101_8, e101_11, e101_12, e101_15, e101_16, e101_19, e101_20, e101_23, e101_24, e101_25, e101_26, e101_29, e101_30, e101_33, e101_34, e101_37, e101_38, e101_41, e101_42, e101_45, e101_46, rk_n, rk_v, nl_n, nl_i, nl_r, cat_n, ip_cat_int, ip_cat_ref, ip_cat_long, ip_rf_some, Nat.reduceAdd, Nat.reduceLeDiff, Nat.reduceLT, Nat.le_refl, Nat.zero_le, nF, e1, e2, e3, g1, g2, g4, and_false, Bool.false_eq_true, Bool.true_eq_false, if_true, if_false, not_true_eq_false, not_false_eq_true, zle, eq_self]
      · simp only [en101, e101_0, e101_1, e101_4, e101_7, e101_8, e101_11, e101_12, e101_15, e101_16, e101_19, e101_20, e101_23, e101_24, e101_25, e101_26, e101_29, e101_30, e101_33, e101_34, e101_37, e101_38, e101_41, e101_42, e101_45, e101_46, rk_n, rk_v, nl_n, nl_i, nl_r, cat_n, ip_cat_int, ip_cat_ref, ip_cat_long, ip_rf_some, Nat.reduceAdd, Nat.reduceLeDiff, Nat.reduceLT, Nat.le_refl, Nat.zero_le, nF, e1, e2, e3, g1, g2, g4, and_true, Bool.false_eq_true, Bool.true_eq_false, if_true, if_false, not_true_eq_false, not_false_eq_true, zle, eq_self]
    · simp only [en101, e101_0, e101_1, e101_4, e101_7, e101_8, e101_11, e101_12, e101_15, e101_16, e101_19, e101_20, e101_23, e101_24, e101_25, e101_26, e101_29, e101_30, e101_33, e101_34, e101_37, e101_38, e101_41, e101_42, e101_45, e101_46, rk_n, rk_v, nl_n, nl_i, nl_r, cat_n, ip_cat_int, ip_cat_ref, ip_cat_long, ip_rf_some, Nat.reduceAdd, Nat.reduceLeDiff, Nat.reduceLT, Nat.le_refl, Nat.zero_le, nF, e1, e2, e3, g1, g2, false_and, Bool.false_eq_true, Bool.true_eq_false, if_true, if_false, not_true_eq_false, not_false_eq_true, zle, eq_self]
end CS
