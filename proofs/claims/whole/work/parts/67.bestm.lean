/-! BEST and FATES: the model; FATES: the class -/
section BM
variable {n d a b T c s t z o w m p lev k side ap b0 b1 h0 h1 md C F B pg : Nat} {I J K : Nat → Nat → Int32} {L : Nat → Nat → Int64} {R : Nat → Nat → Option Nat} {nc ns : Nat} {nx : Bool} {x y j v lv hw0 : Int32} {h : ip_H} {f g std rst V : Nat → Nat} {win : Nat → Bool} {br fl : Nat → Int32}
theorem errN_or : errN c std rst br win V fl lev (s ||| t) = errN c std rst br win V fl lev s ||| errN c std rst br win V fl lev t := by
  apply Nat.eq_of_testBit_eq
  intro i
  unfold errN
  rw [Nat.testBit_or, setN_bit, setN_bit, setN_bit, Nat.testBit_or]
  cases decide (i < c) <;> cases s.testBit i <;> cases t.testBit i <;> simp
theorem errN_heard : errN c std rst br win V fl lev (s &&& heardN c std rst br win V fl lev side) = s &&& errS c std rst br win V fl lev side := by
  apply Nat.eq_of_testBit_eq
  intro i
  unfold errN heardN errS
  rw [Nat.testBit_and, setN_bit, setN_bit, Nat.testBit_and, setN_bit]
  cases decide (i < c) <;> cases s.testBit i <;> cases decide (whyI V fl lev i side = 0) <;> simp
theorem byE (a2 : ap < 2) : byI c std rst br win V fl lev ap s t (heardN c std rst br win V fl lev 0) (heardN c std rst br win V fl lev 1) = outE c std rst br win V fl lev ap (s &&& errS c std rst br win V fl lev ap) ((s &&& errS c std rst br win V fl lev ap) ||| (t &&& errS c std rst br win V fl lev (1 - ap))) := by
  unfold byI
  rcases lt2 a2 with rfl | rfl
  · show outE c std rst br win V fl lev 0 (errN c std rst br win V fl lev (s &&& heardN c std rst br win V fl lev 0)) (errN c std rst br win V fl lev ((s &&& heardN c std rst br win V fl lev 0) ||| (t &&& heardN c std rst br win V fl lev 1))) = _
    rw [errN_or, errN_heard, errN_heard]
  · show outE c std rst br win V fl lev 1 (errN c std rst br win V fl lev (s &&& heardN c std rst br win V fl lev 1)) (errN c std rst br win V fl lev ((t &&& heardN c std rst br win V fl lev 0) ||| (s &&& heardN c std rst br win V fl lev 1))) = _
    rw [errN_or, errN_heard, errN_heard, Nat.or_comm]
/-- the model's memory behind laysAppeal -/
def MSIT (c : Nat) (std rst : Nat → Nat) (br : Nat → Int32) (win : Nat → Bool) (V : Nat → Nat) (fl : Nat → Int32) (lev ap : Nat) (I : Nat → Nat → Int32) : Prop := I 265 58 = Int32.ofNat lev ∧ I 265 59 = Int32.ofNat ap ∧ I 265 60 = Int32.ofNat (heardN c std rst br win V fl lev 0) ∧ I 265 61 = Int32.ofNat (heardN c std rst br win V fl lev 1)
theorem MSIT_on (H : onlyM f5 I J) (X : MSIT c std rst br win V fl lev ap I) : MSIT c std rst br win V fl lev ap J := by
  obtain ⟨h1, h2, h3, h4⟩ := X
  refine ⟨?_, ?_, ?_, ?_⟩
  · rw [onlyM_get H (by unfold f5; omega)]; exact h1
  · rw [onlyM_get H (by unfold f5; omega)]; exact h2
  · rw [onlyM_get H (by unfold f5; omega)]; exact h3
  · rw [onlyM_get H (by unfold f5; omega)]; exact h4
theorem c249s (hR : LYR R) (X : MTx c std rst br win I) (M : MNd w p lev V fl I) (hl : lev = 1 ∨ lev = 2) (Z : MSIT c std rst br win V fl lev ap I) (a2 : ap < 2) (q0 : s < 256) (q1 : t < 256) :
    ∃ J, cf (d + 3) 249 [.ref 265, .int (Int32.ofNat s), .int (Int32.ofNat t)] (SH n, I, L, R, nc, ns, nx) = some (.inl (some (.int (outE c std rst br win V fl lev ap (s &&& errS c std rst br win V fl lev ap) ((s &&& errS c std rst br win V fl lev ap) ||| (t &&& errS c std rst br win V fl lev (1 - ap)))))), (SH n, J, L, R, nc, ns, nx)) ∧ onlyM f5 I J := by
  obtain ⟨J, e, o⟩ := c249 (d := d) (n := n) (L := L) (nc := nc) (ns := ns) (nx := nx) hR X M hl Z.2.1 a2 Z.1 Z.2.2.1 Z.2.2.2 q0 q1
  rw [byE a2] at e
  exact ⟨J, e, o⟩
theorem c249o (hR : LYR R) (X : MTx c std rst br win I) (M : MNd w p lev V fl I) (hl : lev = 1 ∨ lev = 2) (Z : MSIT c std rst br win V fl lev ap I) (a2 : ap < 2) (q0 : s < 256) :
    ∃ J, cf (d + 3) 249 [.ref 265, .int (Int32.ofNat s), .int 0] (SH n, I, L, R, nc, ns, nx) = some (.inl (some (.int (ogI c std rst br win V fl lev ap (s &&& errS c std rst br win V fl lev ap)))), (SH n, J, L, R, nc, ns, nx)) ∧ onlyM f5 I J := by
  obtain ⟨J, e, o⟩ := c249s (d := d) (n := n) (L := L) (nc := nc) (ns := ns) (nx := nx) hR X M hl Z a2 q0 (t := 0) (by omega)
  rw [Nat.zero_and, Nat.or_zero] at e
  exact ⟨J, e, o⟩
theorem all_n (hc8 : c ≤ 8) (hc : I 265 17 = Int32.ofNat c) : cf d 187 [.ref 265] (SH n, I, L, R, nc, ns, nx) = some (.inl (some (.int (Int32.ofNat (2 ^ c - 1)))), (SH n, I, L, R, nc, ns, nx)) := by
  rw [c187, hc, sh_all c (by omega)]
/-- the model's best, from its loop on -/
theorem l248 (hR : LYR R) (X : MTx c std rst br win I) (M : MNd w p lev V fl I) (hl : lev = 1 ∨ lev = 2) (Z : MSIT c std rst br win V fl lev ap I) (a2 : ap < 2) (hp : pg < 2147483648) (h0 : pgM 0 rst c = 0) (hpm : ∀ s, s < 256 → pgM s rst c < 2147483648) {q : Int32} :
    ∃ f J, rf (d + 4) 248 39 [some (.ref 265), some (.int (Int32.ofNat pg)), some (.int q), none, none, none, none] [] (SH n, I, L, R, nc, ns, nx) = some (.inl (some (.int (if q = 0 then ogI c std rst br win V fl lev ap (f &&& errS c std rst br win V fl lev ap) else Int32.ofNat f))), (SH n, J, L, R, nc, ns, nx)) ∧ onlyM f5 I J ∧ isBest (fun s => rkN (ogI c std rst br win V fl lev ap (s &&& errS c std rst br win V fl lev ap))) (fun s => s < 2 ^ c ∧ pgM s rst c ≤ pg) f := by
  have hc8 := X.1
  have P8 := p2le hc8
  have P1 : 0 < 2 ^ c := Nat.two_pow_pos c
  obtain ⟨J0, E0, o0⟩ := c249o (d := d) (n := n) (L := L) (nc := nc) (ns := ns) (nx := nx) hR X M hl Z a2 (s := 0) (by omega)
  have z0 : Int32.ofNat 0 = 0 := rfl
  rw [z0] at E0
  simp only [e248_0, e248_1, e248_2, e248_3, e248_5, e248_8, e248_11, e248_12, e248_15, e248_16, e248_19, e248_22, e248_23, e248_26, e248_27, e248_30, e248_31, e248_34, e248_37, e248_38, e248_39, e248_40, e248_41, e248_42, e248_43, e248_44, e248_47, e248_49, e248_50, e248_54, e248_55, e248_58, e248_61, e248_62, e248_64, e248_67, e248_68, e248_71, e248_74, e248_75, e248_77, e248_78, e248_81, e248_83, e248_85, e248_88, e248_90, e248_93, e248_96, e248_98, e248_101, e248_103, e248_106, e248_109, e248_111, e248_114, e248_115, e248_118, e248_121, e248_124, e248_126, e248_127, e248_129, e248_131, e248_134, e248_137, e248_138, e248_141, e248_142, e248_145, e248_147, rk_n, rk_v, nl_n, nl_i, nl_r, cat_n, ip_cat_int, ip_cat_ref, ip_cat_long, ip_rf_some, Nat.reduceAdd, Nat.reduceLeDiff, Nat.reduceLT, Nat.le_refl, Nat.zero_le, E0]
  refine Exists.elim (for_ex (c := 2 ^ c - 1) (fun k (x : Nat × Option Value × (Nat → Nat → Int32)) => rf (d + 4) 248 52 [some (.ref 265), some (.int (Int32.ofNat pg)), some (.int q), some (.int (Int32.ofNat x.1)), some (.int (ogI c std rst br win V fl lev ap (x.1 &&& errS c std rst br win V fl lev ap))), some (.int (Int32.ofNat (k + 1))), x.2.1] [] (SH n, x.2.2, L, R, nc, ns, nx)) (fun k x => onlyM f5 I x.2.2 ∧ (x.1 ≤ k ∧ pgM x.1 rst c ≤ pg) ∧ x.1 < 2 ^ c ∧ ∀ t, t < k + 1 → pgM t rst c ≤ pg → val (fun s => rkN (ogI c std rst br win V fl lev ap (s &&& errS c std rst br win V fl lev ap))) x.1 ≤ val (fun s => rkN (ogI c std rst br win V fl lev ap (s &&& errS c std rst br win V fl lev ap))) t) ?_ (0, none, J0) ?_) ?_
  · rintro k ⟨f, l6, J⟩ hk ⟨o1, ⟨a0, a1⟩, a3, a4⟩
    dsimp only at o1 a0 a1 a3 a4 ⊢
    have X1 := MTx_on (onlyM_mono o1 (fun _ => f5_scr)) X
    have M1 := MNd_on (onlyM_mono o1 (fun _ => f5_scr)) M
    have Z1 := MSIT_on o1 Z
    have s8 : k + 1 < 256 := by omega
    have f8 : f < 256 := by omega
    have lk : k + 1 < 2147483648 := by omega
    have lc : 2 ^ c - 1 < 2147483648 := by omega
    have AL := all_n (d := d + 3) (n := n) (L := L) (R := R) (nc := nc) (ns := ns) (nx := nx) hc8 X1.2.1
    have g1 : (Int32.ofNat (2 ^ c - 1) < Int32.ofNat (k + 1)) = False := eq_false (fun e => by
      have := (nu_lt lc lk).mp e
      omega)
    have PG := c247 (d := d + 2) (n := n) (L := L) (nc := nc) (ns := ns) (nx := nx) hR X1 s8
    have gp : (Int32.ofNat (pgM (k + 1) rst c) ≤ Int32.ofNat pg) = (pgM (k + 1) rst c ≤ pg) := nu_ge (hpm _ s8) hp
    obtain ⟨J1, E1, o2⟩ := c249o (d := d) (n := n) (L := L) (nc := nc) (ns := ns) (nx := nx) hR X1 M1 hl Z1 a2 (s := k + 1) s8
    have o3 := onlyM_tr o1 o2
    have rs := rkN_le (ogI c std rst br win V fl lev ap ((k + 1) &&& errS c std rst br win V fl lev ap))
    have rff := rkN_le (ogI c std rst br win V fl lev ap (f &&& errS c std rst br win V fl lev ap))
    have lr : (Int32.ofNat (rkN (ogI c std rst br win V fl lev ap ((k + 1) &&& errS c std rst br win V fl lev ap))) < Int32.ofNat (rkN (ogI c std rst br win V fl lev ap (f &&& errS c std rst br win V fl lev ap)))) = (rkN (ogI c std rst br win V fl lev ap ((k + 1) &&& errS c std rst br win V fl lev ap)) < rkN (ogI c std rst br win V fl lev ap (f &&& errS c std rst br win V fl lev ap))) := propext (nu_lt (by omega) (by omega))
    have er : (Int32.ofNat (rkN (ogI c std rst br win V fl lev ap ((k + 1) &&& errS c std rst br win V fl lev ap))) = Int32.ofNat (rkN (ogI c std rst br win V fl lev ap (f &&& errS c std rst br win V fl lev ap)))) = (rkN (ogI c std rst br win V fl lev ap ((k + 1) &&& errS c std rst br win V fl lev ap)) = rkN (ogI c std rst br win V fl lev ap (f &&& errS c std rst br win V fl lev ap))) := nu_eq (by omega) (by omega)
    have p1 := pop_le _ s8
    have p2 := pop_le _ f8
    have lb : (Int32.ofNat (pop (k + 1)) < Int32.ofNat (pop f)) = (pop (k + 1) < pop f) := propext (nu_lt (by omega) (by omega))
    have VL := val_lt (r := fun s => rkN (ogI c std rst br win V fl lev ap (s &&& errS c std rst br win V fl lev ap))) s8 f8 rs rff
    unfold smN at VL
    rw [decide_eq_true_eq] at VL
    have keep : (pg < pgM (k + 1) rst c ∨ ¬ val (fun s => rkN (ogI c std rst br win V fl lev ap (s &&& errS c std rst br win V fl lev ap))) (k + 1) < val (fun s => rkN (ogI c std rst br win V fl lev ap (s &&& errS c std rst br win V fl lev ap))) f) → ∀ t, t < k + 1 + 1 → pgM t rst c ≤ pg → val (fun s => rkN (ogI c std rst br win V fl lev ap (s &&& errS c std rst br win V fl lev ap))) f ≤ val (fun s => rkN (ogI c std rst br win V fl lev ap (s &&& errS c std rst br win V fl lev ap))) t := by
      intro q t ht hA
      by_cases e : t = k + 1
      · subst e
        rcases q with q | q
        · omega
        · omega
      · exact a4 t (by omega) hA
    have take : val (fun s => rkN (ogI c std rst br win V fl lev ap (s &&& errS c std rst br win V fl lev ap))) (k + 1) < val (fun s => rkN (ogI c std rst br win V fl lev ap (s &&& errS c std rst br win V fl lev ap))) f → ∀ t, t < k + 1 + 1 → pgM t rst c ≤ pg → val (fun s => rkN (ogI c std rst br win V fl lev ap (s &&& errS c std rst br win V fl lev ap))) (k + 1) ≤ val (fun s => rkN (ogI c std rst br win V fl lev ap (s &&& errS c std rst br win V fl lev ap))) t := by
      intro q t ht hA
      by_cases e : t = k + 1
      · subst e; omega
      · have := a4 t (by omega) hA
        omega
    by_cases q1 : pgM (k + 1) rst c ≤ pg
    · by_cases q2 : rkN (ogI c std rst br win V fl lev ap ((k + 1) &&& errS c std rst br win V fl lev ap)) < rkN (ogI c std rst br win V fl lev ap (f &&& errS c std rst br win V fl lev ap))
      · refine ⟨(f, some (.int (ogI c std rst br win V fl lev ap ((k + 1) &&& errS c std rst br win V fl lev ap))), J1), ⟨o3, ⟨by omega, a1⟩, a3, keep (Or.inr (fun e => by have := VL.mp e; omega))⟩, ?_⟩
        rw [e248_52]
        simp only [e248_0, e248_1, e248_2, e248_3, e248_5, e248_8, e248_11, e248_12, e248_15, e248_16, e248_19, e248_22, e248_23, e248_26, e248_27, e248_30, e248_31, e248_34, e248_37, e248_38, e248_39, e248_40, e248_41, e248_42, e248_43, e248_44, e248_47, e248_49, e248_50, e248_54, e248_55, e248_58, e248_61, e248_62, e248_64, e248_67, e248_68, e248_71, e248_74, e248_75, e248_77, e248_78, e248_81, e248_83, e248_85, e248_88, e248_90, e248_93, e248_96, e248_98, e248_101, e248_103, e248_106, e248_109, e248_111, e248_114, e248_115, e248_118, e248_121, e248_124, e248_126, e248_127, e248_129, e248_131, e248_134, e248_137, e248_138, e248_141, e248_142, e248_145, e248_147, rk_n, rk_v, nl_n, nl_i, nl_r, cat_n, ip_cat_int, ip_cat_ref, ip_cat_long, ip_rf_some, Nat.reduceAdd, Nat.reduceLeDiff, Nat.reduceLT, Nat.le_refl, Nat.zero_le, AL, g1, PG, gp, q1, E1, c250, lr, q2, nu_1, Bool.false_eq_true, Bool.true_eq_false, if_true, if_false, not_true_eq_false, not_false_eq_true, zle, eq_self]
      · by_cases q3 : rkN (ogI c std rst br win V fl lev ap ((k + 1) &&& errS c std rst br win V fl lev ap)) = rkN (ogI c std rst br win V fl lev ap (f &&& errS c std rst br win V fl lev ap))
        · by_cases q4 : pop (k + 1) < pop f
          · refine ⟨(k + 1, some (.int (ogI c std rst br win V fl lev ap ((k + 1) &&& errS c std rst br win V fl lev ap))), J1), ⟨o3, ⟨Nat.le_refl _, q1⟩, by show k + 1 < 2 ^ c; omega, take (VL.mpr (Or.inr ⟨q3, Or.inl q4⟩))⟩, ?_⟩
            rw [e248_52]
            simp only [e248_0, e248_1, e248_2, e248_3, e248_5, e248_8, e248_11, e248_12, e248_15, e248_16, e248_19, e248_22, e248_23, e248_26, e248_27, e248_30, e248_31, e248_34, e248_37, e248_38, e248_39, e248_40, e248_41, e248_42, e248_43, e248_44, e248_47, e248_49, e248_50, e248_54, e248_55, e248_58, e248_61, e248_62, e248_64, e248_67, e248_68, e248_71, e248_74, e248_75, e248_77, e248_78, e248_81, e248_83, e248_85, e248_88, e248_90, e248_93, e248_96, e248_98, e248_101, e248_103, e248_106, e248_109, e248_111, e248_114, e248_115, e248_118, e248_121, e248_124, e248_126, e248_127, e248_129, e248_131, e248_134, e248_137, e248_138, e248_141, e248_142, e248_145, e248_147, rk_n, rk_v, nl_n, nl_i, nl_r, cat_n, ip_cat_int, ip_cat_ref, ip_cat_long, ip_rf_some, Nat.reduceAdd, Nat.reduceLeDiff, Nat.reduceLT, Nat.le_refl, Nat.zero_le, AL, g1, PG, gp, q1, E1, c250, lr, er, q2, q3, c226 s8, c226 f8, lb, q4, nu_1, Bool.false_eq_true, Bool.true_eq_false, if_true, if_false, not_true_eq_false, not_false_eq_true, zle, eq_self, Int32.lt_irrefl]
          · refine ⟨(f, some (.int (ogI c std rst br win V fl lev ap ((k + 1) &&& errS c std rst br win V fl lev ap))), J1), ⟨o3, ⟨by omega, a1⟩, a3, keep (Or.inr (fun e => by have := VL.mp e; omega))⟩, ?_⟩
            rw [e248_52]
            simp only [e248_0, e248_1, e248_2, e248_3, e248_5, e248_8, e248_11, e248_12, e248_15, e248_16, e248_19, e248_22, e248_23, e248_26, e248_27, e248_30, e248_31, e248_34, e248_37, e248_38, e248_39, e248_40, e248_41, e248_42, e248_43, e248_44, e248_47, e248_49, e248_50, e248_54, e248_55, e248_58, e248_61, e248_62, e248_64, e248_67, e248_68, e248_71, e248_74, e248_75, e248_77, e248_78, e248_81, e248_83, e248_85, e248_88, e248_90, e248_93, e248_96, e248_98, e248_101, e248_103, e248_106, e248_109, e248_111, e248_114, e248_115, e248_118, e248_121, e248_124, e248_126, e248_127, e248_129, e248_131, e248_134, e248_137, e248_138, e248_141, e248_142, e248_145, e248_147, rk_n, rk_v, nl_n, nl_i, nl_r, cat_n, ip_cat_int, ip_cat_ref, ip_cat_long, ip_rf_some, Nat.reduceAdd, Nat.reduceLeDiff, Nat.reduceLT, Nat.le_refl, Nat.zero_le, AL, g1, PG, gp, q1, E1, c250, lr, er, q2, q3, c226 s8, c226 f8, lb, q4, nu_1, Bool.false_eq_true, Bool.true_eq_false, if_true, if_false, not_true_eq_false, not_false_eq_true, zle, eq_self, Int32.lt_irrefl]
        · refine ⟨(k + 1, some (.int (ogI c std rst br win V fl lev ap ((k + 1) &&& errS c std rst br win V fl lev ap))), J1), ⟨o3, ⟨Nat.le_refl _, q1⟩, by show k + 1 < 2 ^ c; omega, take (VL.mpr (Or.inl (by omega)))⟩, ?_⟩
          rw [e248_52]
          simp only [e248_0, e248_1, e248_2, e248_3, e248_5, e248_8, e248_11, e248_12, e248_15, e248_16, e248_19, e248_22, e248_23, e248_26, e248_27, e248_30, e248_31, e248_34, e248_37, e248_38, e248_39, e248_40, e248_41, e248_42, e248_43, e248_44, e248_47, e248_49, e248_50, e248_54, e248_55, e248_58, e248_61, e248_62, e248_64, e248_67, e248_68, e248_71, e248_74, e248_75, e248_77, e248_78, e248_81, e248_83, e248_85, e248_88, e248_90, e248_93, e248_96, e248_98, e248_101, e248_103, e248_106, e248_109, e248_111, e248_114, e248_115, e248_118, e248_121, e248_124, e248_126, e248_127, e248_129, e248_131, e248_134, e248_137, e248_138, e248_141, e248_142, e248_145, e248_147, rk_n, rk_v, nl_n, nl_i, nl_r, cat_n, ip_cat_int, ip_cat_ref, ip_cat_long, ip_rf_some, Nat.reduceAdd, Nat.reduceLeDiff, Nat.reduceLT, Nat.le_refl, Nat.zero_le, AL, g1, PG, gp, q1, E1, c250, lr, er, q2, q3, nu_1, Bool.false_eq_true, Bool.true_eq_false, if_true, if_false, not_true_eq_false, not_false_eq_true, zle, eq_self]
    · refine ⟨(f, l6, J), ⟨o1, ⟨by omega, a1⟩, a3, keep (Or.inl (by omega))⟩, ?_⟩
      rw [e248_52]
      simp only [e248_0, e248_1, e248_2, e248_3, e248_5, e248_8, e248_11, e248_12, e248_15, e248_16, e248_19, e248_22, e248_23, e248_26, e248_27, e248_30, e248_31, e248_34, e248_37, e248_38, e248_39, e248_40, e248_41, e248_42, e248_43, e248_44, e248_47, e248_49, e248_50, e248_54, e248_55, e248_58, e248_61, e248_62, e248_64, e248_67, e248_68, e248_71, e248_74, e248_75, e248_77, e248_78, e248_81, e248_83, e248_85, e248_88, e248_90, e248_93, e248_96, e248_98, e248_101, e248_103, e248_106, e248_109, e248_111, e248_114, e248_115, e248_118, e248_121, e248_124, e248_126, e248_127, e248_129, e248_131, e248_134, e248_137, e248_138, e248_141, e248_142, e248_145, e248_147, rk_n, rk_v, nl_n, nl_i, nl_r, cat_n, ip_cat_int, ip_cat_ref, ip_cat_long, ip_rf_some, Nat.reduceAdd, Nat.reduceLeDiff, Nat.reduceLT, Nat.le_refl, Nat.zero_le, AL, g1, PG, gp, q1, nu_1, Bool.false_eq_true, Bool.true_eq_false, if_true, if_false, not_true_eq_false, not_false_eq_true, zle, eq_self]
  · refine ⟨o0, ⟨Nat.le_refl _, by show pgM 0 rst c ≤ pg; omega⟩, P1, ?_⟩
    intro t ht hA
    have : t = 0 := by omega
    subst this
    exact Nat.le_refl _
  · rintro ⟨f, l6, J⟩ ⟨⟨o1, ⟨a0, a1⟩, a3, a4⟩, e⟩
    dsimp only at o1 a0 a1 a3 a4
    refine ⟨f, J, ?_, o1, ⟨a3, a1⟩, by omega, ?_⟩
    · refine Eq.trans e ?_
      dsimp only
      have X1 := MTx_on (onlyM_mono o1 (fun _ => f5_scr)) X
      have AL := all_n (d := d + 3) (n := n) (L := L) (R := R) (nc := nc) (ns := ns) (nx := nx) hc8 X1.2.1
      have g1 : (Int32.ofNat (2 ^ c - 1) < Int32.ofNat (2 ^ c - 1 + 1)) = True := eq_true ((nu_lt (by omega) (by omega)).mpr (by omega))
      rw [e248_52]
      by_cases hq : q = 0
      · simp only [e248_0, e248_1, e248_2, e248_3, e248_5, e248_8, e248_11, e248_12, e248_15, e248_16, e248_19, e248_22, e248_23, e248_26, e248_27, e248_30, e248_31, e248_34, e248_37, e248_38, e248_39, e248_40, e248_41, e248_42, e248_43, e248_44, e248_47, e248_49, e248_50, e248_54, e248_55, e248_58, e248_61, e248_62, e248_64, e248_67, e248_68, e248_71, e248_74, e248_75, e248_77, e248_78, e248_81, e248_83, e248_85, e248_88, e248_90, e248_93, e248_96, e248_98, e248_101, e248_103, e248_106, e248_109, e248_111, e248_114, e248_115, e248_118, e248_121, e248_124, e248_126, e248_127, e248_129, e248_131, e248_134, e248_137, e248_138, e248_141, e248_142, e248_145, e248_147, rk_n, rk_v, nl_n, nl_i, nl_r, cat_n, ip_cat_int, ip_cat_ref, ip_cat_long, ip_rf_some, Nat.reduceAdd, Nat.reduceLeDiff, Nat.reduceLT, Nat.le_refl, Nat.zero_le, AL, g1, hq, Bool.false_eq_true, Bool.true_eq_false, if_true, if_false, not_true_eq_false, not_false_eq_true, zle, eq_self]
      · simp only [e248_0, e248_1, e248_2, e248_3, e248_5, e248_8, e248_11, e248_12, e248_15, e248_16, e248_19, e248_22, e248_23, e248_26, e248_27, e248_30, e248_31, e248_34, e248_37, e248_38, e248_39, e248_40, e248_41, e248_42, e248_43, e248_44, e248_47, e248_49, e248_50, e248_54, e248_55, e248_58, e248_61, e248_62, e248_64, e248_67, e248_68, e248_71, e248_74, e248_75, e248_77, e248_78, e248_81, e248_83, e248_85, e248_88, e248_90, e248_93, e248_96, e248_98, e248_101, e248_103, e248_106, e248_109, e248_111, e248_114, e248_115, e248_118, e248_121, e248_124, e248_126, e248_127, e248_129, e248_131, e248_134, e248_137, e248_138, e248_141, e248_142, e248_145, e248_147, rk_n, rk_v, nl_n, nl_i, nl_r, cat_n, ip_cat_int, ip_cat_ref, ip_cat_long, ip_rf_some, Nat.reduceAdd, Nat.reduceLeDiff, Nat.reduceLT, Nat.le_refl, Nat.zero_le, AL, g1, hq, Bool.false_eq_true, Bool.true_eq_false, if_true, if_false, not_true_eq_false, not_false_eq_true, zle, eq_self]
    · intro t ht hA
      exact a4 t (by omega) hA.2
end BM
