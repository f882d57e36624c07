/-! FATES: class and model -/
section FA
variable {n d a b T c s t z o w m p lev k side ap b0 b1 h0 h1 md C F B pg : Nat} {I J K : Nat → Nat → Int32} {L : Nat → Nat → Int64} {R : Nat → Nat → Option Nat} {nc ns : Nat} {nx : Bool} {x y j v lv hw0 : Int32} {h : ip_H} {f g std rst V : Nat → Nat} {win : Nat → Bool} {br fl : Nat → Int32}
theorem shl_n : ∀ f, f < 257 → ∀ k, k < 9 → Int32.ofNat f <<< (Int32.ofNat k &&& 31) = Int32.ofNat (f * 2 ^ k) := by decide +kernel
theorem errS_lt : errS c std rst br win V fl lev side < 2 ^ c := setN_lt _ c
theorem c155 (hR : LYR R) (hC : isC C) (X : CTx T c std rst br win I L) (N : CNd F B c lev V fl I) (S : SIT C T F B c std rst br win V fl lev ap I R) (a2 : ap < 2) : cf (d + 3) 155 [.ref C, .int x] (SH n, I, L, R, nc, ns, nx) = some (.inl (some (.int (Int32.ofNat (cn (fun s => decide (ogI c std rst br win V fl lev ap (s &&& errS c std rst br win V fl lev ap) = x)) (2 ^ c))))), (SH n, I, L, R, nc, ns, nx)) := by
  have hc8 := X.2.1
  have hT := X.1
  have hE : errS c std rst br win V fl lev ap < 2 ^ c := errS_lt
  have E8 : errS c std rst br win V fl lev ap < 256 := Nat.lt_of_lt_of_le hE (p2le hc8)
  have r0 := S.1
  have OC : ∀ s, s < 2 ^ c → cf (d + 2) 111 [.ref C, .int (Int32.ofNat s), .int 0] (SH n, I, L, R, nc, ns, nx) = some (.inl (some (.int (ogI c std rst br win V fl lev ap s))), (SH n, I, L, R, nc, ns, nx)) := by
    intro s hs
    have := c111 (d := d) (n := n) (nc := nc) (ns := ns) (nx := nx) hR hC X N S hs (o := 0) (Nat.two_pow_pos c)
    rw [Nat.or_zero] at this
    exact this
  have OE := c109 (d := d + 2) (n := n) (L := L) (nc := nc) (ns := ns) (nx := nx) hR hC S a2
  have P2 := pow_pop E8
  have P3 := pow_pop_le E8
  rw [fate_eq hc8 hE (fun s => decide (ogI c std rst br win V fl lev ap s = x))]
  generalize hEE : errS c std rst br win V fl lev ap = E at *
  simp only [en155, e155_0, e155_1, e155_4, e155_5, e155_6, e155_7, e155_8, e155_10, e155_11, e155_15, e155_16, e155_17, e155_20, e155_21, e155_24, e155_25, e155_27, e155_28, e155_31, e155_32, e155_35, e155_38, e155_40, e155_41, e155_44, e155_46, e155_49, e155_52, e155_53, e155_54, e155_57, e155_60, e155_61, e155_64, e155_65, e155_66, rk_n, rk_v, nl_n, nl_i, nl_r, cat_n, ip_cat_int, ip_cat_ref, ip_cat_long, ip_rf_some, Nat.reduceAdd, Nat.reduceLeDiff, Nat.reduceLT, Nat.le_refl, Nat.zero_le, hC, OE]
  refine Exists.elim (sub_walk E8 (fun k s (y : Nat) => rf (d + 3) 155 13 [some (.ref C), some (.int x), some (.int (Int32.ofNat E)), some (.int (Int32.ofNat y)), some (.int (Int32.ofNat s)), some (.int (Int32.ofNat k))] [] (SH n, I, L, R, nc, ns, nx)) (fun s y => y = cn (fun t => isS E t && decide (ogI c std rst br win V fl lev ap t = x)) s) ?_ ?_ 0 ?_) ?_
  · intro k s y hk hs hsE hy
    have s2 := sub_lt2 hE hsE
    have lk : k < 2147483648 := by omega
    have lp : 2 ^ pop E < 2147483648 := by omega
    have g1 : ¬ 2 ^ pop E ≤ k := by omega
    have Os := OC s s2
    refine ⟨_, rfl, ?_⟩
    rw [e155_13, cn, isS_iff.mpr hsE, ← hy]
    by_cases q : ogI c std rst br win V fl lev ap s = x
    · simp only [e155_0, e155_1, e155_4, e155_5, e155_6, e155_7, e155_8, e155_10, e155_11, e155_15, e155_16, e155_17, e155_20, e155_21, e155_24, e155_25, e155_27, e155_28, e155_31, e155_32, e155_35, e155_38, e155_40, e155_41, e155_44, e155_46, e155_49, e155_52, e155_53, e155_54, e155_57, e155_60, e155_61, e155_64, e155_65, e155_66, rk_n, rk_v, nl_n, nl_i, nl_r, cat_n, ip_cat_int, ip_cat_ref, ip_cat_long, ip_rf_some, Nat.reduceAdd, Nat.reduceLeDiff, Nat.reduceLT, Nat.le_refl, Nat.zero_le, hC, c19s E8, P2, nu_ge, lk, lp, g1, Os, q, c20s E8 hs, nu_1, decide_true, Bool.and_true, Bool.false_eq_true, Bool.true_eq_false, if_true, if_false, not_true_eq_false, not_false_eq_true, zle, eq_self]
    · simp only [e155_0, e155_1, e155_4, e155_5, e155_6, e155_7, e155_8, e155_10, e155_11, e155_15, e155_16, e155_17, e155_20, e155_21, e155_24, e155_25, e155_27, e155_28, e155_31, e155_32, e155_35, e155_38, e155_40, e155_41, e155_44, e155_46, e155_49, e155_52, e155_53, e155_54, e155_57, e155_60, e155_61, e155_64, e155_65, e155_66, rk_n, rk_v, nl_n, nl_i, nl_r, cat_n, ip_cat_int, ip_cat_ref, ip_cat_long, ip_rf_some, Nat.reduceAdd, Nat.reduceLeDiff, Nat.reduceLT, Nat.le_refl, Nat.zero_le, hC, c19s E8, P2, nu_ge, lk, lp, g1, Os, q, c20s E8 hs, nu_1, decide_false, Bool.and_false, Nat.add_zero, Bool.false_eq_true, Bool.true_eq_false, if_true, if_false, not_true_eq_false, not_false_eq_true, zle, eq_self]
  · intro s y hs hsE hy
    have : isS E s = false := by
      cases e : isS E s with
      | false => rfl
      | true => exact absurd (isS_iff.mp e) hsE
    rw [hy, cn, this]; rfl
  · rfl
  · rintro s ⟨y, hy, e⟩
    refine Eq.trans e ?_
    rw [← hy, e155_13]
    have pl : pop E ≤ c := by rw [pop_c hE hc8]; exact cntB_le E c
    have sb : Int32.ofNat c - Int32.ofNat (pop E) = Int32.ofNat (c - pop E) := (Int32.ofNat_sub c (pop E) pl).symm
    have yl := cn_le (fun t => isS E t && decide (ogI c std rst br win V fl lev ap t = x)) 256
    have SH1 := shl_n y (by omega) (c - pop E) (by omega)
    simp only [e155_0, e155_1, e155_4, e155_5, e155_6, e155_7, e155_8, e155_10, e155_11, e155_15, e155_16, e155_17, e155_20, e155_21, e155_24, e155_25, e155_27, e155_28, e155_31, e155_32, e155_35, e155_38, e155_40, e155_41, e155_44, e155_46, e155_49, e155_52, e155_53, e155_54, e155_57, e155_60, e155_61, e155_64, e155_65, e155_66, rk_n, rk_v, nl_n, nl_i, nl_r, cat_n, ip_cat_int, ip_cat_ref, ip_cat_long, ip_rf_some, Nat.reduceAdd, Nat.reduceLeDiff, Nat.reduceLT, Nat.le_refl, Nat.zero_le, hC, hT, r0, X.2.2.1, c19s E8, P2, sb, SH1, Int32.le_refl, Bool.false_eq_true, Bool.true_eq_false, if_true, if_false, not_true_eq_false, not_false_eq_true, zle, eq_self]
theorem l264 (hR : LYR R) (X : MTx c std rst br win I) (M : MNd w p lev V fl I) (hl : lev = 1 ∨ lev = 2) (Z : MSIT c std rst br win V fl lev ap I) (a2 : ap < 2) :
    ∃ J, rf (d + 4) 264 38 [some (.ref 265), some (.int x), none, none] [] (SH n, I, L, R, nc, ns, nx) = some (.inl (some (.int (Int32.ofNat (cn (fun s => decide (ogI c std rst br win V fl lev ap (s &&& errS c std rst br win V fl lev ap) = x)) (2 ^ c))))), (SH n, J, L, R, nc, ns, nx)) ∧ onlyM f5 I J := by
  have hc8 := X.1
  have P8 := p2le hc8
  have P1 : 0 < 2 ^ c := Nat.two_pow_pos c
  simp only [e264_0, e264_1, e264_2, e264_5, e264_8, e264_9, e264_12, e264_13, e264_14, e264_15, e264_18, e264_21, e264_22, e264_25, e264_26, e264_29, e264_30, e264_33, e264_36, e264_37, e264_38, e264_39, e264_40, e264_41, e264_43, e264_44, e264_47, e264_50, e264_51, e264_52, e264_53, e264_54, e264_57, e264_58, e264_61, e264_62, e264_65, e264_66, e264_67, e264_68, e264_71, e264_74, e264_75, rk_n, rk_v, nl_n, nl_i, nl_r, cat_n, ip_cat_int, ip_cat_ref, ip_cat_long, ip_rf_some, Nat.reduceAdd, Nat.reduceLeDiff, Nat.reduceLT, Nat.le_refl, Nat.zero_le]
  refine Exists.elim (for_ex (c := 2 ^ c) (fun k (J : Nat → Nat → Int32) => rf (d + 4) 264 42 [some (.ref 265), some (.int x), some (.int (Int32.ofNat (cn (fun s => decide (ogI c std rst br win V fl lev ap (s &&& errS c std rst br win V fl lev ap) = x)) k))), some (.int (Int32.ofNat k))] [] (SH n, J, L, R, nc, ns, nx)) (fun k J => onlyM f5 I J) ?_ I onlyM_refl) ?_
  · intro k J hk o1
    have X1 := MTx_on (onlyM_mono o1 (fun _ => f5_scr)) X
    have M1 := MNd_on (onlyM_mono o1 (fun _ => f5_scr)) M
    have Z1 := MSIT_on o1 Z
    have s8 : k < 256 := by omega
    have lk : k < 2147483648 := by omega
    have lc : 2 ^ c - 1 < 2147483648 := by omega
    have AL := all_n (d := d + 3) (n := n) (L := L) (R := R) (nc := nc) (ns := ns) (nx := nx) hc8 X1.2.1
    have g1 : (Int32.ofNat (2 ^ c - 1) < Int32.ofNat k) = False := eq_false (fun e => by
      have := (nu_lt lc lk).mp e
      omega)
    obtain ⟨J1, E1, o2⟩ := c249o (d := d) (n := n) (L := L) (nc := nc) (ns := ns) (nx := nx) hR X1 M1 hl Z1 a2 (s := k) s8
    refine ⟨J1, onlyM_tr o1 o2, ?_⟩
    rw [e264_42, cn]
    have a0 : ∀ q, Int32.ofNat q + 0 = Int32.ofNat q := fun q => nu_add (s := 0)
    by_cases q : ogI c std rst br win V fl lev ap (k &&& errS c std rst br win V fl lev ap) = x
    · simp only [e264_0, e264_1, e264_2, e264_5, e264_8, e264_9, e264_12, e264_13, e264_14, e264_15, e264_18, e264_21, e264_22, e264_25, e264_26, e264_29, e264_30, e264_33, e264_36, e264_37, e264_38, e264_39, e264_40, e264_41, e264_43, e264_44, e264_47, e264_50, e264_51, e264_52, e264_53, e264_54, e264_57, e264_58, e264_61, e264_62, e264_65, e264_66, e264_67, e264_68, e264_71, e264_74, e264_75, rk_n, rk_v, nl_n, nl_i, nl_r, cat_n, ip_cat_int, ip_cat_ref, ip_cat_long, ip_rf_some, Nat.reduceAdd, Nat.reduceLeDiff, Nat.reduceLT, Nat.le_refl, Nat.zero_le, AL, g1, E1, q, nu_1, decide_true, Bool.false_eq_true, Bool.true_eq_false, if_true, if_false, not_true_eq_false, not_false_eq_true, zle, eq_self]
    · simp only [e264_0, e264_1, e264_2, e264_5, e264_8, e264_9, e264_12, e264_13, e264_14, e264_15, e264_18, e264_21, e264_22, e264_25, e264_26, e264_29, e264_30, e264_33, e264_36, e264_37, e264_38, e264_39, e264_40, e264_41, e264_43, e264_44, e264_47, e264_50, e264_51, e264_52, e264_53, e264_54, e264_57, e264_58, e264_61, e264_62, e264_65, e264_66, e264_67, e264_68, e264_71, e264_74, e264_75, rk_n, rk_v, nl_n, nl_i, nl_r, cat_n, ip_cat_int, ip_cat_ref, ip_cat_long, ip_rf_some, Nat.reduceAdd, Nat.reduceLeDiff, Nat.reduceLT, Nat.le_refl, Nat.zero_le, AL, g1, E1, q, nu_1, a0, decide_false, Nat.add_zero, Bool.false_eq_true, Bool.true_eq_false, if_true, if_false, not_true_eq_false, not_false_eq_true, zle, eq_self]
  · rintro J ⟨o1, e⟩
    refine ⟨J, ?_, o1⟩
    refine Eq.trans e ?_
    have X1 := MTx_on (onlyM_mono o1 (fun _ => f5_scr)) X
    have AL := all_n (d := d + 3) (n := n) (L := L) (R := R) (nc := nc) (ns := ns) (nx := nx) hc8 X1.2.1
    have g1 : (Int32.ofNat (2 ^ c - 1) < Int32.ofNat (2 ^ c)) = True := eq_true ((nu_lt (by omega) (by omega)).mpr (by omega))
    rw [e264_42]
    simp only [e264_0, e264_1, e264_2, e264_5, e264_8, e264_9, e264_12, e264_13, e264_14, e264_15, e264_18, e264_21, e264_22, e264_25, e264_26, e264_29, e264_30, e264_33, e264_36, e264_37, e264_38, e264_39, e264_40, e264_41, e264_43, e264_44, e264_47, e264_50, e264_51, e264_52, e264_53, e264_54, e264_57, e264_58, e264_61, e264_62, e264_65, e264_66, e264_67, e264_68, e264_71, e264_74, e264_75, rk_n, rk_v, nl_n, nl_i, nl_r, cat_n, ip_cat_int, ip_cat_ref, ip_cat_long, ip_rf_some, Nat.reduceAdd, Nat.reduceLeDiff, Nat.reduceLT, Nat.le_refl, Nat.zero_le, AL, g1, Bool.false_eq_true, Bool.true_eq_false, if_true, if_false, not_true_eq_false, not_false_eq_true, zle, eq_self]
end FA
