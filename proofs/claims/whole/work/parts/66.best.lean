/-! BEST: class (bestSet) and model -/
def rkN (x : Int32) : Nat := if x = 2 then 2 else if x = 3 then 1 else 0
theorem rkN_le (x : Int32) : rkN x ≤ 2 := by unfold rkN; split <;> (try split) <;> omega
theorem rkN_of (x : Int32) : (if x = 2 then (2 : Int32) else if x = 3 then 1 else 0) = Int32.ofNat (rkN x) := by unfold rkN; split <;> (try split) <;> rfl
/-- the less the better: rank, then how many, then the bits -/
def val (r : Nat → Nat) (s : Nat) : Nat := (2 - r s) * 65536 + pop s * 256 + s
def isBest (r : Nat → Nat) (A : Nat → Prop) (f : Nat) : Prop := A f ∧ f < 256 ∧ ∀ t, t < 256 → A t → val r f ≤ val r t
theorem best_uniq {r : Nat → Nat} {A : Nat → Prop} {f g : Nat} (h1 : isBest r A f) (h2 : isBest r A g) : f = g := by
  have a1 := h1.2.2 g h2.2.1 h2.1
  have a2 := h2.2.2 f h1.2.1 h1.1
  have b1 := h1.2.1
  have b2 := h2.2.1
  unfold val at a1 a2
  have p1 := pop_le f b1
  have p2 := pop_le g b2
  omega
theorem val_lt {r : Nat → Nat} {s f : Nat} (hs : s < 256) (hf : f < 256) (rs : r s ≤ 2) (rf : r f ≤ 2) : val r s < val r f ↔ r f < r s ∨ (r s = r f ∧ smN s f = true) := by
  have p1 := pop_le s hs
  have p2 := pop_le f hf
  unfold val smN
  rw [decide_eq_true_eq]
  constructor
  · intro h; omega
  · intro h; omega
section BE
variable {n d a b T c s t z o w m p lev k side ap b0 b1 h0 h1 md C F B pg : Nat} {I J K : Nat → Nat → Int32} {L : Nat → Nat → Int64} {R : Nat → Nat → Option Nat} {nc ns : Nat} {nx : Bool} {x y j v lv hw0 : Int32} {h : ip_H} {f g std rst V : Nat → Nat} {win : Nat → Bool} {br fl : Nat → Int32}
theorem c132n (x : Int32) : cf d 132 [.int x] h = some (.inl (some (.int (Int32.ofNat (rkN x)))), h) := by rw [c132, rkN_of]
theorem c250 (x : Int32) : cf d 250 [.int x] h = some (.inl (some (.int (Int32.ofNat (rkN x)))), h) := by
  rw [← rkN_of]
  by_cases g1 : x = 2
  · simp only [en250, e250_0, e250_1, e250_2, e250_5, e250_6, e250_9, e250_10, e250_11, e250_14, e250_15, e250_18, e250_19, rk_n, rk_v, nl_n, nl_i, nl_r, cat_n, ip_cat_int, ip_cat_ref, ip_cat_long, ip_rf_some, Nat.reduceAdd, Nat.reduceLeDiff, Nat.reduceLT, Nat.le_refl, Nat.zero_le, g1, Bool.false_eq_true, Bool.true_eq_false, if_true, if_false, not_true_eq_false, not_false_eq_true, zle, eq_self]
  · by_cases g2 : x = 3
    · simp only [en250, e250_0, e250_1, e250_2, e250_5, e250_6, e250_9, e250_10, e250_11, e250_14, e250_15, e250_18, e250_19, rk_n, rk_v, nl_n, nl_i, nl_r, cat_n, ip_cat_int, ip_cat_ref, ip_cat_long, ip_rf_some, Nat.reduceAdd, Nat.reduceLeDiff, Nat.reduceLT, Nat.le_refl, Nat.zero_le, g2, Bool.false_eq_true, Bool.true_eq_false, if_true, if_false, not_true_eq_false, not_false_eq_true, zle, eq_self, show ¬ (3 : Int32) = 2 by decide]
    · simp only [en250, e250_0, e250_1, e250_2, e250_5, e250_6, e250_9, e250_10, e250_11, e250_14, e250_15, e250_18, e250_19, rk_n, rk_v, nl_n, nl_i, nl_r, cat_n, ip_cat_int, ip_cat_ref, ip_cat_long, ip_rf_some, Nat.reduceAdd, Nat.reduceLeDiff, Nat.reduceLT, Nat.le_refl, Nat.zero_le, g1, g2, Bool.false_eq_true, Bool.true_eq_false, if_true, if_false, not_true_eq_false, not_false_eq_true, zle, eq_self]
/-- alone: the other side silent -/
def ogI (c : Nat) (std rst : Nat → Nat) (br : Nat → Int32) (win : Nat → Bool) (V : Nat → Nat) (fl : Nat → Int32) (lev ap s : Nat) : Int32 := outE c std rst br win V fl lev ap s s
theorem pow_pop {o : Nat} (ho : o < 256) : (1 : Int32) <<< (Int32.ofNat (pop o) &&& 31) = Int32.ofNat (2 ^ pop o) := by
  have := pop_le o ho
  have e : ∀ k, k < 9 → (1 : Int32) <<< (Int32.ofNat k &&& 31) = Int32.ofNat (2 ^ k) := by decide +kernel
  exact e _ (by omega)
theorem pow_pop_le {o : Nat} (ho : o < 256) : 2 ^ pop o ≤ 256 := p2le (pop_le o ho)
theorem sub_lt2 {s E c : Nat} (hE : E < 2 ^ c) (h : s &&& E = s) : s < 2 ^ c := by rw [← h]; exact Nat.lt_of_le_of_lt Nat.and_le_right hE
theorem c130 (hR : LYR R) (hC : isC C) (X : CTx T c std rst br win I L) (N : CNd F B c lev V fl I) (S : SIT C T F B c std rst br win V fl lev ap I R) {E : Nat} (hE : E < 2 ^ c) (hp : pg < 2147483648) (h0 : pgC 0 rst c = 0) :
    ∃ f, cf (d + 3) 130 [.ref C, .int (Int32.ofNat E), .int (Int32.ofNat pg)] (SH n, I, L, R, nc, ns, nx) = some (.inl (some (.int (Int32.ofNat f))), (SH n, I, L, R, nc, ns, nx)) ∧ isBest (fun s => rkN (ogI c std rst br win V fl lev ap s)) (fun s => s &&& E = s ∧ pgC s rst c ≤ pg) f := by
  have hc8 := X.2.1
  have hT := X.1
  have E8 : E < 256 := Nat.lt_of_lt_of_le hE (p2le hc8)
  have r0 := S.1
  have OC : ∀ s, s < 2 ^ c → cf (d + 2) 111 [.ref C, .int (Int32.ofNat s), .int 0] (SH n, I, L, R, nc, ns, nx) = some (.inl (some (.int (ogI c std rst br win V fl lev ap s))), (SH n, I, L, R, nc, ns, nx)) := by
    intro s hs
    have := c111 (d := d) (n := n) (nc := nc) (ns := ns) (nx := nx) hR hC X N S hs (o := 0) (Nat.two_pow_pos c)
    rw [Nat.or_zero] at this
    exact this
  have P2 := pow_pop E8
  have P3 := pow_pop_le E8
  simp only [en130, e130_0, e130_1, e130_2, e130_3, e130_5, e130_6, e130_8, e130_9, e130_13, e130_14, e130_15, e130_18, e130_19, e130_22, e130_23, e130_26, e130_28, e130_31, e130_32, e130_35, e130_36, e130_38, e130_39, e130_42, e130_45, e130_47, e130_49, e130_51, e130_54, e130_56, e130_58, e130_61, e130_63, e130_64, e130_67, e130_70, e130_72, e130_74, e130_76, e130_77, e130_79, e130_80, e130_83, e130_85, e130_88, e130_91, e130_92, rk_n, rk_v, nl_n, nl_i, nl_r, cat_n, ip_cat_int, ip_cat_ref, ip_cat_long, ip_rf_some, Nat.reduceAdd, Nat.reduceLeDiff, Nat.reduceLT, Nat.le_refl, Nat.zero_le]
  refine Exists.elim (sub_walk E8 (fun k s (x : Nat × Int32 × Option Value) => rf (d + 3) 130 11 [some (.ref C), some (.int (Int32.ofNat E)), some (.int (Int32.ofNat pg)), some (.int (Int32.ofNat x.1)), some (.int x.2.1), some (.int (Int32.ofNat s)), some (.int (Int32.ofNat k)), x.2.2] [] (SH n, I, L, R, nc, ns, nx)) (fun s x => (s = 0 ∧ x.1 = 0 ∧ x.2.1 = -1) ∨ (0 < s ∧ x.2.1 = Int32.ofNat (rkN (ogI c std rst br win V fl lev ap x.1)) ∧ (x.1 &&& E = x.1 ∧ pgC x.1 rst c ≤ pg) ∧ x.1 < 256 ∧ ∀ t, t < s → t &&& E = t ∧ pgC t rst c ≤ pg → val (fun s => rkN (ogI c std rst br win V fl lev ap s)) x.1 ≤ val (fun s => rkN (ogI c std rst br win V fl lev ap s)) t)) ?_ ?_ (0, -1, none) ?_) ?_
  · rintro k s ⟨f, hi, l7⟩ hk hs hsE H
    dsimp only at H ⊢
    have s2 := sub_lt2 hE hsE
    have lk : k < 2147483648 := by omega
    have lp : 2 ^ pop E < 2147483648 := by omega
    have g1 : ¬ 2 ^ pop E ≤ k := by omega
    have PG := c131 (d := d + 1) (n := n) (L := L) (nc := nc) (ns := ns) (nx := nx) hR hT X.2.2.1 hc8 X.2.2.2.2.1 hs
    have lpg := pgC_le (c := c) (f := rst) hs (fun k hk => (X.2.2.2.2.1 k hk).2) c (by omega)
    have lpg2 : pgC s rst c < 2147483648 := by omega
    have gp : (Int32.ofNat pg < Int32.ofNat (pgC s rst c)) = (pg < pgC s rst c) := propext (nu_lt hp lpg2)
    have Os := OC s s2
    have rs := rkN_le (ogI c std rst br win V fl lev ap s)
    rcases H with ⟨e0, ef, eh⟩ | ⟨e0, eh, ⟨a1, a2⟩, a3, a4⟩
    · subst e0 ef eh
      have q1 : ¬ pg < pgC 0 rst c := by omega
      have gm : ((-1 : Int32) < Int32.ofNat (rkN (ogI c std rst br win V fl lev ap 0))) = True := eq_true (by
        rw [Int32.lt_iff_toInt_lt, nu_int (by omega)]
        have : (-1 : Int32).toInt = -1 := by decide
        omega)
      refine ⟨(0, Int32.ofNat (rkN (ogI c std rst br win V fl lev ap 0)), some (.int (Int32.ofNat (rkN (ogI c std rst br win V fl lev ap 0))))), Or.inr ⟨by omega, rfl, ⟨hsE, by show pgC 0 rst c ≤ pg; omega⟩, hs, ?_⟩, ?_⟩
      · intro t ht hA
        have : t = 0 := by omega
        subst this
        exact Nat.le_refl _
      · rw [e130_11]
        simp only [e130_0, e130_1, e130_2, e130_3, e130_5, e130_6, e130_8, e130_9, e130_13, e130_14, e130_15, e130_18, e130_19, e130_22, e130_23, e130_26, e130_28, e130_31, e130_32, e130_35, e130_36, e130_38, e130_39, e130_42, e130_45, e130_47, e130_49, e130_51, e130_54, e130_56, e130_58, e130_61, e130_63, e130_64, e130_67, e130_70, e130_72, e130_74, e130_76, e130_77, e130_79, e130_80, e130_83, e130_85, e130_88, e130_91, e130_92, rk_n, rk_v, nl_n, nl_i, nl_r, cat_n, ip_cat_int, ip_cat_ref, ip_cat_long, ip_rf_some, Nat.reduceAdd, Nat.reduceLeDiff, Nat.reduceLT, Nat.le_refl, Nat.zero_le, hC, hT, r0, c19s E8, P2, nu_ge, lk, lp, g1, PG, gp, q1, Os, c132n, gm, c20s E8 hs, nu_1, Bool.false_eq_true, Bool.true_eq_false, if_true, if_false, not_true_eq_false, not_false_eq_true, zle, eq_self]
    · subst eh
      have rff := rkN_le (ogI c std rst br win V fl lev ap f)
      have lr : (Int32.ofNat (rkN (ogI c std rst br win V fl lev ap f)) < Int32.ofNat (rkN (ogI c std rst br win V fl lev ap s))) = (rkN (ogI c std rst br win V fl lev ap f) < rkN (ogI c std rst br win V fl lev ap s)) := propext (nu_lt (by omega) (by omega))
      have er : (Int32.ofNat (rkN (ogI c std rst br win V fl lev ap s)) = Int32.ofNat (rkN (ogI c std rst br win V fl lev ap f))) = (rkN (ogI c std rst br win V fl lev ap s) = rkN (ogI c std rst br win V fl lev ap f)) := nu_eq (by omega) (by omega)
      have VL := val_lt (r := fun s => rkN (ogI c std rst br win V fl lev ap s)) hs a3 rs rff
      try dsimp only at VL
      have keep : (pg < pgC s rst c ∨ ¬ val (fun s => rkN (ogI c std rst br win V fl lev ap s)) s < val (fun s => rkN (ogI c std rst br win V fl lev ap s)) f) → ∀ t, t < s + 1 → t &&& E = t ∧ pgC t rst c ≤ pg → val (fun s => rkN (ogI c std rst br win V fl lev ap s)) f ≤ val (fun s => rkN (ogI c std rst br win V fl lev ap s)) t := by
        intro q t ht hA
        by_cases e : t = s
        · subst e
          rcases q with q | q
          · omega
          · omega
        · exact a4 t (by omega) hA
      have take : val (fun s => rkN (ogI c std rst br win V fl lev ap s)) s < val (fun s => rkN (ogI c std rst br win V fl lev ap s)) f → ∀ t, t < s + 1 → t &&& E = t ∧ pgC t rst c ≤ pg → val (fun s => rkN (ogI c std rst br win V fl lev ap s)) s ≤ val (fun s => rkN (ogI c std rst br win V fl lev ap s)) t := by
        intro q t ht hA
        by_cases e : t = s
        · subst e; omega
        · have := a4 t (by omega) hA
          omega
      by_cases q1 : pg < pgC s rst c
      · refine ⟨(f, Int32.ofNat (rkN (ogI c std rst br win V fl lev ap f)), l7), Or.inr ⟨by omega, rfl, ⟨a1, a2⟩, a3, keep (Or.inl q1)⟩, ?_⟩
        rw [e130_11]
        simp only [e130_0, e130_1, e130_2, e130_3, e130_5, e130_6, e130_8, e130_9, e130_13, e130_14, e130_15, e130_18, e130_19, e130_22, e130_23, e130_26, e130_28, e130_31, e130_32, e130_35, e130_36, e130_38, e130_39, e130_42, e130_45, e130_47, e130_49, e130_51, e130_54, e130_56, e130_58, e130_61, e130_63, e130_64, e130_67, e130_70, e130_72, e130_74, e130_76, e130_77, e130_79, e130_80, e130_83, e130_85, e130_88, e130_91, e130_92, rk_n, rk_v, nl_n, nl_i, nl_r, cat_n, ip_cat_int, ip_cat_ref, ip_cat_long, ip_rf_some, Nat.reduceAdd, Nat.reduceLeDiff, Nat.reduceLT, Nat.le_refl, Nat.zero_le, hC, hT, r0, c19s E8, P2, nu_ge, lk, lp, g1, PG, gp, q1, c20s E8 hs, nu_1, Bool.false_eq_true, Bool.true_eq_false, if_true, if_false, not_true_eq_false, not_false_eq_true, zle, eq_self]
      · by_cases q2 : rkN (ogI c std rst br win V fl lev ap f) < rkN (ogI c std rst br win V fl lev ap s)
        · refine ⟨(s, Int32.ofNat (rkN (ogI c std rst br win V fl lev ap s)), some (.int (Int32.ofNat (rkN (ogI c std rst br win V fl lev ap s))))), Or.inr ⟨by omega, rfl, ⟨hsE, Nat.le_of_not_lt q1⟩, hs, take (VL.mpr (Or.inl q2))⟩, ?_⟩
          rw [e130_11]
          simp only [e130_0, e130_1, e130_2, e130_3, e130_5, e130_6, e130_8, e130_9, e130_13, e130_14, e130_15, e130_18, e130_19, e130_22, e130_23, e130_26, e130_28, e130_31, e130_32, e130_35, e130_36, e130_38, e130_39, e130_42, e130_45, e130_47, e130_49, e130_51, e130_54, e130_56, e130_58, e130_61, e130_63, e130_64, e130_67, e130_70, e130_72, e130_74, e130_76, e130_77, e130_79, e130_80, e130_83, e130_85, e130_88, e130_91, e130_92, rk_n, rk_v, nl_n, nl_i, nl_r, cat_n, ip_cat_int, ip_cat_ref, ip_cat_long, ip_rf_some, Nat.reduceAdd, Nat.reduceLeDiff, Nat.reduceLT, Nat.le_refl, Nat.zero_le, hC, hT, r0, c19s E8, P2, nu_ge, lk, lp, g1, PG, gp, q1, Os, c132n, lr, q2, c20s E8 hs, nu_1, Bool.false_eq_true, Bool.true_eq_false, if_true, if_false, not_true_eq_false, not_false_eq_true, zle, eq_self]
        · by_cases q3 : rkN (ogI c std rst br win V fl lev ap s) = rkN (ogI c std rst br win V fl lev ap f)
          · by_cases q4 : smN s f = true
            · refine ⟨(s, Int32.ofNat (rkN (ogI c std rst br win V fl lev ap s)), some (.int (Int32.ofNat (rkN (ogI c std rst br win V fl lev ap s))))), Or.inr ⟨by omega, rfl, ⟨hsE, Nat.le_of_not_lt q1⟩, hs, take (VL.mpr (Or.inr ⟨q3, q4⟩))⟩, ?_⟩
              rw [e130_11]
              simp only [e130_0, e130_1, e130_2, e130_3, e130_5, e130_6, e130_8, e130_9, e130_13, e130_14, e130_15, e130_18, e130_19, e130_22, e130_23, e130_26, e130_28, e130_31, e130_32, e130_35, e130_36, e130_38, e130_39, e130_42, e130_45, e130_47, e130_49, e130_51, e130_54, e130_56, e130_58, e130_61, e130_63, e130_64, e130_67, e130_70, e130_72, e130_74, e130_76, e130_77, e130_79, e130_80, e130_83, e130_85, e130_88, e130_91, e130_92, rk_n, rk_v, nl_n, nl_i, nl_r, cat_n, ip_cat_int, ip_cat_ref, ip_cat_long, ip_rf_some, Nat.reduceAdd, Nat.reduceLeDiff, Nat.reduceLT, Nat.le_refl, Nat.zero_le, hC, hT, r0, c19s E8, P2, nu_ge, lk, lp, g1, PG, gp, q1, Os, c132n, lr, er, q2, q3, c133 hs a3, q4, c20s E8 hs, nu_1, Bool.false_eq_true, Bool.true_eq_false, if_true, if_false, not_true_eq_false, not_false_eq_true, zle, eq_self, Int32.lt_irrefl]
            · refine ⟨(f, Int32.ofNat (rkN (ogI c std rst br win V fl lev ap f)), some (.int (Int32.ofNat (rkN (ogI c std rst br win V fl lev ap s))))), Or.inr ⟨by omega, rfl, ⟨a1, a2⟩, a3, keep (Or.inr (fun e => (VL.mp e).elim q2 (fun e => q4 e.2)))⟩, ?_⟩
              rw [e130_11]
              simp only [e130_0, e130_1, e130_2, e130_3, e130_5, e130_6, e130_8, e130_9, e130_13, e130_14, e130_15, e130_18, e130_19, e130_22, e130_23, e130_26, e130_28, e130_31, e130_32, e130_35, e130_36, e130_38, e130_39, e130_42, e130_45, e130_47, e130_49, e130_51, e130_54, e130_56, e130_58, e130_61, e130_63, e130_64, e130_67, e130_70, e130_72, e130_74, e130_76, e130_77, e130_79, e130_80, e130_83, e130_85, e130_88, e130_91, e130_92, rk_n, rk_v, nl_n, nl_i, nl_r, cat_n, ip_cat_int, ip_cat_ref, ip_cat_long, ip_rf_some, Nat.reduceAdd, Nat.reduceLeDiff, Nat.reduceLT, Nat.le_refl, Nat.zero_le, hC, hT, r0, c19s E8, P2, nu_ge, lk, lp, g1, PG, gp, q1, Os, c132n, lr, er, q2, q3, c133 hs a3, q4, c20s E8 hs, nu_1, Bool.false_eq_true, Bool.true_eq_false, if_true, if_false, not_true_eq_false, not_false_eq_true, zle, eq_self, Int32.lt_irrefl]
          · refine ⟨(f, Int32.ofNat (rkN (ogI c std rst br win V fl lev ap f)), some (.int (Int32.ofNat (rkN (ogI c std rst br win V fl lev ap s))))), Or.inr ⟨by omega, rfl, ⟨a1, a2⟩, a3, keep (Or.inr (fun e => (VL.mp e).elim q2 (fun e => q3 e.1)))⟩, ?_⟩
            rw [e130_11]
            simp only [e130_0, e130_1, e130_2, e130_3, e130_5, e130_6, e130_8, e130_9, e130_13, e130_14, e130_15, e130_18, e130_19, e130_22, e130_23, e130_26, e130_28, e130_31, e130_32, e130_35, e130_36, e130_38, e130_39, e130_42, e130_45, e130_47, e130_49, e130_51, e130_54, e130_56, e130_58, e130_61, e130_63, e130_64, e130_67, e130_70, e130_72, e130_74, e130_76, e130_77, e130_79, e130_80, e130_83, e130_85, e130_88, e130_91, e130_92, rk_n, rk_v, nl_n, nl_i, nl_r, cat_n, ip_cat_int, ip_cat_ref, ip_cat_long, ip_rf_some, Nat.reduceAdd, Nat.reduceLeDiff, Nat.reduceLT, Nat.le_refl, Nat.zero_le, hC, hT, r0, c19s E8, P2, nu_ge, lk, lp, g1, PG, gp, q1, Os, c132n, lr, er, q2, q3, c20s E8 hs, nu_1, Bool.false_eq_true, Bool.true_eq_false, if_true, if_false, not_true_eq_false, not_false_eq_true, zle, eq_self]
  · rintro s ⟨f, hi, l7⟩ hs hsE H
    rcases H with ⟨e0, ef, eh⟩ | ⟨e0, eh, a1, a3, a4⟩
    · subst e0
      exact absurd (Nat.zero_and _) hsE
    · refine Or.inr ⟨by omega, eh, a1, a3, ?_⟩
      intro t ht hA
      by_cases e : t = s
      · subst e; exact absurd hA.1 hsE
      · exact a4 t (by omega) hA
  · exact Or.inl ⟨rfl, rfl, rfl⟩
  · rintro s ⟨⟨f, hi, l7⟩, H, e⟩
    rcases H with ⟨e0, ef, eh⟩ | ⟨e0, eh, a1, a3, a4⟩
    · omega
    · refine ⟨f, ?_, a1, a3, a4⟩
      refine Eq.trans e ?_
      rw [e130_11]
      simp only [e130_0, e130_1, e130_2, e130_3, e130_5, e130_6, e130_8, e130_9, e130_13, e130_14, e130_15, e130_18, e130_19, e130_22, e130_23, e130_26, e130_28, e130_31, e130_32, e130_35, e130_36, e130_38, e130_39, e130_42, e130_45, e130_47, e130_49, e130_51, e130_54, e130_56, e130_58, e130_61, e130_63, e130_64, e130_67, e130_70, e130_72, e130_74, e130_76, e130_77, e130_79, e130_80, e130_83, e130_85, e130_88, e130_91, e130_92, rk_n, rk_v, nl_n, nl_i, nl_r, cat_n, ip_cat_int, ip_cat_ref, ip_cat_long, ip_rf_some, Nat.reduceAdd, Nat.reduceLeDiff, Nat.reduceLT, Nat.le_refl, Nat.zero_le, c19s E8, P2, Int32.le_refl, Bool.false_eq_true, Bool.true_eq_false, if_true, if_false, not_true_eq_false, not_false_eq_true, zle, eq_self]
end BE
