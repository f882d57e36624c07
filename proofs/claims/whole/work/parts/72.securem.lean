/-! SECURED: the model -/
section SM
variable {n d a b T c s t z o w m p lev k side ap b0 b1 h0 h1 md C F B pg po u : Nat} {I J K : Nat → Nat → Int32} {L : Nat → Nat → Int64} {R : Nat → Nat → Option Nat} {nc ns : Nat} {nx : Bool} {x y j v lv hw0 : Int32} {h : ip_H} {f g std rst V : Nat → Nat} {win : Nat → Bool} {br fl : Nat → Int32}
def P5 (a k : Nat) : Prop := a = 305 ∨ (a = 265 ∧ f5 k)
theorem P5_of (H : onlyM f5 I J) : onlyP P5 I J := fun a k h => H a k (fun e => h (Or.inr e))
theorem P5_a (H : onlyP P5 I J) (h1 : ¬ a = 305) (h2 : ¬ a = 265) : J a k = I a k := H a k (fun e => e.elim h1 (fun e => h2 e.1))
theorem P5_k (H : onlyP P5 I J) (h : ¬ f5 k) : J 265 k = I 265 k := H 265 k (fun e => e.elim (fun e => by omega) (fun e => h e.2))
theorem MTx_5 (H : onlyP P5 I J) (X : MTx c std rst br win I) : MTx c std rst br win J := by
  obtain ⟨h1, h2, h3, h4, h5, h6⟩ := X
  refine ⟨h1, ?_, ?_, ?_, ?_, ?_⟩
  · rw [P5_k H (by unfold f5; omega)]; exact h2
  · intro k hk; rw [P5_a H (by omega) (by omega)]; exact h3 k hk
  · intro k hk; rw [P5_a H (by omega) (by omega)]; exact h4 k hk
  · intro k hk; rw [P5_a H (by omega) (by omega)]; exact h5 k hk
  · intro k hk; rw [P5_a H (by omega) (by omega)]; exact h6 k hk
theorem MNd_5 (H : onlyP P5 I J) (X : MNd w p lev V fl I) : MNd w p lev V fl J := by
  obtain ⟨h1, h2, h3, h4, h5, h6, h7, h8, h9, h10, h11⟩ := X
  refine ⟨h1, ?_, h3, ?_, ?_, ?_, ?_, ?_, ?_, ?_, ?_⟩
  · rw [P5_k H (by unfold f5; omega)]; exact h2
  · rw [P5_a H (by omega) (by omega)]; exact h4
  · rw [P5_a H (by omega) (by omega)]; exact h5
  · rw [P5_a H (by omega) (by omega)]; exact h6
  · rw [P5_a H (by omega) (by omega)]; exact h7
  · rw [P5_a H (by omega) (by omega)]; exact h8
  · intro s hs; rw [P5_a H (by omega) (by omega), P5_a H (by omega) (by omega)]; exact h9 s hs
  · intro k hk; rw [P5_a H (by omega) (by omega)]; exact h10 k hk
  · intro e; rw [P5_a H (by omega) (by omega), P5_a H (by omega) (by omega)]; exact h11 e
theorem MSIT_5 (H : onlyP P5 I J) (X : MSIT c std rst br win V fl lev ap I) : MSIT c std rst br win V fl lev ap J := by
  obtain ⟨h1, h2, h3, h4⟩ := X
  refine ⟨?_, ?_, ?_, ?_⟩
  · rw [P5_k H (by unfold f5; omega)]; exact h1
  · rw [P5_k H (by unfold f5; omega)]; exact h2
  · rw [P5_k H (by unfold f5; omega)]; exact h3
  · rw [P5_k H (by unfold f5; omega)]; exact h4
def KN (c : Nat) (std rst : Nat → Nat) (br : Nat → Int32) (win : Nat → Bool) (V : Nat → Nat) (fl : Nat → Int32) (lev ap : Nat) (I : Nat → Nat → Int32) : Prop := ∀ u, u < 256 → I 305 u = -1 ∨ I 305 u = outE c std rst br win V fl lev ap (u &&& errS c std rst br win V fl lev ap) u
theorem heard_err : heardN c std rst br win V fl lev side &&& errS c std rst br win V fl lev side = errS c std rst br win V fl lev side := by
  apply Nat.eq_of_testBit_eq
  intro i
  unfold heardN errS
  rw [Nat.testBit_and, setN_bit, setN_bit]
  cases decide (i < c) <;> cases decide (whyI V fl lev i side = 0) <;> simp
theorem ag_01 : (agN V k 0 && agN V k 1) = false := by
  unfold agN
  cases (V 6).testBit k <;> cases (V 4).testBit k <;> rfl
theorem why_a (e : whyI V fl lev k side = 0) : agN V k side = true := by
  unfold whyI at e
  cases ha : agN V k side with
  | false => rw [ha, if_pos rfl] at e; exact absurd e (by decide)
  | true => rfl
theorem err_dis (a2 : ap < 2) : errS c std rst br win V fl lev ap &&& errS c std rst br win V fl lev (1 - ap) = 0 := by
  apply Nat.eq_of_testBit_eq
  intro i
  rw [Nat.testBit_and, Nat.zero_testBit]
  unfold errS
  rw [setN_bit, setN_bit]
  cases hi : decide (i < c) with
  | false => rfl
  | true =>
    by_cases h0 : whyI V fl lev i ap = 0
    · by_cases h1 : whyI V fl lev i (1 - ap) = 0
      · have this := ag_01 (V := V) (k := i)
        rcases lt2 a2 with rfl | rfl
        · have g0 : agN V i 0 = true := why_a h0
          have g1 : agN V i 1 = true := why_a h1
          rw [g0, g1] at this
          cases this
        · have g0 : agN V i 1 = true := why_a h0
          have g1 : agN V i 0 = true := why_a h1
          rw [g0, g1] at this
          cases this
      · simp [h1]
    · simp [h0]
theorem dis_and {E G s o : Nat} (h : E &&& G = 0) : ((s &&& E) ||| (o &&& G)) &&& E = s &&& E := by
  apply Nat.eq_of_testBit_eq
  intro i
  have := congrArg (fun v => v.testBit i) h
  simp only [Nat.testBit_and, Nat.zero_testBit] at this
  rw [Nat.testBit_and, Nat.testBit_or, Nat.testBit_and, Nat.testBit_and]
  revert this
  cases s.testBit i <;> cases E.testBit i <;> cases o.testBit i <;> cases G.testBit i <;> decide
theorem c254 (hR : LYR R) (X : MTx c std rst br win I) (M : MNd w p lev V fl I) (hl : lev = 1 ∨ lev = 2) (Z : MSIT c std rst br win V fl lev ap I) (a2 : ap < 2) (N : KN c std rst br win V fl lev ap I) (s8 : s < 256) (o8 : o < 256) :
    ∃ J, cf (d + 4) 254 [.ref 265, .int (Int32.ofNat (s &&& heardN c std rst br win V fl lev ap)), .int (Int32.ofNat (o &&& heardN c std rst br win V fl lev (1 - ap)))] (SH n, I, L, R, nc, ns, nx) = some (.inl (some (.int (outE c std rst br win V fl lev ap (s &&& errS c std rst br win V fl lev ap) ((s &&& errS c std rst br win V fl lev ap) ||| (o &&& errS c std rst br win V fl lev (1 - ap)))))), (SH n, J, L, R, nc, ns, nx)) ∧ onlyP P5 I J ∧ KN c std rst br win V fl lev ap J := by
  have hc8 := X.1
  have q1 : s &&& heardN c std rst br win V fl lev ap < 256 := Nat.lt_of_le_of_lt Nat.and_le_left s8
  have q2 : o &&& heardN c std rst br win V fl lev (1 - ap) < 256 := Nat.lt_of_le_of_lt Nat.and_le_left o8
  have E := c238 (d := d + 2) (n := n) (L := L) (nc := nc) (ns := ns) (nx := nx) hR X M hl (Nat.or_lt_two_pow (n := 8) q1 q2)
  rw [errN_or, errN_heard, errN_heard] at E
  obtain ⟨J1, B, o1⟩ := c249s (d := d) (n := n) (L := L) (nc := nc) (ns := ns) (nx := nx) hR X M hl Z a2 q1 q2
  rw [Nat.and_assoc, heard_err, Nat.and_assoc, heard_err] at B
  have e8 : (s &&& errS c std rst br win V fl lev ap) ||| (o &&& errS c std rst br win V fl lev (1 - ap)) < 256 := Nat.or_lt_two_pow (n := 8) (Nat.lt_of_le_of_lt Nat.and_le_left s8) (Nat.lt_of_le_of_lt Nat.and_le_left o8)
  have dE := dis_and (s := s) (o := o) (err_dis (c := c) (std := std) (rst := rst) (br := br) (win := win) (V := V) (fl := fl) (lev := lev) a2)
  generalize hu : (s &&& errS c std rst br win V fl lev ap) ||| (o &&& errS c std rst br win V fl lev (1 - ap)) = u at *
  have lu : u < 2147483648 := by omega
  have z4 := Z.1
  by_cases g : I 305 u = -1
  · refine ⟨ip_up J1 305 u (outE c std rst br win V fl lev ap (s &&& errS c std rst br win V fl lev ap) u), ?_, onlyP_up (P5_of o1) (Or.inl rfl), ?_⟩
    · simp only [en254, e254_0, e254_1, e254_2, e254_3, e254_4, e254_5, e254_8, e254_11, e254_12, e254_13, e254_16, e254_17, e254_18, e254_19, e254_22, e254_23, e254_26, e254_27, e254_28, e254_29, e254_30, e254_33, e254_34, e254_35, e254_38, e254_39, e254_40, rk_n, rk_v, nl_n, nl_i, nl_r, cat_n, ip_cat_int, ip_cat_ref, ip_cat_long, ip_rf_some, Nat.reduceAdd, Nat.reduceLeDiff, Nat.reduceLT, Nat.le_refl, Nat.zero_le, hR, ia_lit, nu_i, nu_tn, lu, e8, of_or, z4, E, g, B, up_eq, Bool.false_eq_true, Bool.true_eq_false, if_true, if_false, not_true_eq_false, not_false_eq_true, zle, eq_self]
    · intro v hv
      by_cases e : v = u
      · subst e; right; rw [up_eq, dE]
      · rw [up_k e, onlyM_a o1 (by omega)]
        exact N v hv
  · refine ⟨I, ?_, onlyP_refl, N⟩
    have := (N u e8).resolve_left g
    rw [dE] at this
    rw [this] at g
    simp only [en254, e254_0, e254_1, e254_2, e254_3, e254_4, e254_5, e254_8, e254_11, e254_12, e254_13, e254_16, e254_17, e254_18, e254_19, e254_22, e254_23, e254_26, e254_27, e254_28, e254_29, e254_30, e254_33, e254_34, e254_35, e254_38, e254_39, e254_40, rk_n, rk_v, nl_n, nl_i, nl_r, cat_n, ip_cat_int, ip_cat_ref, ip_cat_long, ip_rf_some, Nat.reduceAdd, Nat.reduceLeDiff, Nat.reduceLT, Nat.le_refl, Nat.zero_le, hR, ia_lit, nu_i, nu_tn, lu, e8, of_or, z4, E, this, g, Bool.false_eq_true, Bool.true_eq_false, if_true, if_false, not_true_eq_false, not_false_eq_true, zle, eq_self]
/-- the worst of all sets is the worst of those among the errors -/
theorem worst_eq {G : Nat} (hc : c ≤ 8) (hG : G < 2 ^ c) {q : Nat → Nat} {f1 f2 : Nat} (h1 : isWorst q (fun t => t &&& G = t ∧ pgC t rst c ≤ pg) f1) (h2 : isWorst (fun t => q (t &&& G)) (fun t => t < 2 ^ c ∧ pgM t rst c ≤ pg) f2) : f2 = f1 := by
  obtain ⟨⟨a1, a2⟩, a3, a4⟩ := h2
  have e : f2 &&& G = f2 := by
    have b1 : f2 &&& G < 256 := Nat.lt_of_le_of_lt Nat.and_le_left a3
    have b2 := a4 (f2 &&& G) b1 ⟨Nat.lt_of_le_of_lt Nat.and_le_left a1, Nat.le_trans (pgM_and c) a2⟩
    have b3 : f2 &&& G ≤ f2 := Nat.and_le_left
    have b5 : (f2 &&& G) &&& G = f2 &&& G := by rw [Nat.and_assoc, Nat.and_self]
    dsimp only at b2
    rw [b5] at b2
    have b6 := Nat.le_of_add_le_add_left b2
    exact Nat.le_antisymm b3 b6
  apply worst_uniq (r := q) (A := fun t => t &&& G = t ∧ pgC t rst c ≤ pg) ?_ h1
  refine ⟨⟨e, by rw [pg_eq a1 hc]; exact a2⟩, a3, ?_⟩
  intro t ht hA
  have t2 := sub_lt2 hG hA.1
  have := a4 t ht ⟨t2, by rw [← pg_eq t2 hc]; exact hA.2⟩
  dsimp only at this
  rw [e, hA.1] at this
  exact this
end SM
