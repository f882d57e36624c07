/-! SECURED: the class -/
def isWorst (r : Nat → Nat) (A : Nat → Prop) (f : Nat) : Prop := A f ∧ f < 256 ∧ ∀ t, t < 256 → A t → r f * 256 + f ≤ r t * 256 + t
theorem worst_uniq {r : Nat → Nat} {A : Nat → Prop} {f g : Nat} (h1 : isWorst r A f) (h2 : isWorst r A g) : f = g := by
  have a1 := h1.2.2 g h2.2.1 h2.1
  have a2 := h2.2.2 f h1.2.1 h1.1
  have b1 := h1.2.1
  have b2 := h2.2.1
  omega
def amin (v : Nat → Nat) (A : Nat → Bool) : Nat → Nat
  | 0 => 0
  | q + 1 => if A q = true ∧ v q < v (amin v A q) then q else amin v A q
theorem amin_ok {v : Nat → Nat} {A : Nat → Bool} (h0 : A 0 = true) : ∀ q, A (amin v A q) = true ∧ amin v A q ≤ q ∧ ∀ t, t < q → A t = true → v (amin v A q) ≤ v t := by
  intro q
  induction q with
  | zero => exact ⟨h0, Nat.le_refl _, fun t ht => by omega⟩
  | succ q ih =>
    obtain ⟨a1, a2, a3⟩ := ih
    rw [amin]
    by_cases g : A q = true ∧ v q < v (amin v A q)
    · rw [if_pos g]
      refine ⟨g.1, by omega, fun t ht hA => ?_⟩
      by_cases e : t = q
      · subst e; exact Nat.le_refl _
      · have := a3 t (by omega) hA
        omega
    · rw [if_neg g]
      refine ⟨a1, by omega, fun t ht hA => ?_⟩
      by_cases e : t = q
      · subst e
        apply Nat.le_of_not_lt
        intro hl
        exact g ⟨hA, hl⟩
      · exact a3 t (by omega) hA
/-- the least set by which it is worst -/
def wf (r : Nat → Nat) (A : Nat → Bool) : Nat := amin (fun t => r t * 256 + t) A 255
theorem wf_ok {r : Nat → Nat} {A : Nat → Bool} (h0 : A 0 = true) (h255 : A 255 = true → r (wf r A) * 256 + wf r A ≤ r 255 * 256 + 255) : isWorst r (fun t => A t = true) (wf r A) := by
  obtain ⟨a1, a2, a3⟩ := amin_ok (v := fun t => r t * 256 + t) h0 255
  refine ⟨a1, by unfold wf; omega, fun t ht hA => ?_⟩
  by_cases e : t = 255
  · subst e; exact h255 hA
  · exact a3 t (by omega) hA
theorem wf_ex {r : Nat → Nat} {A : Nat → Bool} (h0 : A 0 = true) : ∃ f, isWorst r (fun t => A t = true) f := by
  obtain ⟨a1, a2, a3⟩ := amin_ok (v := fun t => r t * 256 + t) h0 256
  by_cases e : amin (fun t => r t * 256 + t) A 256 = 256
  · have b : amin (fun t => r t * 256 + t) A 256 = (if A 255 = true ∧ r 255 * 256 + 255 < r (amin (fun t => r t * 256 + t) A 255) * 256 + amin (fun t => r t * 256 + t) A 255 then 255 else amin (fun t => r t * 256 + t) A 255) := rfl
    rw [b] at e
    have := (amin_ok (v := fun t => r t * 256 + t) h0 255).2.1
    split at e <;> omega
  · exact ⟨_, a1, by omega, fun t ht hA => a3 t ht hA⟩
theorem w_tq {a b u t f q : Nat} (h1 : a < b) (ht : t < q) (h2 : b * q + f ≤ u) : a * q + t ≤ u :=
  Nat.le_trans (Nat.le_of_lt (Nat.lt_of_lt_of_le (Nat.add_lt_add_left ht (a * q)) (by rw [← Nat.succ_mul]; exact Nat.mul_le_mul_right q h1))) (Nat.le_trans (Nat.le_add_right _ f) h2)
theorem w_take {a b u t f : Nat} (h1 : a < b) (ht : t < 256) (h2 : b * 256 + f ≤ u) : a * 256 + t ≤ u := w_tq h1 ht h2
theorem w_keep {a b t f : Nat} (h1 : b ≤ a) (h2 : f ≤ t) : b * 256 + f ≤ a * 256 + t := Nat.add_le_add (Nat.mul_le_mul_right 256 h1) h2
section SE
variable {n d a b T c s t z o w m p lev k side ap b0 b1 h0 h1 md C F B pg po : Nat} {I J K : Nat → Nat → Int32} {L : Nat → Nat → Int64} {R : Nat → Nat → Option Nat} {nc ns : Nat} {nx : Bool} {x y j v lv hw0 : Int32} {h : ip_H} {f g std rst V : Nat → Nat} {win : Nat → Bool} {br fl : Nat → Int32}
theorem SIT_P {P : Nat → Nat → Prop} (H : onlyP P I J) (h1 : ∀ k, ¬ P C k) (h2 : ∀ k, ¬ P (C + 13) k) (h3 : ∀ k, ¬ P (C + 14) k) (S : SIT C T F B c std rst br win V fl lev ap I R) : SIT C T F B c std rst br win V fl lev ap J R := by
  obtain ⟨r0, r1, r2, s3, s4, s5, sh⟩ := S
  refine ⟨r0, r1, r2, ?_, ?_, ?_, ?_⟩
  · rw [H _ _ (h1 3)]; exact s3
  · rw [H _ _ (h1 4)]; exact s4
  · rw [H _ _ (h1 5)]; exact s5
  · intro s hs; rw [H _ _ (h2 s), H _ _ (h3 s)]; exact sh s hs
def at40 (a k : Nat) : Prop := a = 40 ∧ 3 ≤ k ∧ k ≤ 8
theorem C40 (hC : isC C) (i : Nat) (hi : i ≤ 14) (k : Nat) (e : i = 0 ∨ i = 13 ∨ i = 14) : ¬ at40 (C + i) k := by
  rintro ⟨h, -⟩
  unfold isC at hC
  omega
theorem T40 (hT : isT T) : ∀ i, i ≤ 6 → ∀ k, ¬ at40 (T + i) k := by
  rintro i hi k ⟨h, -⟩
  unfold isT at hT
  omega
theorem N40 (nF : isN F) : ∀ i, i ≤ 4 → ∀ k, ¬ at40 (F + i) k := by
  rintro i hi k ⟨h, -⟩
  unfold isN at nF
  rcases nF with rfl | rfl | rfl | ⟨q, hq, rfl⟩ <;> omega
def r2N (c : Nat) (std rst : Nat → Nat) (br : Nat → Int32) (win : Nat → Bool) (V : Nat → Nat) (fl : Nat → Int32) (lev ap s t : Nat) : Nat := rkN (outE c std rst br win V fl lev ap s (s ||| t))
/-- the answer to a set: the other side's, with so many pages -/
def isAns (c : Nat) (std rst : Nat → Nat) (br : Nat → Int32) (win : Nat → Bool) (V : Nat → Nat) (fl : Nat → Int32) (lev ap pg s f : Nat) : Prop := isWorst (fun t => r2N c std rst br win V fl lev ap s t) (fun t => t &&& errS c std rst br win V fl lev (1 - ap) = t ∧ pgC t rst c ≤ pg) f
theorem ans_ex : ∃ f, isAns c std rst br win V fl lev ap pg s f := by
  obtain ⟨f, h1, h2, h3⟩ := wf_ex (r := fun t => r2N c std rst br win V fl lev ap s t) (A := fun t => decide (t &&& errS c std rst br win V fl lev (1 - ap) = t ∧ pgC t rst c ≤ pg)) (by rw [decide_eq_true_eq]; exact ⟨Nat.zero_and _, by rw [pgC_0]; exact Nat.zero_le _⟩)
  exact ⟨f, of_decide_eq_true h1, h2, fun t ht hA => h3 t ht (decide_eq_true hA)⟩
theorem c144 (hR : LYR R) (hC : isC C) (X : CTx T c std rst br win I L) (N : CNd F B c lev V fl I) (S : SIT C T F B c std rst br win V fl lev ap I R) (a2 : ap < 2) (hs : s < 2 ^ c) (hp : pg < 2147483648) :
    ∃ J f, cf (d + 3) 144 [.ref 40, .ref C, .int (Int32.ofNat s), .int (Int32.ofNat pg)] (SH n, I, L, R, nc, ns, nx) = some (.inl none, (SH n, J, L, R, nc, ns, nx)) ∧ onlyP (fun a k => a = 40 ∧ (k = 7 ∨ k = 8)) I J ∧ J 40 7 = Int32.ofNat f ∧ J 40 8 = outE c std rst br win V fl lev ap s (s ||| f) ∧ isAns c std rst br win V fl lev ap pg s f := by
  have hc8 := X.2.1
  have hT := X.1
  have nF := N.1
  have nB := N.2.1
  have hG : errS c std rst br win V fl lev (1 - ap) < 2 ^ c := errS_lt
  have G8 : errS c std rst br win V fl lev (1 - ap) < 256 := Nat.lt_of_lt_of_le hG (p2le hc8)
  have r0 := S.1
  have s8 : s < 256 := Nat.lt_of_lt_of_le hs (p2le hc8)
  have mono : ∀ a k, (a = 40 ∧ (k = 7 ∨ k = 8)) → at40 a k := fun a k e => ⟨e.1, by omega⟩
  have kT : ∀ J, onlyP (fun a k => a = 40 ∧ (k = 7 ∨ k = 8)) I J → CTx T c std rst br win J L := fun J o => CTx_P (onlyP_mono o mono) (T40 hT) X
  have kN : ∀ J, onlyP (fun a k => a = 40 ∧ (k = 7 ∨ k = 8)) I J → CNd F B c lev V fl J := fun J o => CNd_P (onlyP_mono o mono) (fun i hi => N40 nF i (by omega)) (N40 nB 0 (by omega) 7) N
  have kS : ∀ J, onlyP (fun a k => a = 40 ∧ (k = 7 ∨ k = 8)) I J → SIT C T F B c std rst br win V fl lev ap J R := fun J o => SIT_P (onlyP_mono o mono) (fun k => C40 hC 0 (by omega) k (by omega)) (fun k => C40 hC 13 (by omega) k (by omega)) (fun k => C40 hC 14 (by omega) k (by omega)) S
  have OE := c110 (d := d + 2) (n := n) (L := L) (nc := nc) (ns := ns) (nx := nx) hR hC S a2
  have o1 : onlyP (fun a k => a = 40 ∧ (k = 7 ∨ k = 8)) I (ip_up I 40 7 0) := onlyP_up onlyP_refl ⟨rfl, Or.inl rfl⟩
  have O0 := c111 (d := d) (n := n) (nc := nc) (ns := ns) (nx := nx) hR hC (kT _ o1) (kN _ o1) (kS _ o1) hs (o := 0) (Nat.two_pow_pos c)
  have z0 : Int32.ofNat 0 = 0 := rfl
  rw [z0] at O0
  have P2 := pow_pop G8
  have P3 := pow_pop_le G8
  unfold isAns
  generalize hGG : errS c std rst br win V fl lev (1 - ap) = G at *
  simp only [en144, e144_0, e144_1, e144_4, e144_6, e144_7, e144_8, e144_11, e144_12, e144_13, e144_14, e144_15, e144_18, e144_21, e144_22, e144_24, e144_25, e144_29, e144_30, e144_32, e144_35, e144_36, e144_39, e144_40, e144_43, e144_45, e144_48, e144_49, e144_52, e144_53, e144_54, e144_56, e144_59, e144_61, e144_63, e144_66, e144_67, e144_70, e144_73, e144_76, e144_77, e144_79, e144_82, e144_83, e144_85, e144_88, e144_90, e144_92, e144_95, e144_97, e144_100, e144_103, rk_n, rk_v, nl_n, nl_i, nl_r, cat_n, ip_cat_int, ip_cat_ref, ip_cat_long, ip_rf_some, Nat.reduceAdd, Nat.reduceLeDiff, Nat.reduceLT, Nat.le_refl, Nat.zero_le, hC, OE, O0]
  refine Exists.elim (sub_walk G8 (fun k t (x : Nat × Option Value × (Nat → Nat → Int32)) => rf (d + 3) 144 27 [some (.ref 40), some (.ref C), some (.int (Int32.ofNat s)), some (.int (Int32.ofNat pg)), some (.int (Int32.ofNat G)), some (.int (Int32.ofNat t)), some (.int (Int32.ofNat k)), x.2.1] [] (SH n, x.2.2, L, R, nc, ns, nx)) (fun t x => onlyP (fun a k => a = 40 ∧ (k = 7 ∨ k = 8)) I x.2.2 ∧ x.2.2 40 7 = Int32.ofNat x.1 ∧ x.2.2 40 8 = outE c std rst br win V fl lev ap s (s ||| x.1) ∧ (x.1 &&& G = x.1 ∧ pgC x.1 rst c ≤ pg) ∧ x.1 ≤ t ∧ x.1 < 256 ∧ ∀ u, u < t → u &&& G = u ∧ pgC u rst c ≤ pg → r2N c std rst br win V fl lev ap s x.1 * 256 + x.1 ≤ r2N c std rst br win V fl lev ap s u * 256 + u) ?_ ?_ (0, none, ip_up (ip_up I 40 7 0) 40 8 (outE c std rst br win V fl lev ap s (s ||| 0))) ?_) ?_
  · rintro k t ⟨f, l7, J⟩ hk ht htG ⟨o, j7, j8, a1, a0, a3, a4⟩
    dsimp only at o j7 j8 a1 a0 a3 a4 ⊢
    have X1 := kT J o
    have t2 := sub_lt2 hG htG
    have lk : k < 2147483648 := by omega
    have lp : 2 ^ pop G < 2147483648 := by omega
    have g1 : ¬ 2 ^ pop G ≤ k := by omega
    have PG := c131 (d := d + 1) (n := n) (L := L) (nc := nc) (ns := ns) (nx := nx) hR hT X1.2.2.1 hc8 X1.2.2.2.2.1 ht
    have lpg := pgC_le (c := c) (f := rst) ht (fun k hk => (X.2.2.2.2.1 k hk).2) c (by omega)
    have lpg2 : pgC t rst c < 2147483648 := by omega
    have gp : (Int32.ofNat pg < Int32.ofNat (pgC t rst c)) = (pg < pgC t rst c) := propext (nu_lt hp lpg2)
    have Os := c111 (d := d) (n := n) (nc := nc) (ns := ns) (nx := nx) hR hC X1 (kN J o) (kS J o) hs t2
    have TD := c143 (d := d + 2) (n := n) (I := J) (L := L) (nc := nc) (ns := ns) (nx := nx) hC r0
    have rs := rkN_le (outE c std rst br win V fl lev ap s (s ||| t))
    have rff := rkN_le (outE c std rst br win V fl lev ap s (s ||| f))
    have lr : (Int32.ofNat (rkN (outE c std rst br win V fl lev ap s (s ||| f))) ≤ Int32.ofNat (rkN (outE c std rst br win V fl lev ap s (s ||| t)))) = (rkN (outE c std rst br win V fl lev ap s (s ||| f)) ≤ rkN (outE c std rst br win V fl lev ap s (s ||| t))) := nu_ge (by omega) (by omega)
    have d1 : r2N c std rst br win V fl lev ap s t = rkN (outE c std rst br win V fl lev ap s (s ||| t)) := rfl
    have d2 : r2N c std rst br win V fl lev ap s f = rkN (outE c std rst br win V fl lev ap s (s ||| f)) := rfl
    by_cases q1 : pg < pgC t rst c
    · refine ⟨(f, l7, J), ⟨o, j7, j8, a1, by show f ≤ t + 1; omega, a3, ?_⟩, ?_⟩
      · intro u hu hA
        by_cases e : u = t
        · subst e; omega
        · exact a4 u (by omega) hA
      · rw [e144_27]
        simp only [e144_0, e144_1, e144_4, e144_6, e144_7, e144_8, e144_11, e144_12, e144_13, e144_14, e144_15, e144_18, e144_21, e144_22, e144_24, e144_25, e144_29, e144_30, e144_32, e144_35, e144_36, e144_39, e144_40, e144_43, e144_45, e144_48, e144_49, e144_52, e144_53, e144_54, e144_56, e144_59, e144_61, e144_63, e144_66, e144_67, e144_70, e144_73, e144_76, e144_77, e144_79, e144_82, e144_83, e144_85, e144_88, e144_90, e144_92, e144_95, e144_97, e144_100, e144_103, rk_n, rk_v, nl_n, nl_i, nl_r, cat_n, ip_cat_int, ip_cat_ref, ip_cat_long, ip_rf_some, Nat.reduceAdd, Nat.reduceLeDiff, Nat.reduceLT, Nat.le_refl, Nat.zero_le, hC, hT, TD, c19s G8, P2, nu_ge, lk, lp, g1, PG, gp, q1, c20s G8 ht, nu_1, Bool.false_eq_true, Bool.true_eq_false, if_true, if_false, not_true_eq_false, not_false_eq_true, zle, eq_self]
    · by_cases q2 : rkN (outE c std rst br win V fl lev ap s (s ||| f)) ≤ rkN (outE c std rst br win V fl lev ap s (s ||| t))
      · refine ⟨(f, some (.int (outE c std rst br win V fl lev ap s (s ||| t))), J), ⟨o, j7, j8, a1, by show f ≤ t + 1; omega, a3, ?_⟩, ?_⟩
        · intro u hu hA
          by_cases e : u = t
          · subst e; exact w_keep q2 a0
          · exact a4 u (by omega) hA
        · rw [e144_27]
          simp only [e144_0, e144_1, e144_4, e144_6, e144_7, e144_8, e144_11, e144_12, e144_13, e144_14, e144_15, e144_18, e144_21, e144_22, e144_24, e144_25, e144_29, e144_30, e144_32, e144_35, e144_36, e144_39, e144_40, e144_43, e144_45, e144_48, e144_49, e144_52, e144_53, e144_54, e144_56, e144_59, e144_61, e144_63, e144_66, e144_67, e144_70, e144_73, e144_76, e144_77, e144_79, e144_82, e144_83, e144_85, e144_88, e144_90, e144_92, e144_95, e144_97, e144_100, e144_103, rk_n, rk_v, nl_n, nl_i, nl_r, cat_n, ip_cat_int, ip_cat_ref, ip_cat_long, ip_rf_some, Nat.reduceAdd, Nat.reduceLeDiff, Nat.reduceLT, Nat.le_refl, Nat.zero_le, hC, hT, TD, c19s G8, P2, nu_ge, lk, lp, g1, PG, gp, q1, Os, c132n, j8, lr, q2, c20s G8 ht, nu_1, Bool.false_eq_true, Bool.true_eq_false, if_true, if_false, not_true_eq_false, not_false_eq_true, zle, eq_self]
      · refine ⟨(t, some (.int (outE c std rst br win V fl lev ap s (s ||| t))), ip_up (ip_up J 40 7 (Int32.ofNat t)) 40 8 (outE c std rst br win V fl lev ap s (s ||| t))), ⟨onlyP_up (onlyP_up o ⟨rfl, Or.inl rfl⟩) ⟨rfl, Or.inr rfl⟩, ?_, by dsimp only; rw [up_eq], ⟨htG, Nat.le_of_not_lt q1⟩, by show t ≤ t + 1; omega, ht, ?_⟩, ?_⟩
        · show ip_up (ip_up J 40 7 (Int32.ofNat t)) 40 8 (outE c std rst br win V fl lev ap s (s ||| t)) 40 7 = Int32.ofNat t
          rw [up_k (by decide), up_eq]
        · intro u hu hA
          by_cases e : u = t
          · subst e; exact Nat.le_refl _
          · exact w_take (Nat.lt_of_not_le q2) ht (a4 u (by omega) hA)
        · rw [e144_27]
          simp only [e144_0, e144_1, e144_4, e144_6, e144_7, e144_8, e144_11, e144_12, e144_13, e144_14, e144_15, e144_18, e144_21, e144_22, e144_24, e144_25, e144_29, e144_30, e144_32, e144_35, e144_36, e144_39, e144_40, e144_43, e144_45, e144_48, e144_49, e144_52, e144_53, e144_54, e144_56, e144_59, e144_61, e144_63, e144_66, e144_67, e144_70, e144_73, e144_76, e144_77, e144_79, e144_82, e144_83, e144_85, e144_88, e144_90, e144_92, e144_95, e144_97, e144_100, e144_103, rk_n, rk_v, nl_n, nl_i, nl_r, cat_n, ip_cat_int, ip_cat_ref, ip_cat_long, ip_rf_some, Nat.reduceAdd, Nat.reduceLeDiff, Nat.reduceLT, Nat.le_refl, Nat.zero_le, hC, hT, TD, c19s G8, P2, nu_ge, lk, lp, g1, PG, gp, q1, Os, c132n, j8, lr, q2, c20s G8 ht, nu_1, Bool.false_eq_true, Bool.true_eq_false, if_true, if_false, not_true_eq_false, not_false_eq_true, zle, eq_self]
  · rintro t ⟨f, l7, J⟩ ht htG ⟨o, j7, j8, a1, a0, a3, a4⟩
    refine ⟨o, j7, j8, a1, Nat.le_succ_of_le a0, a3, ?_⟩
    intro u hu hA
    by_cases e : u = t
    · subst e; exact absurd hA.1 htG
    · exact a4 u (by omega) hA
  · refine ⟨onlyP_up o1 ⟨rfl, Or.inr rfl⟩, ?_, by dsimp only; rw [up_eq], ⟨Nat.zero_and _, by show pgC 0 rst c ≤ pg; rw [pgC_0]; omega⟩, Nat.le_refl _, by show 0 < 256; omega, fun u hu => by omega⟩
    show ip_up (ip_up I 40 7 0) 40 8 (outE c std rst br win V fl lev ap s (s ||| 0)) 40 7 = Int32.ofNat 0
    rw [up_k (by decide), up_eq]; rfl
  · rintro t ⟨⟨f, l7, J⟩, ⟨o, j7, j8, a1, a0, a3, a4⟩, e⟩
    refine ⟨J, f, ?_, o, j7, j8, a1, a3, a4⟩
    refine Eq.trans e ?_
    rw [e144_27]
    simp only [e144_0, e144_1, e144_4, e144_6, e144_7, e144_8, e144_11, e144_12, e144_13, e144_14, e144_15, e144_18, e144_21, e144_22, e144_24, e144_25, e144_29, e144_30, e144_32, e144_35, e144_36, e144_39, e144_40, e144_43, e144_45, e144_48, e144_49, e144_52, e144_53, e144_54, e144_56, e144_59, e144_61, e144_63, e144_66, e144_67, e144_70, e144_73, e144_76, e144_77, e144_79, e144_82, e144_83, e144_85, e144_88, e144_90, e144_92, e144_95, e144_97, e144_100, e144_103, rk_n, rk_v, nl_n, nl_i, nl_r, cat_n, ip_cat_int, ip_cat_ref, ip_cat_long, ip_rf_some, Nat.reduceAdd, Nat.reduceLeDiff, Nat.reduceLT, Nat.le_refl, Nat.zero_le, c19s G8, P2, Int32.le_refl, Bool.false_eq_true, Bool.true_eq_false, if_true, if_false, not_true_eq_false, not_false_eq_true, zle, eq_self]
end SE
