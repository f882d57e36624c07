/-! CHAIN: the class, one try at level 2 -/
section CH
variable {n d a b T c s t z o w m p lev k side ap b0 b1 h0 h1 md C F B pg po u hi f0 : Nat} {I J K M : Nat → Nat → Int32} {L : Nat → Nat → Int64} {R : Nat → Nat → Option Nat} {nc ns : Nat} {nx : Bool} {x y j v lv hw0 what ah num hw came beh : Int32} {h : ip_H} {f g std rst V W : Nat → Nat} {win : Nat → Bool} {br fl : Nat → Int32}
theorem opn_V {lev' : Nat} {fl' : Nat → Int32} (h6 : W 6 = V 6) : opnN c std rst br win W fl' lev' m = opnN c std rst br win V fl lev m := by unfold opnN; rw [h6]
theorem trn_V {lev' : Nat} {fl' : Nat → Int32} (h6 : W 6 = V 6) : trnN c std rst br win W fl' lev' m = trnN c std rst br win V fl lev m := by unfold trnN; rw [opn_V h6]
theorem zrn_V {lev' : Nat} {fl' : Nat → Int32} (h4 : W 4 = V 4) (h6 : W 6 = V 6) : zrnN c std rst br win W fl' lev' m = zrnN c std rst br win V fl lev m := by unfold zrnN; rw [trn_V h6, opn_V h6, h4]
theorem aft_V {lev' : Nat} {fl' : Nat → Int32} (h4 : W 4 = V 4) (h6 : W 6 = V 6) : aftN c std rst br win W fl' lev' m = aftN c std rst br win V fl lev m := by unfold aftN; rw [zrn_V h4 h6, opn_V h6]
theorem ogI_V {lev' : Nat} {fl' : Nat → Int32} (h4 : W 4 = V 4) (h6 : W 6 = V 6) : ogI c std rst br win W fl' lev' ap s = ogI c std rst br win V fl lev ap s := by
  unfold ogI outE
  rw [aft_V h4 h6]
/-- the node between two appeals -/
def V2 (V : Nat → Nat) (ap s S0 : Nat) : Nat → Nat := fun j => if j = 4 then V 4 else if j = 5 then V 5 else if j = 6 then V 6 else if j = 7 then (V 7 ||| S0 ||| lostN V 1 ap) &&& (255 ^^^ V 6) else if j = 8 then V 8 &&& (255 ^^^ S0) else if j = 10 then 0 else if j = 12 then (if ap = 0 then s else 0) else if j = 13 then (if ap = 1 then s else 0) else if j = 14 then V 14 &&& (255 ^^^ V 6) else if j = 15 then V 15 &&& (255 ^^^ V 6) else if j = 16 then V 7 else 0
theorem V2_lt (v8 : ∀ j, V j < 256) (hs : s < 256) (hS : o < 256) : ∀ j, V2 V ap s o j < 256 := by
  intro j
  have ll : lostN V 1 ap < 256 := by unfold lostN; split <;> (try split) <;> (first | exact v8 _ | omega)
  unfold V2
  repeat' split
  all_goals first | exact v8 _ | exact hs | omega | exact andn_lt (v8 _) | exact andn_lt (Nat.or_lt_two_pow (n := 8) (Nat.or_lt_two_pow (n := 8) (v8 7) hS) ll)
theorem and_dis {a b c : Nat} (hc : c ≤ 8) (ha : a < 2 ^ c) (h : ∀ i, i < c → a.testBit i = true → b.testBit i = false) : a &&& (255 ^^^ b) = a := by
  apply Nat.eq_of_testBit_eq
  intro i
  rw [Nat.testBit_and, tbn]
  cases e : a.testBit i with
  | false => rfl
  | true =>
    have hi := tb_lt ha e
    rw [h i hi e, decide_eq_true (show i < 8 by omega)]
    rfl
theorem c152 (e6 : I 40 6 = Int32.ofNat hi) (e4 : I 40 4 = Int32.ofNat f0) (l6 : hi < 2147483648) (l4 : f0 < 256) (lm : m < 2147483648) (hs : s < 256) : cf (d + 2) 152 [.ref 40, .int came, .int (Int32.ofNat m), .int (Int32.ofNat s), .int beh] (SH n, I, L, R, nc, ns, nx) = some (.inl none, (SH n, (if hi < m ∨ (m = hi ∧ 0 < m ∧ smN s f0 = true) then ip_up (ip_up (ip_up (ip_up I 40 6 (Int32.ofNat m)) 40 3 came) 40 4 (Int32.ofNat s)) 40 5 beh else I), L, R, nc, ns, nx)) := by
  have g1 : (Int32.ofNat hi < Int32.ofNat m) = (hi < m) := propext (nu_lt l6 lm)
  have g2 : (Int32.ofNat m = Int32.ofNat hi) = (m = hi) := nu_eq lm l6
  have g3 : (Int32.ofNat m ≤ 0) = (m ≤ 0) := nu_lit (k := 0) lm (by omega)
  by_cases q1 : hi < m
  · rw [if_pos (Or.inl q1)]
    simp only [en152, e152_0, e152_1, e152_2, e152_5, e152_8, e152_9, e152_10, e152_13, e152_16, e152_17, e152_20, e152_21, e152_22, e152_25, e152_28, e152_31, e152_32, e152_33, e152_36, e152_37, e152_38, e152_41, e152_42, e152_43, e152_46, e152_47, e152_49, e152_52, rk_n, rk_v, nl_n, nl_i, nl_r, cat_n, ip_cat_int, ip_cat_ref, ip_cat_long, ip_rf_some, Nat.reduceAdd, Nat.reduceLeDiff, Nat.reduceLT, Nat.le_refl, Nat.zero_le, e6, g1, q1, Bool.false_eq_true, Bool.true_eq_false, if_true, if_false, not_true_eq_false, not_false_eq_true, zle, eq_self]
  · by_cases q2 : m = hi
    · by_cases q3 : m ≤ 0
      · rw [if_neg (by omega)]
        subst q2
        simp only [en152, e152_0, e152_1, e152_2, e152_5, e152_8, e152_9, e152_10, e152_13, e152_16, e152_17, e152_20, e152_21, e152_22, e152_25, e152_28, e152_31, e152_32, e152_33, e152_36, e152_37, e152_38, e152_41, e152_42, e152_43, e152_46, e152_47, e152_49, e152_52, rk_n, rk_v, nl_n, nl_i, nl_r, cat_n, ip_cat_int, ip_cat_ref, ip_cat_long, ip_rf_some, Nat.reduceAdd, Nat.reduceLeDiff, Nat.reduceLT, Nat.le_refl, Nat.zero_le, e6, g1, q1, g3, q3, Int32.lt_irrefl, Bool.false_eq_true, Bool.true_eq_false, if_true, if_false, not_true_eq_false, not_false_eq_true, zle, eq_self]
      · by_cases q4 : smN s f0 = true
        · rw [if_pos (Or.inr ⟨q2, by omega, q4⟩)]
          subst q2
          simp only [en152, e152_0, e152_1, e152_2, e152_5, e152_8, e152_9, e152_10, e152_13, e152_16, e152_17, e152_20, e152_21, e152_22, e152_25, e152_28, e152_31, e152_32, e152_33, e152_36, e152_37, e152_38, e152_41, e152_42, e152_43, e152_46, e152_47, e152_49, e152_52, rk_n, rk_v, nl_n, nl_i, nl_r, cat_n, ip_cat_int, ip_cat_ref, ip_cat_long, ip_rf_some, Nat.reduceAdd, Nat.reduceLeDiff, Nat.reduceLT, Nat.le_refl, Nat.zero_le, e6, e4, g1, q1, g3, q3, c133 hs l4, q4, Int32.lt_irrefl, Bool.false_eq_true, Bool.true_eq_false, if_true, if_false, not_true_eq_false, not_false_eq_true, zle, eq_self]
        · rw [if_neg (fun e => e.elim q1 (fun e => q4 e.2.2))]
          subst q2
          simp only [en152, e152_0, e152_1, e152_2, e152_5, e152_8, e152_9, e152_10, e152_13, e152_16, e152_17, e152_20, e152_21, e152_22, e152_25, e152_28, e152_31, e152_32, e152_33, e152_36, e152_37, e152_38, e152_41, e152_42, e152_43, e152_46, e152_47, e152_49, e152_52, rk_n, rk_v, nl_n, nl_i, nl_r, cat_n, ip_cat_int, ip_cat_ref, ip_cat_long, ip_rf_some, Nat.reduceAdd, Nat.reduceLeDiff, Nat.reduceLT, Nat.le_refl, Nat.zero_le, e6, e4, g1, q1, g3, q3, c133 hs l4, q4, Int32.lt_irrefl, Bool.false_eq_true, Bool.true_eq_false, if_true, if_false, not_true_eq_false, not_false_eq_true, zle, eq_self]
    · rw [if_neg (fun e => e.elim q1 (fun e => q2 e.1))]
      simp only [en152, e152_0, e152_1, e152_2, e152_5, e152_8, e152_9, e152_10, e152_13, e152_16, e152_17, e152_20, e152_21, e152_22, e152_25, e152_28, e152_31, e152_32, e152_33, e152_36, e152_37, e152_38, e152_41, e152_42, e152_43, e152_46, e152_47, e152_49, e152_52, rk_n, rk_v, nl_n, nl_i, nl_r, cat_n, ip_cat_int, ip_cat_ref, ip_cat_long, ip_rf_some, Nat.reduceAdd, Nat.reduceLeDiff, Nat.reduceLT, Nat.le_refl, Nat.zero_le, e6, g1, g2, q1, q2, Bool.false_eq_true, Bool.true_eq_false, if_true, if_false, not_true_eq_false, not_false_eq_true, zle, eq_self]
/-- the errors there may be at level 2, behind a set briefed at level 1 -/
def E2b (V : Nat → Nat) (fl : Nat → Int32) (ap s S0 k : Nat) : Bool := agN V k ap && (!(V 7).testBit k || ((V 8).testBit k && !S0.testBit k) || decide (fl k = 9)) && (((V (14 + ap)).testBit k && s.testBit k) || !decide (fl k < 8))
def E2 (c : Nat) (std rst : Nat → Nat) (br : Nat → Int32) (win : Nat → Bool) (V : Nat → Nat) (fl : Nat → Int32) (lev ap s : Nat) : Nat := setN (fun k => E2b V fl ap s (s &&& heardN c std rst br win V fl lev ap) k && !decide (fl k < br (3 + std k))) c
theorem why2 (a2 : ap < 2) (hk : k < 8) : (whyI (V2 V ap s o) fl 2 k ap = 0) = (E2b V fl ap s o k = true) := by
  have ag : agN (V2 V ap s o) k ap = agN V k ap := rfl
  have t8 : (V2 V ap s o 8).testBit k = ((V 8).testBit k && !o.testBit k) := by
    show (V 8 &&& (255 ^^^ o)).testBit k = _
    rw [Nat.testBit_and, tbn, decide_eq_true hk, Bool.true_xor]
  have kk : agN V k ap = true → (V2 V ap s o (14 + ap)).testBit k = (V (14 + ap)).testBit k := by
    intro e
    have e6 : (V 6).testBit k = false := by
      unfold agN at e
      cases q : (V 6).testBit k with
      | false => rfl
      | true => rw [q] at e; cases e
    rcases lt2 a2 with rfl | rfl
    · show (V 14 &&& (255 ^^^ V 6)).testBit k = _
      rw [Nat.testBit_and, tbn, decide_eq_true hk, e6]; simp
    · show (V 15 &&& (255 ^^^ V 6)).testBit k = _
      rw [Nat.testBit_and, tbn, decide_eq_true hk, e6]; simp
  have bb : V2 V ap s o (12 + ap) = s := by rcases lt2 a2 with rfl | rfl <;> rfl
  unfold whyI E2b
  rw [ag]
  cases ha : agN V k ap with
  | false => simp
  | true =>
    have e14 := kk ha
    have r : raisN (V2 V ap s o) 2 k ap = ((V (14 + ap)).testBit k && s.testBit k) := by
      unfold raisN
      rw [if_pos rfl, e14, bb]
      show ((V (14 + ap)).testBit k && s.testBit k || (0 : Nat).testBit k) = _
      rw [Nat.zero_testBit, Bool.or_false]
    have hh : heldN (V2 V ap s o) 2 = V 7 := rfl
    rw [hh, t8, r]
    by_cases g9 : fl k = 9
    · have n98 : ¬ (fl k < 8) := by rw [g9]; decide
      simp [g9]
    · by_cases g8 : fl k < 8
      · cases (V 7).testBit k <;> cases (V 8).testBit k <;> cases o.testBit k <;> cases (V (14 + ap)).testBit k <;> cases s.testBit k <;> simp [g9, g8]
      · cases (V 7).testBit k <;> cases (V 8).testBit k <;> cases o.testBit k <;> simp [g9, g8]
theorem errS2 (a2 : ap < 2) (hc8 : c ≤ 8) : errS c std rst br win (V2 V ap s (s &&& heardN c std rst br win V fl lev ap)) fl 2 ap = E2 c std rst br win V fl lev ap s := by
  unfold errS E2
  apply setN_congr
  intro k hk
  have := why2 (V := V) (fl := fl) (s := s) (o := s &&& heardN c std rst br win V fl lev ap) a2 (show k < 8 by omega)
  simp only [this]
  simp
end CH
