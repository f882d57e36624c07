/-! JUDGE: the class -/
section JU
variable {n d a b T c s t z o w m p lev k side ap b0 b1 h0 h1 md C F B pg po u : Nat} {I J K : Nat → Nat → Int32} {L : Nat → Nat → Int64} {R : Nat → Nat → Option Nat} {nc ns : Nat} {nx : Bool} {x y j v lv hw0 what : Int32} {h : ip_H} {f g std rst V : Nat → Nat} {win : Nat → Bool} {br fl : Nat → Int32}
/-- how, by what both brief -/
def jO (c : Nat) (std rst : Nat → Nat) (br : Nat → Int32) (win : Nat → Bool) (V : Nat → Nat) (fl : Nat → Int32) (lev ap b0 b1 : Nat) : Int32 := outE c std rst br win V fl lev ap (fstN ap b0 b1 &&& errS c std rst br win V fl lev ap) ((fstN ap b0 b1 &&& errS c std rst br win V fl lev ap) ||| (fstN ap b1 b0 &&& errS c std rst br win V fl lev (1 - ap)))
/-- what is heard and counts -/
def jS (c : Nat) (std rst : Nat → Nat) (br : Nat → Int32) (win : Nat → Bool) (V : Nat → Nat) (fl : Nat → Int32) (lev ap b0 b1 : Nat) : Nat := if jO c std rst br win V fl lev ap b0 b1 = 0 then fstN ap b0 b1 &&& heardN c std rst br win V fl lev ap else (fstN ap b0 b1 &&& heardN c std rst br win V fl lev ap) ||| (fstN ap b1 b0 &&& heardN c std rst br win V fl lev (1 - ap))
def stands (x : Int32) : Prop := x = 0 ∨ x = 1
def jP (c : Nat) (std rst : Nat → Nat) (br : Nat → Int32) (win : Nat → Bool) (V : Nat → Nat) (fl : Nat → Int32) (lev ap b0 b1 : Nat) : Nat := if jO c std rst br win V fl lev ap b0 b1 = 0 ∨ jO c std rst br win V fl lev ap b0 b1 = 1 then V 6 else opnN c std rst br win V fl lev (errN c std rst br win V fl lev (jS c std rst br win V fl lev ap b0 b1))
def jT (c : Nat) (std rst : Nat → Nat) (br : Nat → Int32) (win : Nat → Bool) (V : Nat → Nat) (fl : Nat → Int32) (lev ap b0 b1 : Nat) : Nat := if jO c std rst br win V fl lev ap b0 b1 = 0 ∨ jO c std rst br win V fl lev ap b0 b1 = 1 then 0 else trnN c std rst br win V fl lev (errN c std rst br win V fl lev (jS c std rst br win V fl lev ap b0 b1))
theorem heardN_lt : heardN c std rst br win V fl lev side < 2 ^ c := setN_lt _ c
theorem fstN_lt (q0 : b0 < o) (q1 : b1 < o) : fstN ap b0 b1 < o := by unfold fstN; split <;> assumption
theorem jS_lt (q0 : b0 < 2 ^ c) (q1 : b1 < 2 ^ c) : jS c std rst br win V fl lev ap b0 b1 < 2 ^ c := by
  unfold jS
  split
  · exact Nat.lt_of_le_of_lt Nat.and_le_left (fstN_lt q0 q1)
  · exact Nat.or_lt_two_pow (Nat.lt_of_le_of_lt Nat.and_le_left (fstN_lt q0 q1)) (Nat.lt_of_le_of_lt Nat.and_le_left (fstN_lt q1 q0))
theorem jS_sub {i : Nat} (a2 : ap < 2) (e : (jS c std rst br win V fl lev ap b0 b1).testBit i = true) : (heardN c std rst br win V fl lev 0).testBit i = true ∨ (heardN c std rst br win V fl lev 1).testBit i = true := by
  have q : (heardN c std rst br win V fl lev ap).testBit i = true ∨ (heardN c std rst br win V fl lev (1 - ap)).testBit i = true := by
    unfold jS at e
    split at e
    · rw [Nat.testBit_and, Bool.and_eq_true] at e; exact Or.inl e.2
    · rw [Nat.testBit_or, Nat.testBit_and, Nat.testBit_and, Bool.or_eq_true, Bool.and_eq_true, Bool.and_eq_true] at e
      exact e.imp And.right And.right
  rcases lt2 a2 with rfl | rfl
  · exact q
  · exact q.symm
theorem jE (a2 : ap < 2) : jS c std rst br win V fl lev ap b0 b1 &&& (errS c std rst br win V fl lev 0 ||| errS c std rst br win V fl lev 1) = errN c std rst br win V fl lev (jS c std rst br win V fl lev ap b0 b1) := by
  apply Nat.eq_of_testBit_eq
  intro i
  have sub := jS_sub (c := c) (std := std) (rst := rst) (br := br) (win := win) (V := V) (fl := fl) (lev := lev) (b0 := b0) (b1 := b1) (i := i) a2
  unfold errN
  rw [Nat.testBit_and, Nat.testBit_or, setN_bit]
  unfold heardN at sub
  unfold errS
  rw [setN_bit, setN_bit] at sub ⊢
  generalize (jS c std rst br win V fl lev ap b0 b1).testBit i = q at *
  cases q with
  | false => simp
  | true =>
    have := sub rfl
    revert this
    cases decide (i < c) <;> cases decide (whyI V fl lev i 0 = 0) <;> cases decide (whyI V fl lev i 1 = 0) <;> simp
theorem trn_eq (hm : m < 2 ^ c) : m &&& anwA std c &&& (255 ^^^ opnN c std rst br win V fl lev m) = trnN c std rst br win V fl lev m := by
  unfold trnN
  apply congrArg (fun v => v &&& (255 ^^^ opnN c std rst br win V fl lev m))
  apply Nat.eq_of_testBit_eq
  intro i
  unfold anwN anwA
  rw [Nat.testBit_and, setN_bit, setN_bit]
  cases m.testBit i <;> cases decide (i < c) <;> rfl
def atJ (C a k : Nat) : Prop := (a = C ∧ 8 ≤ k ∧ k ≤ 12) ∨ a = C + 15
theorem errN_2c : errN c std rst br win V fl lev s < 2 ^ c := setN_lt _ c
theorem c108 (hR : LYR R) (hC : isC C) (X : CTx T c std rst br win I L) (N : CNd F B c lev V fl I) (S : SIT C T F B c std rst br win V fl lev ap I R) (a2 : ap < 2) (q0 : b0 < 2 ^ c) (q1 : b1 < 2 ^ c) :
    ∃ J, cf (d + 3) 108 [.ref C, .int (Int32.ofNat b0), .int (Int32.ofNat b1)] (SH n, I, L, R, nc, ns, nx) = some (.inl none, (SH n, J, L, R, nc, ns, nx)) ∧ onlyP (atJ C) I J ∧ J C 8 = jO c std rst br win V fl lev ap b0 b1 ∧ J C 9 = Int32.ofNat (jS c std rst br win V fl lev ap b0 b1) ∧ J C 10 = Int32.ofNat (errN c std rst br win V fl lev (jS c std rst br win V fl lev ap b0 b1)) ∧ J C 11 = Int32.ofNat (jT c std rst br win V fl lev ap b0 b1) ∧ J C 12 = Int32.ofNat (jP c std rst br win V fl lev ap b0 b1) ∧ J (C + 15) 0 = Int32.ofNat b0 ∧ J (C + 15) 1 = Int32.ofNat b1 := by
  have hc8 := X.2.1
  have hT := X.1
  have nF := N.1
  have nB := N.2.1
  have v8 := N.2.2.1
  have i6 := N.2.2.2.2.2.1
  have n15 : ∀ j, j = 0 ∨ j = 13 ∨ j = 14 → ∀ k, k < 8 → ¬ atJ C (C + j) k := by
    rintro j hj k hk (⟨e1, e2⟩ | e)
    · omega
    · omega
  have fT : ∀ i, i ≤ 6 → ∀ k, ¬ atJ C (T + i) k := by
    rintro i hi k (⟨e, -⟩ | e)
    · exact dis_T (j := 0) hC hT hi (Or.inl rfl) e
    · exact dis_T hC hT hi (Or.inr (by omega)) e
  have fF : ∀ i, i ≤ 3 → ∀ k, ¬ atJ C (F + i) k := by
    rintro i hi k (⟨e, -⟩ | e)
    · exact dis_N (j := 0) hC nF (by omega) (Or.inl rfl) e
    · exact dis_N hC nF (by omega) (Or.inr (by omega)) e
  have fB : ¬ atJ C B 7 := by
    rintro (⟨e, -⟩ | e)
    · exact dis_N (i := 0) (j := 0) hC nB (by omega) (Or.inl rfl) e
    · exact dis_N (i := 0) hC nB (by omega) (Or.inr (by omega)) e
  have kT : ∀ J, onlyP (atJ C) I J → CTx T c std rst br win J L := fun J o => CTx_P o fT X
  have kN : ∀ J, onlyP (atJ C) I J → CNd F B c lev V fl J := fun J o => CNd_P o fF fB N
  have kS : ∀ J, onlyP (atJ C) I J → SIT C T F B c std rst br win V fl lev ap J R := by
    intro J o
    obtain ⟨r0, r1, r2, s3, s4, s5, sh⟩ := S
    refine ⟨r0, r1, r2, ?_, ?_, ?_, ?_⟩
    · rw [o C 3 (n15 0 (by omega) 3 (by omega))]; exact s3
    · rw [o C 4 (n15 0 (by omega) 4 (by omega))]; exact s4
    · rw [o C 5 (n15 0 (by omega) 5 (by omega))]; exact s5
    · intro s hs; rw [o _ _ (n15 13 (by omega) s (by omega)), o _ _ (n15 14 (by omega) s (by omega))]; exact sh s hs
  have lap : ap < 2147483648 := by omega
  have s1 : (1 : Int32) - Int32.ofNat (1 - ap) = Int32.ofNat ap := by rcases lt2 a2 with rfl | rfl <;> decide
  have l1 : 1 - ap < 2147483648 := by omega
  have l2 : 1 - ap < 2 := by omega
  -- behind the briefs
  generalize hI1 : ip_up (ip_up I (C + 15) 0 (Int32.ofNat b0)) (C + 15) 1 (Int32.ofNat b1) = I1
  have o1 : onlyP (atJ C) I I1 := by rw [← hI1]; exact onlyP_up (onlyP_up onlyP_refl (Or.inr rfl)) (Or.inr rfl)
  have c0 : I1 (C + 15) 0 = Int32.ofNat b0 := by rw [← hI1, up_k (by decide), up_eq]
  have c1 : I1 (C + 15) 1 = Int32.ofNat b1 := by rw [← hI1, up_eq]
  have cA : I1 (C + 15) ap = Int32.ofNat (fstN ap b0 b1) := by rcases lt2 a2 with rfl | rfl <;> assumption
  have cB : I1 (C + 15) (1 - ap) = Int32.ofNat (fstN ap b1 b0) := by rcases lt2 a2 with rfl | rfl <;> assumption
  have S1 := kS I1 o1
  have sh1 := S1.2.2.2.2.2.2
  have s41 := S1.2.2.2.2.1
  have r0 := S.1
  have r1 := S.2.1
  obtain ⟨hA, -⟩ := sh1 ap a2
  obtain ⟨hB, -⟩ := sh1 (1 - ap) l2
  have E1 := c109 (d := d + 2) (n := n) (L := L) (nc := nc) (ns := ns) (nx := nx) hR hC S1 a2
  have E2 := c110 (d := d + 2) (n := n) (L := L) (nc := nc) (ns := ns) (nx := nx) hR hC S1 a2
  have qA : fstN ap b0 b1 &&& errS c std rst br win V fl lev ap < 2 ^ c := Nat.lt_of_le_of_lt Nat.and_le_left (fstN_lt q0 q1)
  have qB : fstN ap b1 b0 &&& errS c std rst br win V fl lev (1 - ap) < 2 ^ c := Nat.lt_of_le_of_lt Nat.and_le_left (fstN_lt q1 q0)
  have O := c111 (d := d) (n := n) (nc := nc) (ns := ns) (nx := nx) hR hC (kT I1 o1) (kN I1 o1) S1 qA qB
  have eO : outE c std rst br win V fl lev ap (fstN ap b0 b1 &&& errS c std rst br win V fl lev ap) ((fstN ap b0 b1 &&& errS c std rst br win V fl lev ap) ||| (fstN ap b1 b0 &&& errS c std rst br win V fl lev (1 - ap))) = jO c std rst br win V fl lev ap b0 b1 := rfl
  rw [eO] at O
  have a1 : (fstN ap b0 b1 &&& heardN c std rst br win V fl lev ap) &&& errS c std rst br win V fl lev ap = fstN ap b0 b1 &&& errS c std rst br win V fl lev ap := by rw [Nat.and_assoc, heard_err]
  have a3 : (fstN ap b1 b0 &&& heardN c std rst br win V fl lev (1 - ap)) &&& errS c std rst br win V fl lev (1 - ap) = fstN ap b1 b0 &&& errS c std rst br win V fl lev (1 - ap) := by rw [Nat.and_assoc, heard_err]
  have n1 : ¬ C = C + 15 := by omega
  have n2 : ¬ C + 14 = C := by omega
  have n3 : ¬ C + 13 = C := by omega
  have n4 : ¬ C + 15 = C := by omega
  have front : cf (d + 3) 108 [.ref C, .int (Int32.ofNat b0), .int (Int32.ofNat b1)] (SH n, I, L, R, nc, ns, nx) = rf (d + 3) 108 80 [some (.ref C), some (.int (Int32.ofNat b0)), some (.int (Int32.ofNat b1)), some (.int (Int32.ofNat (fstN ap b0 b1 &&& heardN c std rst br win V fl lev ap))), some (.int (Int32.ofNat (fstN ap b1 b0 &&& heardN c std rst br win V fl lev (1 - ap)))), none] [] (SH n, ip_up I1 C 8 (jO c std rst br win V fl lev ap b0 b1), L, R, nc, ns, nx) := by
    have k1 : ip_up I (C + 15) 0 (Int32.ofNat b0) C 4 = I C 4 := up_a n1
    simp only [en108, e108_0, e108_1, e108_4, e108_5, e108_6, e108_7, e108_8, e108_11, e108_12, e108_13, e108_14, e108_15, e108_18, e108_19, e108_20, e108_23, e108_24, e108_25, e108_26, e108_29, e108_30, e108_31, e108_34, e108_35, e108_36, e108_37, e108_38, e108_39, e108_42, e108_43, e108_46, e108_47, e108_48, e108_51, e108_52, e108_55, e108_56, e108_57, e108_59, e108_60, e108_61, e108_62, e108_63, e108_66, e108_67, e108_69, e108_70, e108_73, e108_74, e108_77, rk_n, rk_v, nl_n, nl_i, nl_r, cat_n, ip_cat_int, ip_cat_ref, ip_cat_long, ip_rf_some, Nat.reduceAdd, Nat.reduceLeDiff, Nat.reduceLT, Nat.le_refl, Nat.zero_le, hR, hC, ia_C15 hC, ia_C13 hC, inbL, tnL, hI1, s41, s1, nu_i, nu_tn, lap, a2, l1, l2, cA, cB, hA, hB, of_and, E1, E2, a1, a3, O, Bool.false_eq_true, Bool.true_eq_false, if_true, if_false, not_true_eq_false, not_false_eq_true, zle, eq_self]
  -- from 80 on
  have hO : jO c std rst br win V fl lev ap b0 b1 = 0 ∨ jO c std rst br win V fl lev ap b0 b1 = 1 ∨ jO c std rst br win V fl lev ap b0 b1 = 2 ∨ jO c std rst br win V fl lev ap b0 b1 = 3 := outE_4
  generalize hI2 : ip_up I1 C 8 (jO c std rst br win V fl lev ap b0 b1) = I2 at front
  have o2 : onlyP (atJ C) I I2 := by rw [← hI2]; exact onlyP_up o1 (Or.inl ⟨rfl, by omega⟩)
  have x8 : I2 C 8 = jO c std rst br win V fl lev ap b0 b1 := by rw [← hI2, up_eq]
  have y0 : ∀ k, I2 (C + 15) k = I1 (C + 15) k := by intro k; rw [← hI2, up_a n4]
  have S2 := kS I2 o2
  obtain ⟨-, er0⟩ := S2.2.2.2.2.2.2 0 (by omega)
  obtain ⟨-, er1⟩ := S2.2.2.2.2.2.2 1 (by omega)
  generalize hI3 : ip_up I2 C 9 (Int32.ofNat (jS c std rst br win V fl lev ap b0 b1)) = I3
  have o3 : onlyP (atJ C) I I3 := by rw [← hI3]; exact onlyP_up o2 (Or.inl ⟨rfl, by omega⟩)
  have mid : rf (d + 3) 108 80 [some (.ref C), some (.int (Int32.ofNat b0)), some (.int (Int32.ofNat b1)), some (.int (Int32.ofNat (fstN ap b0 b1 &&& heardN c std rst br win V fl lev ap))), some (.int (Int32.ofNat (fstN ap b1 b0 &&& heardN c std rst br win V fl lev (1 - ap)))), none] [] (SH n, I2, L, R, nc, ns, nx) = rf (d + 3) 108 99 [some (.ref C), some (.int (Int32.ofNat b0)), some (.int (Int32.ofNat b1)), some (.int (Int32.ofNat (fstN ap b0 b1 &&& heardN c std rst br win V fl lev ap))), some (.int (Int32.ofNat (fstN ap b1 b0 &&& heardN c std rst br win V fl lev (1 - ap)))), none] [] (SH n, I3, L, R, nc, ns, nx) := by
    rw [← hI3]
    unfold jS
    by_cases g : jO c std rst br win V fl lev ap b0 b1 = 0
    · simp only [e108_80, e108_81, e108_82, e108_85, e108_88, e108_89, e108_92, e108_93, e108_95, e108_96, rk_n, rk_v, nl_n, nl_i, nl_r, cat_n, ip_cat_int, ip_cat_ref, ip_cat_long, ip_rf_some, Nat.reduceAdd, Nat.reduceLeDiff, Nat.reduceLT, Nat.le_refl, Nat.zero_le, hC, x8, g, of_or, Bool.false_eq_true, Bool.true_eq_false, if_true, if_false, not_true_eq_false, not_false_eq_true, zle, eq_self]
    · simp only [e108_80, e108_81, e108_82, e108_85, e108_88, e108_89, e108_92, e108_93, e108_95, e108_96, rk_n, rk_v, nl_n, nl_i, nl_r, cat_n, ip_cat_int, ip_cat_ref, ip_cat_long, ip_rf_some, Nat.reduceAdd, Nat.reduceLeDiff, Nat.reduceLT, Nat.le_refl, Nat.zero_le, hC, x8, g, of_or, Bool.false_eq_true, Bool.true_eq_false, if_true, if_false, not_true_eq_false, not_false_eq_true, zle, eq_self]
  have x9 : I3 C 9 = Int32.ofNat (jS c std rst br win V fl lev ap b0 b1) := by rw [← hI3, up_eq]
  have x83 : I3 C 8 = jO c std rst br win V fl lev ap b0 b1 := by rw [← hI3, up_k (by decide)]; exact x8
  have e03 : I3 (C + 14) 0 = Int32.ofNat (errS c std rst br win V fl lev 0) := by rw [← hI3, up_a n2]; exact er0
  have e13 : I3 (C + 14) 1 = Int32.ofNat (errS c std rst br win V fl lev 1) := by rw [← hI3, up_a n2]; exact er1
  have y3 : ∀ k, I3 (C + 15) k = I1 (C + 15) k := by intro k; rw [← hI3, up_a n4]; exact y0 k
  generalize hI4 : ip_up I3 C 10 (Int32.ofNat (errN c std rst br win V fl lev (jS c std rst br win V fl lev ap b0 b1))) = I4
  have o4 : onlyP (atJ C) I I4 := by rw [← hI4]; exact onlyP_up o3 (Or.inl ⟨rfl, by omega⟩)
  have X4 := kT I4 o4
  have N4 := kN I4 o4
  have S4 := kS I4 o4
  have x10 : I4 C 10 = Int32.ofNat (errN c std rst br win V fl lev (jS c std rst br win V fl lev ap b0 b1)) := by rw [← hI4, up_eq]
  have x94 : I4 C 9 = Int32.ofNat (jS c std rst br win V fl lev ap b0 b1) := by rw [← hI4, up_k (by decide)]; exact x9
  have x84 : I4 C 8 = jO c std rst br win V fl lev ap b0 b1 := by rw [← hI4, up_k (by decide)]; exact x83
  have y4 : ∀ k, I4 (C + 15) k = I1 (C + 15) k := by intro k; rw [← hI4, up_a n4]; exact y3 k
  have OB := c113 (d := d + 2) (n := n) (nc := nc) (ns := ns) (nx := nx) hR hC X4 N4 S4 (m := errN c std rst br win V fl lev (jS c std rst br win V fl lev ap b0 b1)) errN_2c
  have i64 := N4.2.2.2.2.2.1
  have s54 := S4.2.2.2.2.2.1
  have e8 : errN c std rst br win V fl lev (jS c std rst br win V fl lev ap b0 b1) < 256 := errN_lt hc8
  have aL : anwA std c < 256 := setN_256 _ hc8
  have w1 := of_andn (errN c std rst br win V fl lev (jS c std rst br win V fl lev ap b0 b1) &&& anwA std c) (Nat.lt_of_le_of_lt Nat.and_le_left e8) (opnN c std rst br win V fl lev (errN c std rst br win V fl lev (jS c std rst br win V fl lev ap b0 b1))) (opnN_lt hc8 v8 e8)
  rw [trn_eq errN_2c] at w1
  have JE := jE (c := c) (std := std) (rst := rst) (br := br) (win := win) (V := V) (fl := fl) (lev := lev) (b0 := b0) (b1 := b1) a2
  refine ⟨ip_up (ip_up I4 C 12 (Int32.ofNat (jP c std rst br win V fl lev ap b0 b1))) C 11 (Int32.ofNat (jT c std rst br win V fl lev ap b0 b1)), ?_, onlyP_up (onlyP_up o4 (Or.inl ⟨rfl, by omega⟩)) (Or.inl ⟨rfl, by omega⟩), ?_, ?_, ?_, ?_, ?_, ?_, ?_⟩
  · rw [front, mid]
    unfold jP jT
    by_cases g0 : jO c std rst br win V fl lev ap b0 b1 = 0
    · simp only [e108_0, e108_1, e108_4, e108_5, e108_6, e108_7, e108_8, e108_11, e108_12, e108_13, e108_14, e108_15, e108_18, e108_19, e108_20, e108_23, e108_24, e108_25, e108_26, e108_29, e108_30, e108_31, e108_34, e108_35, e108_36, e108_37, e108_38, e108_39, e108_42, e108_43, e108_46, e108_47, e108_48, e108_51, e108_52, e108_55, e108_56, e108_57, e108_59, e108_60, e108_61, e108_62, e108_63, e108_66, e108_67, e108_69, e108_70, e108_73, e108_74, e108_77, e108_80, e108_81, e108_82, e108_85, e108_88, e108_89, e108_92, e108_93, e108_95, e108_96, e108_99, e108_100, e108_101, e108_104, e108_105, e108_108, e108_109, e108_110, e108_111, e108_114, e108_115, e108_116, e108_117, e108_118, e108_121, e108_122, e108_125, e108_128, e108_129, e108_132, e108_133, e108_136, e108_137, e108_140, e108_141, e108_143, e108_144, e108_146, e108_149, e108_150, e108_153, e108_156, e108_159, e108_160, e108_161, e108_164, e108_167, e108_170, e108_171, e108_173, e108_176, e108_177, e108_180, e108_181, e108_184, e108_185, e108_188, e108_189, e108_190, e108_193, e108_194, e108_195, e108_196, e108_199, rk_n, rk_v, nl_n, nl_i, nl_r, cat_n, ip_cat_int, ip_cat_ref, ip_cat_long, ip_rf_some, Nat.reduceAdd, Nat.reduceLeDiff, Nat.reduceLT, Nat.le_refl, Nat.zero_le, hR, hC, ia_C14 hC, inbL, tnL, x9, e03, e13, of_or, of_and, JE, hI4, x84, g0, nF, r1, i64, true_or, or_true, Bool.false_eq_true, Bool.true_eq_false, if_true, if_false, not_true_eq_false, not_false_eq_true, zle, eq_self]
      rfl
    · by_cases g1 : jO c std rst br win V fl lev ap b0 b1 = 1
      · simp only [e108_0, e108_1, e108_4, e108_5, e108_6, e108_7, e108_8, e108_11, e108_12, e108_13, e108_14, e108_15, e108_18, e108_19, e108_20, e108_23, e108_24, e108_25, e108_26, e108_29, e108_30, e108_31, e108_34, e108_35, e108_36, e108_37, e108_38, e108_39, e108_42, e108_43, e108_46, e108_47, e108_48, e108_51, e108_52, e108_55, e108_56, e108_57, e108_59, e108_60, e108_61, e108_62, e108_63, e108_66, e108_67, e108_69, e108_70, e108_73, e108_74, e108_77, e108_80, e108_81, e108_82, e108_85, e108_88, e108_89, e108_92, e108_93, e108_95, e108_96, e108_99, e108_100, e108_101, e108_104, e108_105, e108_108, e108_109, e108_110, e108_111, e108_114, e108_115, e108_116, e108_117, e108_118, e108_121, e108_122, e108_125, e108_128, e108_129, e108_132, e108_133, e108_136, e108_137, e108_140, e108_141, e108_143, e108_144, e108_146, e108_149, e108_150, e108_153, e108_156, e108_159, e108_160, e108_161, e108_164, e108_167, e108_170, e108_171, e108_173, e108_176, e108_177, e108_180, e108_181, e108_184, e108_185, e108_188, e108_189, e108_190, e108_193, e108_194, e108_195, e108_196, e108_199, rk_n, rk_v, nl_n, nl_i, nl_r, cat_n, ip_cat_int, ip_cat_ref, ip_cat_long, ip_rf_some, Nat.reduceAdd, Nat.reduceLeDiff, Nat.reduceLT, Nat.le_refl, Nat.zero_le, hR, hC, ia_C14 hC, inbL, tnL, x9, e03, e13, of_or, of_and, JE, hI4, x84, g0, g1, nF, r1, i64, true_or, or_true, Bool.false_eq_true, Bool.true_eq_false, if_true, if_false, not_true_eq_false, not_false_eq_true, zle, eq_self]
        rfl
      · simp only [e108_0, e108_1, e108_4, e108_5, e108_6, e108_7, e108_8, e108_11, e108_12, e108_13, e108_14, e108_15, e108_18, e108_19, e108_20, e108_23, e108_24, e108_25, e108_26, e108_29, e108_30, e108_31, e108_34, e108_35, e108_36, e108_37, e108_38, e108_39, e108_42, e108_43, e108_46, e108_47, e108_48, e108_51, e108_52, e108_55, e108_56, e108_57, e108_59, e108_60, e108_61, e108_62, e108_63, e108_66, e108_67, e108_69, e108_70, e108_73, e108_74, e108_77, e108_80, e108_81, e108_82, e108_85, e108_88, e108_89, e108_92, e108_93, e108_95, e108_96, e108_99, e108_100, e108_101, e108_104, e108_105, e108_108, e108_109, e108_110, e108_111, e108_114, e108_115, e108_116, e108_117, e108_118, e108_121, e108_122, e108_125, e108_128, e108_129, e108_132, e108_133, e108_136, e108_137, e108_140, e108_141, e108_143, e108_144, e108_146, e108_149, e108_150, e108_153, e108_156, e108_159, e108_160, e108_161, e108_164, e108_167, e108_170, e108_171, e108_173, e108_176, e108_177, e108_180, e108_181, e108_184, e108_185, e108_188, e108_189, e108_190, e108_193, e108_194, e108_195, e108_196, e108_199, rk_n, rk_v, nl_n, nl_i, nl_r, cat_n, ip_cat_int, ip_cat_ref, ip_cat_long, ip_rf_some, Nat.reduceAdd, Nat.reduceLeDiff, Nat.reduceLT, Nat.le_refl, Nat.zero_le, hR, hC, ia_C14 hC, inbL, tnL, x9, e03, e13, of_or, of_and, JE, hI4, x84, g0, g1, x10, OB, s54, up_eq, up_k, Nat.reduceEqDiff, w1, or_self, Bool.false_eq_true, Bool.true_eq_false, if_true, if_false, not_true_eq_false, not_false_eq_true, zle, eq_self]
  · rw [up_k (by decide), up_k (by decide)]; exact x84
  · rw [up_k (by decide), up_k (by decide)]; exact x94
  · rw [up_k (by decide), up_k (by decide)]; exact x10
  · rw [up_eq]
  · rw [up_k (by decide), up_eq]
  · rw [up_a n4, up_a n4, y4]; exact c0
  · rw [up_a n4, up_a n4, y4]; exact c1
end JU
