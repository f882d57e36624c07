/-! MAKENODE: the class, the whole of it -/
section MM
variable {n d a b T c s t z o w m p lev k side ap b0 b1 h0 h1 md C F B pg po u A tt oo S0 : Nat} {I J K M : Nat → Nat → Int32} {L : Nat → Nat → Int64} {R : Nat → Nat → Option Nat} {nc ns : Nat} {nx : Bool} {x y j v lv hw0 what ah num hw : Int32} {h : ip_H} {f g std rst V : Nat → Nat} {win : Nat → Bool} {br fl : Nat → Int32}
theorem nA (nA : isN A) (hC : isC C) {i j : Nat} (hi : i ≤ 4) (hj : j = 0 ∨ (13 ≤ j ∧ j ≤ 15)) : ¬ C + j = A + i := fun e => dis_N hC nA hi hj e.symm
theorem tA (hT : isT T) (nA : isN A) {i j : Nat} (hi : i ≤ 4) (hj : j ≤ 6) : ¬ T + j = A + i := by
  unfold isT at hT
  unfold isN at nA
  rcases nA with rfl | rfl | rfl | ⟨q, hq, rfl⟩ <;> omega
def lostN (V : Nat → Nat) (lev ap : Nat) : Nat := if lev = 1 then (if ap = 1 then V 4 else V 5) else 0
/-- the node that is made of what was judged: how, counted heard, turned, open, briefs -/
theorem c114 (hR : LYR R) (hC : isC C) (X : CTx T c std rst br win I L) (N : CNd F B c lev V fl I) (S : SIT C T F B c std rst br win V fl lev ap I R) (a2 : ap < 2) (hl : lev = 1 ∨ lev = 2) (nA0 : isN A) (hab : A + 5 ≤ F ∨ F + 5 ≤ A)
    (j8 : I C 8 = hw) (j9 : I C 9 = Int32.ofNat S0) (j11 : I C 11 = Int32.ofNat tt) (j12 : I C 12 = Int32.ofNat oo) (jb0 : I (C + 15) 0 = Int32.ofNat b0) (jb1 : I (C + 15) 1 = Int32.ofNat b1) (lS : S0 < 256) (lo : oo < 256) (lt : tt < 256)
    (tc : ∀ i, tt.testBit i = true → i < c) (t6 : ∀ i, tt.testBit i = true → (V 6).testBit i = false) (o6 : ∀ i, (V 6).testBit i = true → oo.testBit i = true) :
    ∃ K, cf (d + 2) 114 [.ref C, .ref A, .int ah, .int num] (SH n, I, L, R, nc, ns, nx) = some (.inl none, (SH n, K, L, R, nc, ns, true)) ∧ onlyP (fun a _ => inN A a) I K ∧
      K A 0 = Int32.ofNat lev ∧ K A 1 = ah ∧ K A 2 = hw ∧ K A 3 = Int32.ofNat oo ∧ K A 4 = Int32.ofNat ((V 4 ^^^ tt) &&& (255 ^^^ oo)) ∧ K A 5 = Int32.ofNat ((V 5 ^^^ tt) &&& (255 ^^^ oo)) ∧ K A 6 = Int32.ofNat oo ∧
      K A 7 = Int32.ofNat ((V 7 ||| S0 ||| lostN V lev ap) &&& (255 ^^^ oo)) ∧ K A 8 = Int32.ofNat (V 8 &&& (255 ^^^ S0)) ∧ K A 9 = Int32.ofNat ap ∧ K A 10 = Int32.ofNat tt ∧ K A 11 = I F 11 ∧ K (A + 1) 0 = Int32.ofNat b0 ∧ K (A + 1) 1 = Int32.ofNat b1 ∧
      (∀ s, s < 2 → K (A + 2) s = Int32.ofNat (V (14 + s) &&& (255 ^^^ tt) &&& (255 ^^^ oo))) ∧ (∀ i, i < 8 → K (A + 3) i = (if tt.testBit i = true then 9 - I (F + 3) i else I (F + 3) i) ∧ K (A + 4) i = (if tt.testBit i = true then num else I (F + 4) i)) := by
  obtain ⟨hT, hc8, x6, -, -, -, -, -⟩ := X
  obtain ⟨nF, nB, v8, i4, i5, i6, i7, i8, i10, ib, ifl, iB, w5, w4⟩ := N
  obtain ⟨r0, r1, r2, s3, s4, s5, sh⟩ := S
  have lc := lt8 hc8
  obtain ⟨y0, y1, y2, y3⟩ := copy_get (I := I) hab
  have inA : ∀ i, i ≤ 4 → inN A (A + i) := fun i hi => by unfold inN; omega
  have nC : ∀ j, j = 0 ∨ (13 ≤ j ∧ j ≤ 15) → ¬ inN A (C + j) := by
    intro j hj e
    unfold inN at e
    exact nA (i := C + j - A) nA0 hC (by omega) hj (by omega)
  have nFA : ∀ j, j ≤ 4 → ¬ inN A (F + j) := by intro j hj e; unfold inN at e; omega
  have nTA : ∀ j, j ≤ 6 → ¬ inN A (T + j) := by
    intro j hj e
    unfold inN at e
    exact tA (i := T + j - A) hT nA0 (by omega) hj (by omega)
  have C0 : ∀ i, i ≤ 4 → ¬ C = A + i := fun i hi => nA (j := 0) nA0 hC hi (Or.inl rfl)
  have CA0 : ¬ C = A := C0 0 (by omega)
  have CA1 : ¬ C = A + 1 := C0 1 (by omega)
  have c3 : copyI I A F C 3 = I C 3 := y0 C 3 (nC 0 (Or.inl rfl))
  have c4 : copyI I A F C 4 = I C 4 := y0 C 4 (nC 0 (Or.inl rfl))
  have c8 : copyI I A F C 8 = I C 8 := y0 C 8 (nC 0 (Or.inl rfl))
  have c11 : copyI I A F C 11 = I C 11 := y0 C 11 (nC 0 (Or.inl rfl))
  have c15 : ∀ k, copyI I A F (C + 15) k = I (C + 15) k := fun k => y0 _ k (nC 15 (by omega))
  have CA15 : ¬ C + 15 = A := nA (i := 0) nA0 hC (by omega) (by omega)
  have s1 : (1 : Int32) - Int32.ofNat (1 - ap) = Int32.ofNat ap := by rcases lt2 a2 with rfl | rfl <;> decide
  have CP := c115 (d := d + 1) (n := n) (I := I) (L := L) (nc := nc) (ns := ns) (nx := nx) hR nA0 nF hab
  generalize hM : ip_up (ip_up (ip_up (ip_up (ip_up (ip_up (ip_up (copyI I A F) A 0 (Int32.ofNat lev)) A 1 ah) A 2 hw) A 9 (Int32.ofNat ap)) A 10 (Int32.ofNat tt)) (A + 1) 0 (Int32.ofNat b0)) (A + 1) 1 (Int32.ofNat b1) = M
  have front : cf (d + 2) 114 [.ref C, .ref A, .int ah, .int num] (SH n, I, L, R, nc, ns, nx) = rf (d + 2) 114 66 [some (.ref C), some (.ref A), some (.int ah), some (.int num), some (.int 0)] [] (SH n, M, L, R, nc, ns, true) := by
    rw [← hM]
    simp only [en114, e114_0, e114_1, e114_2, e114_5, e114_8, e114_9, e114_10, e114_13, e114_16, e114_17, e114_18, e114_21, e114_22, e114_23, e114_26, e114_29, e114_30, e114_31, e114_32, e114_35, e114_36, e114_39, e114_40, e114_41, e114_44, e114_47, e114_48, e114_49, e114_52, e114_53, e114_54, e114_55, e114_58, e114_59, e114_60, e114_63, e114_64, rk_n, rk_v, nl_n, nl_i, nl_r, cat_n, ip_cat_int, ip_cat_ref, ip_cat_long, ip_rf_some, Nat.reduceAdd, Nat.reduceLeDiff, Nat.reduceLT, Nat.le_refl, Nat.zero_le, hR, hC, nA0, nF, r1, CP, c3, s3, up_a, up_k, CA0, CA15, c8, j8, c4, s4, s1, c11, j11, ia_C15 hC, inbL, tnL, c15, jb0, jb1, c116 hR nA0, Bool.false_eq_true, Bool.true_eq_false, if_true, if_false, not_true_eq_false, not_false_eq_true, zle, eq_self]
  have n01 : ¬ A = A + 1 := by omega
  have n2_0 : ¬ A + 2 = A := by omega
  have n2_1 : ¬ A + 2 = A + 1 := by omega
  have n3_0 : ¬ A + 3 = A := by omega
  have n3_1 : ¬ A + 3 = A + 1 := by omega
  have n4_0 : ¬ A + 4 = A := by omega
  have n4_1 : ¬ A + 4 = A + 1 := by omega
  have mo : ∀ a j, ¬ inN A a → M a j = I a j := by
    intro a j h
    have g0 : ¬ a = A := fun e => h (by unfold inN; omega)
    have g1 : ¬ a = A + 1 := fun e => h (by unfold inN; omega)
    rw [← hM]
    simp only [up_a, g0, g1, not_false_eq_true]
    exact y0 a j h
  have m0 : M A 0 = Int32.ofNat lev := by rw [← hM]; simp only [up_a, up_k, up_eq, n01, Nat.reduceEqDiff, not_false_eq_true]
  have m1 : M A 1 = ah := by rw [← hM]; simp only [up_a, up_k, up_eq, n01, Nat.reduceEqDiff, not_false_eq_true]
  have m2 : M A 2 = hw := by rw [← hM]; simp only [up_a, up_k, up_eq, n01, Nat.reduceEqDiff, not_false_eq_true]
  have m9 : M A 9 = Int32.ofNat ap := by rw [← hM]; simp only [up_a, up_k, up_eq, n01, Nat.reduceEqDiff, not_false_eq_true]
  have m10 : M A 10 = Int32.ofNat tt := by rw [← hM]; simp only [up_a, up_k, up_eq, n01, Nat.reduceEqDiff, not_false_eq_true]
  have mk : ∀ j, (j = 4 ∨ j = 5 ∨ j = 6 ∨ j = 7 ∨ j = 8 ∨ j = 11) → M A j = I F j := by
    intro j hj
    rw [← hM, ← y1 j hj]
    rcases hj with rfl | rfl | rfl | rfl | rfl | rfl <;> simp only [up_a, up_k, up_eq, n01, Nat.reduceEqDiff, not_false_eq_true]
  have mb0 : M (A + 1) 0 = Int32.ofNat b0 := by rw [← hM]; simp only [up_k, up_eq, Nat.reduceEqDiff, not_false_eq_true]
  have mb1 : M (A + 1) 1 = Int32.ofNat b1 := by rw [← hM]; simp only [up_eq]
  have mk2 : ∀ s, s < 2 → M (A + 2) s = Int32.ofNat (V (14 + s)) := by
    intro s hs
    rw [← hM]
    simp only [up_a, n2_0, n2_1, not_false_eq_true]
    rw [y2 s hs]
    exact (ib s hs).2
  have mk3 : ∀ i, i < 8 → M (A + 3) i = I (F + 3) i ∧ M (A + 4) i = I (F + 4) i := by
    intro i hi
    rw [← hM]
    simp only [up_a, n3_0, n3_1, n4_0, n4_1, not_false_eq_true]
    exact y3 i hi
  -- the loop over what is turned
  refine Exists.elim (for_ex (c := c) (fun k (J : Nat → Nat → Int32) => rf (d + 2) 114 66 [some (.ref C), some (.ref A), some (.int ah), some (.int num), some (.int (Int32.ofNat k))] [] (SH n, J, L, R, nc, ns, true)) (fun k J => (∀ a j, ¬ (a = A ∧ (j = 4 ∨ j = 5 ∨ j = 6)) → ¬ a = A + 2 → ¬ a = A + 3 → ¬ a = A + 4 → J a j = M a j) ∧ J A 4 = Int32.ofNat (V 4 ^^^ tt % 2 ^ k) ∧ J A 5 = Int32.ofNat (V 5 ^^^ tt % 2 ^ k) ∧ J A 6 = Int32.ofNat (V 6) ∧ (∀ s, s < 2 → J (A + 2) s = Int32.ofNat (V (14 + s) &&& (255 ^^^ tt % 2 ^ k))) ∧ (∀ i, i < 8 → J (A + 3) i = (if tt.testBit i = true ∧ i < k then 9 - I (F + 3) i else I (F + 3) i) ∧ J (A + 4) i = (if tt.testBit i = true ∧ i < k then num else I (F + 4) i))) ?_ M ?_) ?_
  · rintro k J hk ⟨b1', b4, b5, b6, bk, bf⟩
    have lk : k < 2147483648 := by omega
    have g1 : ¬ c ≤ k := by omega
    have k8 : k < 8 := by omega
    have JT : ∀ j, J T j = I T j := by
      intro j
      have e0 : ¬ T = A := tA (j := 0) hT nA0 (i := 0) (by omega) (by omega)
      rw [b1' T j (fun e => e0 e.1) (tA (j := 0) hT nA0 (by omega) (by omega)) (tA (j := 0) hT nA0 (by omega) (by omega)) (tA (j := 0) hT nA0 (by omega) (by omega))]
      exact mo T j (nTA 0 (by omega))
    have JC : ∀ j, J C j = I C j := by
      intro j
      rw [b1' C j (fun e => CA0 e.1) (C0 2 (by omega)) (C0 3 (by omega)) (C0 4 (by omega))]
      exact mo C j (nC 0 (Or.inl rfl))
    have JF : ∀ i, i ≤ 4 → ∀ j, J (F + i) j = I (F + i) j := by
      intro i hi j
      rw [b1' (F + i) j (fun e => by have := e.1; omega) (by omega) (by omega) (by omega)]
      exact mo (F + i) j (nFA i hi)
    have JF0 : ∀ j, J F j = I F j := JF 0 (by omega)
    have jx6 : J T 6 = Int32.ofNat c := (JT 6).trans x6
    have jc11 : J C 11 = Int32.ofNat tt := (JC 11).trans j11
    have bt : (Int32.ofNat tt &&& Int32.ofNat (2 ^ k) = 0) = (tt.testBit k = false) := bit_2 lt k8
    by_cases g3 : tt.testBit k = true
    · have SD := c117 (x := Int32.ofNat k) (d := d + 1) (n := n) (I := J) (L := L) (R := R) (nc := nc) (ns := ns) (nx := true) nF
      have DI := c87 (d := d) (n := n) (I := J) (L := L) (nc := nc) (ns := ns) (nx := true) (x := Int32.ofNat k) (y := 1 - (if J F 4 &&& 1 <<< (Int32.ofNat k &&& 31) = 0 then (1 : Int32) else 0)) (z := 9 - J (F + 3) k) (w := num) hR nA0 ((nu_inb lk).mpr k8)
      have m2k : tt % 2 ^ k < 256 := Nat.lt_of_lt_of_le (Nat.mod_lt _ (Nat.two_pow_pos k)) (p2le (by omega))
      obtain ⟨d1, d4, d5, d6, dk0, dk1, df, dn⟩ := dec_get (J := J) (A := A) (k := k) (y := 1 - (if J F 4 &&& 1 <<< (Int32.ofNat k &&& 31) = 0 then (1 : Int32) else 0)) (x := 9 - J (F + 3) k) (num := num) k8 (Nat.xor_lt_two_pow (n := 8) (v8 4) m2k) (Nat.xor_lt_two_pow (n := 8) (v8 5) m2k) (v8 6) (andn_lt (v8 14)) (andn_lt (v8 15)) b4 b5 b6 (bk 0 (by omega)) (bk 1 (by omega))
      have qy : (1 - (if J F 4 &&& 1 <<< (Int32.ofNat k &&& 31) = 0 then (1 : Int32) else 0) = 0) ↔ (V 4).testBit k = false := by
        rw [JF0 4, i4]
        simp only [bit_0' (v8 4) k8]
        by_cases g : (V 4).testBit k = false
        · simp [g]
        · simp [g]
      have v6k := t6 k g3
      have qy5 : ¬ (1 - (if J F 4 &&& 1 <<< (Int32.ofNat k &&& 31) = 0 then (1 : Int32) else 0) = 0) ↔ (V 5).testBit k = false := by
        rw [qy, w5 k hk, v6k]
        cases (V 4).testBit k <;> simp
      refine ⟨decideI J A (Int32.ofNat k) (1 - (if J F 4 &&& 1 <<< (Int32.ofNat k &&& 31) = 0 then (1 : Int32) else 0)) (9 - J (F + 3) k) num, ⟨?_, ?_, ?_, ?_, ?_, ?_⟩, ?_⟩
      · intro a j h1 h2 h3 h4
        rw [d1 a j h1 h2 (fun e => h3 e.1) (fun e => h4 e.1)]
        exact b1' a j h1 h2 h3 h4
      · rw [d4, flip_b (v8 4) k8 g3 _ qy]
      · rw [d5, ← flip_b (v8 5) k8 g3 _ qy5]
        by_cases g : (1 - (if J F 4 &&& 1 <<< (Int32.ofNat k &&& 31) = 0 then (1 : Int32) else 0) = 0)
        · rw [if_pos g, if_neg (fun e => e g)]
        · rw [if_neg g, if_pos g]
      · rw [d6, open_b (v8 6) k8 v6k]
      · intro s hs
        rcases lt2 hs with rfl | rfl
        · rw [dk0, keep_b (v8 14) g3]
        · rw [dk1, keep_b (v8 15) g3]
      · intro i hi
        by_cases e : i = k
        · subst e
          rw [df, dn, JF 3 (by omega), if_pos ⟨g3, by omega⟩, if_pos ⟨g3, by omega⟩]
          exact ⟨rfl, rfl⟩
        · have e1 : (i < k + 1) = (i < k) := propext (by omega)
          rw [d1 (A + 3) i (fun h => by have := h.1; omega) (by omega) (fun h => e h.2) (fun h => e h.2), d1 (A + 4) i (fun h => by have := h.1; omega) (by omega) (fun h => e h.2) (fun h => e h.2)]
          simp only [e1]
          exact bf i hi
      · rw [e114_66]
        simp only [e114_0, e114_1, e114_2, e114_5, e114_8, e114_9, e114_10, e114_13, e114_16, e114_17, e114_18, e114_21, e114_22, e114_23, e114_26, e114_29, e114_30, e114_31, e114_32, e114_35, e114_36, e114_39, e114_40, e114_41, e114_44, e114_47, e114_48, e114_49, e114_52, e114_53, e114_54, e114_55, e114_58, e114_59, e114_60, e114_63, e114_64, e114_68, e114_69, e114_72, e114_75, e114_78, e114_79, e114_82, e114_83, e114_85, e114_86, e114_87, e114_90, e114_91, e114_93, e114_94, e114_95, e114_98, e114_100, e114_103, e114_104, e114_106, e114_107, e114_110, e114_113, e114_115, e114_116, e114_117, e114_118, e114_121, e114_124, e114_127, e114_128, e114_129, e114_132, e114_135, e114_136, e114_137, e114_140, e114_143, e114_144, e114_147, e114_148, e114_151, e114_152, e114_155, e114_156, e114_159, e114_162, e114_165, e114_166, e114_168, e114_169, e114_170, e114_173, e114_176, e114_177, e114_180, e114_181, e114_183, e114_184, e114_185, e114_188, e114_189, e114_190, e114_191, e114_194, e114_195, e114_196, e114_199, e114_202, e114_203, e114_206, e114_207, e114_208, e114_209, e114_212, rk_n, rk_v, nl_n, nl_i, nl_r, cat_n, ip_cat_int, ip_cat_ref, ip_cat_long, ip_rf_some, Nat.reduceAdd, Nat.reduceLeDiff, Nat.reduceLT, Nat.le_refl, Nat.zero_le, hR, hC, hT, nA0, nF, r0, r1, jx6, nu_ge, lk, lc, g1, jc11, k8, sh1, bt, g3, SD, ia_N3 nF, nu_i, nu_tn, DI, nu_1, Bool.false_eq_true, Bool.true_eq_false, if_true, if_false, not_true_eq_false, not_false_eq_true, zle, eq_self]
        simp only [sh1 k k8] at DI
        simp only [DI, rk_n, e114_121, nu_1, e114_124, rk_n, rk_v, nl_n, nl_i, nl_r, cat_n, ip_cat_int, ip_cat_ref, ip_cat_long, ip_rf_some, Nat.reduceAdd, Nat.reduceLeDiff, Nat.reduceLT, Nat.le_refl, Nat.zero_le, Bool.false_eq_true, Bool.true_eq_false, if_true, if_false, not_true_eq_false, not_false_eq_true, zle, eq_self]
    · have g4 := Bool.eq_false_iff.mpr g3
      refine ⟨J, ⟨b1', ?_, ?_, b6, ?_, ?_⟩, ?_⟩
      · rw [mod_n g4]; exact b4
      · rw [mod_n g4]; exact b5
      · rw [mod_n g4]; exact bk
      · intro i hi
        by_cases e : i = k
        · subst e
          have := bf i hi
          simp only [g3, false_and, if_false] at this ⊢
          exact this
        · have e1 : (i < k + 1) = (i < k) := propext (by omega)
          simp only [e1]
          exact bf i hi
      · rw [e114_66]
        simp only [e114_0, e114_1, e114_2, e114_5, e114_8, e114_9, e114_10, e114_13, e114_16, e114_17, e114_18, e114_21, e114_22, e114_23, e114_26, e114_29, e114_30, e114_31, e114_32, e114_35, e114_36, e114_39, e114_40, e114_41, e114_44, e114_47, e114_48, e114_49, e114_52, e114_53, e114_54, e114_55, e114_58, e114_59, e114_60, e114_63, e114_64, e114_68, e114_69, e114_72, e114_75, e114_78, e114_79, e114_82, e114_83, e114_85, e114_86, e114_87, e114_90, e114_91, e114_93, e114_94, e114_95, e114_98, e114_100, e114_103, e114_104, e114_106, e114_107, e114_110, e114_113, e114_115, e114_116, e114_117, e114_118, e114_121, e114_124, e114_127, e114_128, e114_129, e114_132, e114_135, e114_136, e114_137, e114_140, e114_143, e114_144, e114_147, e114_148, e114_151, e114_152, e114_155, e114_156, e114_159, e114_162, e114_165, e114_166, e114_168, e114_169, e114_170, e114_173, e114_176, e114_177, e114_180, e114_181, e114_183, e114_184, e114_185, e114_188, e114_189, e114_190, e114_191, e114_194, e114_195, e114_196, e114_199, e114_202, e114_203, e114_206, e114_207, e114_208, e114_209, e114_212, rk_n, rk_v, nl_n, nl_i, nl_r, cat_n, ip_cat_int, ip_cat_ref, ip_cat_long, ip_rf_some, Nat.reduceAdd, Nat.reduceLeDiff, Nat.reduceLT, Nat.le_refl, Nat.zero_le, hR, hC, hT, r0, jx6, nu_ge, lk, lc, g1, jc11, k8, sh1, bt, g3, nu_1, Bool.false_eq_true, Bool.true_eq_false, if_true, if_false, not_true_eq_false, not_false_eq_true, zle, eq_self]
  · refine ⟨fun a j _ _ _ _ => rfl, ?_, ?_, ?_, ?_, ?_⟩
    · rw [mk 4 (by omega), i4]; simp [Nat.mod_one]
    · rw [mk 5 (by omega), i5]; simp [Nat.mod_one]
    · rw [mk 6 (by omega), i6]
    · intro s hs
      rw [mk2 s hs]
      have : V (14 + s) &&& (255 ^^^ tt % 2 ^ 0) = V (14 + s) := by
        rw [Nat.pow_zero, Nat.mod_one, Nat.xor_zero]
        exact Nat.and_two_pow_sub_one_of_lt_two_pow (n := 8) (v8 _)
      rw [this]
    · intro i hi
      simp only [Nat.not_lt_zero, and_false, if_false]
      exact mk3 i hi
  · rintro J ⟨⟨b1', b4, b5, b6, bk, bf⟩, e⟩
    have tm : tt % 2 ^ c = tt := Nat.mod_eq_of_lt (Nat.lt_pow_two_of_testBit _ (fun i hi => by
      cases q : tt.testBit i with
      | false => rfl
      | true => have := tc i q; omega))
    rw [tm] at b4 b5
    simp only [tm] at bk
    have JT : J T 6 = Int32.ofNat c := by
      have e0 : ¬ T = A := tA (j := 0) hT nA0 (i := 0) (by omega) (by omega)
      rw [b1' T 6 (fun e => e0 e.1) (tA (j := 0) hT nA0 (by omega) (by omega)) (tA (j := 0) hT nA0 (by omega) (by omega)) (tA (j := 0) hT nA0 (by omega) (by omega)), mo T 6 (nTA 0 (by omega))]
      exact x6
    have JC : ∀ j, J C j = I C j := by
      intro j
      rw [b1' C j (fun e => CA0 e.1) (C0 2 (by omega)) (C0 3 (by omega)) (C0 4 (by omega))]
      exact mo C j (nC 0 (Or.inl rfl))
    have JF : ∀ j, J F j = I F j := by
      intro j
      rw [b1' F j (fun e => by have := e.1; omega) (by omega) (by omega) (by omega)]
      exact mo F j (nFA 0 (by omega))
    have jc12 : J C 12 = Int32.ofNat oo := (JC 12).trans j12
    have jc9 : J C 9 = Int32.ofNat S0 := (JC 9).trans j9
    have jc3 : J C 3 = Int32.ofNat lev := (JC 3).trans s3
    have jc4 : J C 4 = Int32.ofNat (1 - ap) := (JC 4).trans s4
    have jf4 : J F 4 = Int32.ofNat (V 4) := (JF 4).trans i4
    have jf5 : J F 5 = Int32.ofNat (V 5) := (JF 5).trans i5
    have jf7 : J F 7 = Int32.ofNat (V 7) := (JF 7).trans i7
    have jf8 : J F 8 = Int32.ofNat (V 8) := (JF 8).trans i8
    have FA : ¬ F = A := by omega
    have FA2 : ¬ F = A + 2 := by omega
    have CA2 : ¬ C = A + 2 := C0 2 (by omega)
    have n2 : ¬ A = A + 2 := by omega
    have ro : ∀ a j, ¬ a = A → ¬ a = A + 2 → reopenI J A (Int32.ofNat oo) a j = J a j := by
      intro a j h1 h2
      unfold reopenI
      simp only [up_a, h1, h2, not_false_eq_true]
    have ll : lostN V lev ap < 256 := by unfold lostN; split <;> (try split) <;> (first | exact v8 _ | omega)
    have l7 : V 7 ||| S0 ||| lostN V lev ap < 256 := Nat.or_lt_two_pow (n := 8) (Nat.or_lt_two_pow (n := 8) (v8 7) lS) ll
    have a7 := of_andn _ l7 _ lo
    have a8 := of_andn _ (v8 8) _ lS
    have q1 : (Int32.ofNat 1 = 1) = True := eq_true rfl
    have q2 : (Int32.ofNat 2 = 1) = False := eq_false (by decide)
    have D92 : ∀ (M : Nat → Nat → Int32) (x : Int32), cf (d + 1) 92 [.ref F, .int x] (SH n, M, L, R, nc, ns, true) = some (.inl (some (.int (if x = 0 then M F 4 else M F 5))), (SH n, M, L, R, nc, ns, true)) := fun M x => c92 nF
    have LO : (if Int32.ofNat (1 - ap) = 0 then Int32.ofNat (V 4) else Int32.ofNat (V 5)) = Int32.ofNat (if ap = 1 then V 4 else V 5) := by
      rcases lt2 a2 with rfl | rfl
      · rfl
      · rfl
    refine ⟨ip_up (ip_up (ip_up (reopenI J A (Int32.ofNat oo)) A 3 (Int32.ofNat oo)) A 7 (Int32.ofNat ((V 7 ||| S0 ||| lostN V lev ap) &&& (255 ^^^ oo)))) A 8 (Int32.ofNat (V 8 &&& (255 ^^^ S0))), ?_, ?_, ?_, ?_, ?_, ?_, ?_, ?_, ?_, ?_, ?_, ?_, ?_, ?_, ?_, ?_, ?_, ?_⟩
    · refine Eq.trans front (Eq.trans e ?_)
      rw [e114_66]
      unfold lostN at a7 ⊢
      rcases hl with rfl | rfl
      · rw [if_pos rfl] at a7 ⊢
        simp only [e114_0, e114_1, e114_2, e114_5, e114_8, e114_9, e114_10, e114_13, e114_16, e114_17, e114_18, e114_21, e114_22, e114_23, e114_26, e114_29, e114_30, e114_31, e114_32, e114_35, e114_36, e114_39, e114_40, e114_41, e114_44, e114_47, e114_48, e114_49, e114_52, e114_53, e114_54, e114_55, e114_58, e114_59, e114_60, e114_63, e114_64, e114_68, e114_69, e114_72, e114_75, e114_78, e114_79, e114_82, e114_83, e114_85, e114_86, e114_87, e114_90, e114_91, e114_93, e114_94, e114_95, e114_98, e114_100, e114_103, e114_104, e114_106, e114_107, e114_110, e114_113, e114_115, e114_116, e114_117, e114_118, e114_121, e114_124, e114_127, e114_128, e114_129, e114_132, e114_135, e114_136, e114_137, e114_140, e114_143, e114_144, e114_147, e114_148, e114_151, e114_152, e114_155, e114_156, e114_159, e114_162, e114_165, e114_166, e114_168, e114_169, e114_170, e114_173, e114_176, e114_177, e114_180, e114_181, e114_183, e114_184, e114_185, e114_188, e114_189, e114_190, e114_191, e114_194, e114_195, e114_196, e114_199, e114_202, e114_203, e114_206, e114_207, e114_208, e114_209, e114_212, rk_n, rk_v, nl_n, nl_i, nl_r, cat_n, ip_cat_int, ip_cat_ref, ip_cat_long, ip_rf_some, Nat.reduceAdd, Nat.reduceLeDiff, Nat.reduceLT, Nat.le_refl, Nat.zero_le, hR, hC, hT, nA0, nF, r0, r1, JT, Int32.le_refl, jc12, c88 hR nA0, ro, up_a, FA, FA2, CA0, CA2, jc3, q1, jc4, D92, jf4, jf5, LO, jf7, jc9, of_or, a7, jf8, a8, Bool.false_eq_true, Bool.true_eq_false, if_true, if_false, not_true_eq_false, not_false_eq_true, zle, eq_self]
      · rw [if_neg (by decide)] at a7 ⊢
        have or0 : Int32.ofNat (V 7 ||| S0) ||| 0 = Int32.ofNat (V 7 ||| S0 ||| 0) := of_or (V 7 ||| S0) 0
        simp only [e114_0, e114_1, e114_2, e114_5, e114_8, e114_9, e114_10, e114_13, e114_16, e114_17, e114_18, e114_21, e114_22, e114_23, e114_26, e114_29, e114_30, e114_31, e114_32, e114_35, e114_36, e114_39, e114_40, e114_41, e114_44, e114_47, e114_48, e114_49, e114_52, e114_53, e114_54, e114_55, e114_58, e114_59, e114_60, e114_63, e114_64, e114_68, e114_69, e114_72, e114_75, e114_78, e114_79, e114_82, e114_83, e114_85, e114_86, e114_87, e114_90, e114_91, e114_93, e114_94, e114_95, e114_98, e114_100, e114_103, e114_104, e114_106, e114_107, e114_110, e114_113, e114_115, e114_116, e114_117, e114_118, e114_121, e114_124, e114_127, e114_128, e114_129, e114_132, e114_135, e114_136, e114_137, e114_140, e114_143, e114_144, e114_147, e114_148, e114_151, e114_152, e114_155, e114_156, e114_159, e114_162, e114_165, e114_166, e114_168, e114_169, e114_170, e114_173, e114_176, e114_177, e114_180, e114_181, e114_183, e114_184, e114_185, e114_188, e114_189, e114_190, e114_191, e114_194, e114_195, e114_196, e114_199, e114_202, e114_203, e114_206, e114_207, e114_208, e114_209, e114_212, rk_n, rk_v, nl_n, nl_i, nl_r, cat_n, ip_cat_int, ip_cat_ref, ip_cat_long, ip_rf_some, Nat.reduceAdd, Nat.reduceLeDiff, Nat.reduceLT, Nat.le_refl, Nat.zero_le, hR, hC, hT, nA0, nF, r0, r1, JT, Int32.le_refl, jc12, c88 hR nA0, ro, up_a, FA, FA2, CA0, CA2, jc3, q2, jf7, jc9, of_or, or0, a7, jf8, a8, Bool.false_eq_true, Bool.true_eq_false, if_true, if_false, not_true_eq_false, not_false_eq_true, zle, eq_self]
    · intro a j h
      have g0 : ¬ a = A := fun e => h (by unfold inN; omega)
      have g2 : ¬ a = A + 2 := fun e => h (by unfold inN; omega)
      have g3 : ¬ a = A + 3 := fun e => h (by unfold inN; omega)
      have g4 : ¬ a = A + 4 := fun e => h (by unfold inN; omega)
      rw [up_a g0, up_a g0, up_a g0, ro a j g0 g2, b1' a j (fun e => g0 e.1) g2 g3 g4]
      exact mo a j h
    · rw [up_k (by decide), up_k (by decide), up_k (by decide)]
      unfold reopenI
      simp only [up_a, up_k, n2, Nat.reduceEqDiff, not_false_eq_true]
      rw [b1' A 0 (by omega) (by omega) (by omega) (by omega)]; exact m0
    · rw [up_k (by decide), up_k (by decide), up_k (by decide)]
      unfold reopenI
      simp only [up_a, up_k, n2, Nat.reduceEqDiff, not_false_eq_true]
      rw [b1' A 1 (by omega) (by omega) (by omega) (by omega)]; exact m1
    · rw [up_k (by decide), up_k (by decide), up_k (by decide)]
      unfold reopenI
      simp only [up_a, up_k, n2, Nat.reduceEqDiff, not_false_eq_true]
      rw [b1' A 2 (by omega) (by omega) (by omega) (by omega)]; exact m2
    · rw [up_k (by decide), up_k (by decide), up_eq]
    · rw [up_k (by decide), up_k (by decide), up_k (by decide)]
      unfold reopenI
      simp only [up_a, up_k, up_eq, n2, Nat.reduceEqDiff, not_false_eq_true]
      rw [b4, of_andn _ (Nat.xor_lt_two_pow (n := 8) (v8 4) lt) _ lo]
    · rw [up_k (by decide), up_k (by decide), up_k (by decide)]
      unfold reopenI
      simp only [up_a, up_k, up_eq, n2, Nat.reduceEqDiff, not_false_eq_true]
      rw [b5, of_andn _ (Nat.xor_lt_two_pow (n := 8) (v8 5) lt) _ lo]
    · rw [up_k (by decide), up_k (by decide), up_k (by decide)]
      unfold reopenI
      simp only [up_a, up_k, up_eq, n2, Nat.reduceEqDiff, not_false_eq_true]
      rw [b6, of_or]
      have : V 6 ||| oo = oo := by
        apply Nat.eq_of_testBit_eq
        intro i
        rw [Nat.testBit_or]
        cases q : (V 6).testBit i with
        | false => rw [Bool.false_or]
        | true => rw [o6 i q]; rfl
      rw [this]
    · rw [up_k (by decide), up_eq]
    · rw [up_eq]
    · rw [up_k (by decide), up_k (by decide), up_k (by decide)]
      unfold reopenI
      simp only [up_a, up_k, n2, Nat.reduceEqDiff, not_false_eq_true]
      rw [b1' A 9 (by omega) (by omega) (by omega) (by omega)]; exact m9
    · rw [up_k (by decide), up_k (by decide), up_k (by decide)]
      unfold reopenI
      simp only [up_a, up_k, n2, Nat.reduceEqDiff, not_false_eq_true]
      rw [b1' A 10 (by omega) (by omega) (by omega) (by omega)]; exact m10
    · rw [up_k (by decide), up_k (by decide), up_k (by decide)]
      unfold reopenI
      simp only [up_a, up_k, n2, Nat.reduceEqDiff, not_false_eq_true]
      rw [b1' A 11 (by omega) (by omega) (by omega) (by omega)]; exact mk 11 (by omega)
    · have g : ¬ A + 1 = A := by omega
      have g' : ¬ A + 1 = A + 2 := by omega
      rw [up_a g, up_a g, up_a g, ro _ _ g g', b1' (A + 1) 0 (fun e => g e.1) g' (by omega) (by omega)]; exact mb0
    · have g : ¬ A + 1 = A := by omega
      have g' : ¬ A + 1 = A + 2 := by omega
      rw [up_a g, up_a g, up_a g, ro _ _ g g', b1' (A + 1) 1 (fun e => g e.1) g' (by omega) (by omega)]; exact mb1
    · intro s hs
      have k1 := bk 0 (by omega)
      have k2 := bk 1 (by omega)
      rw [up_a n2_0, up_a n2_0, up_a n2_0]
      unfold reopenI
      rcases lt2 hs with rfl | rfl
      · simp only [up_a, up_k, up_eq, n2_0, Nat.reduceEqDiff, not_false_eq_true]
        rw [k1, of_andn _ (andn_lt (v8 _)) _ lo]
      · simp only [up_a, up_k, up_eq, n2_0, Nat.reduceEqDiff, not_false_eq_true]
        rw [k2, of_andn _ (andn_lt (v8 _)) _ lo]
    · intro i hi
      rw [up_a n3_0, up_a n3_0, up_a n3_0, up_a n4_0, up_a n4_0, up_a n4_0, ro _ _ n3_0 (by omega), ro _ _ n4_0 (by omega), (bf i hi).1, (bf i hi).2]
      have : (tt.testBit i = true ∧ i < c) = (tt.testBit i = true) := propext ⟨And.left, fun h => ⟨h, tc i h⟩⟩
      simp only [this]
      exact ⟨trivial, trivial⟩
end MM
