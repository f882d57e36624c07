/-! THE CLASS'S COURT: why, what is heard -/
section CC
variable {n d a b T c s t z o w m p lev k side ap b0 b1 h0 h1 md C F B : Nat} {I J K : Nat → Nat → Int32} {L : Nat → Nat → Int64} {R : Nat → Nat → Option Nat} {nc ns : Nat} {nx : Bool} {x y j v lv hw0 : Int32} {h : ip_H} {f g std rst V : Nat → Nat} {win : Nat → Bool} {br fl : Nat → Int32}
/-- only places and slots with a property are written -/
def onlyP (P : Nat → Nat → Prop) (I J : Nat → Nat → Int32) : Prop := ∀ a k, ¬ P a k → J a k = I a k
theorem onlyP_refl {P : Nat → Nat → Prop} : onlyP P I I := fun _ _ _ => rfl
theorem onlyP_up {P : Nat → Nat → Prop} (H : onlyP P I J) (hk : P b k) : onlyP P I (ip_up J b k v) := by
  intro a i h
  by_cases ha : a = b
  · subst ha
    have : ¬ i = k := by rintro rfl; exact h hk
    rw [up_k this]
    exact H _ _ h
  · rw [up_a ha]
    exact H _ _ h
theorem onlyP_row {P : Nat → Nat → Prop} {q : Nat → Int32} (H : onlyP P I J) (hk : ∀ i, P b i) : onlyP P I (ip_row J b q) := by
  intro a i h
  have ha : ¬ a = b := by rintro rfl; exact h (hk i)
  rw [row_a ha]
  exact H _ _ h
theorem onlyP_tr {P : Nat → Nat → Prop} (H : onlyP P I J) (G : onlyP P J K) : onlyP P I K := fun a k h => (G a k h).trans (H a k h)
theorem onlyP_mono {P Q : Nat → Nat → Prop} (H : onlyP P I J) (G : ∀ a k, P a k → Q a k) : onlyP Q I J := fun a k h => H a k (fun e => h (G a k e))
/-- the class's text -/
def CTx (T c : Nat) (std rst : Nat → Nat) (br : Nat → Int32) (win : Nat → Bool) (I : Nat → Nat → Int32) (L : Nat → Nat → Int64) : Prop :=
  isT T ∧ c ≤ 8 ∧ I T 6 = Int32.ofNat c ∧ (∀ k, k < c → I (T + 2) k = Int32.ofNat (std k) ∧ std k < 3) ∧ (∀ k, k < c → I (T + 3) k = Int32.ofNat (rst k) ∧ rst k < 256) ∧ (∀ k, k < c → I (T + 4) k = Int32.ofNat (restOn rst (2 ^ k) c)) ∧ (∀ k, k < 6 → I (T + 5) k = br k) ∧ (∀ s, s < 256 → winL L T s = win s)
/-- the class's node an appeal is made from, and the one ahead of it -/
def CNd (F B c lev : Nat) (V : Nat → Nat) (fl : Nat → Int32) (I : Nat → Nat → Int32) : Prop :=
  isN F ∧ isN B ∧ (∀ j, V j < 256) ∧ I F 4 = Int32.ofNat (V 4) ∧ I F 5 = Int32.ofNat (V 5) ∧ I F 6 = Int32.ofNat (V 6) ∧ I F 7 = Int32.ofNat (V 7) ∧ I F 8 = Int32.ofNat (V 8) ∧ I F 10 = Int32.ofNat (V 10) ∧ (∀ s, s < 2 → I (F + 1) s = Int32.ofNat (V (12 + s)) ∧ I (F + 2) s = Int32.ofNat (V (14 + s))) ∧ (∀ k, k < c → (V 6).testBit k = false → I (F + 3) k = fl k) ∧ (lev = 2 → I B 7 = Int32.ofNat (V 16)) ∧ (∀ k, k < c → (V 5).testBit k = (!(V 6).testBit k && !(V 4).testBit k)) ∧ (∀ k, k < c → (V 4).testBit k = true → (V 6).testBit k = false)
theorem sdl : (Int32.ofNat 0 &&& 1).toNatClampNeg = 0 ∧ (Int32.ofNat 1 &&& 1).toNatClampNeg = 1 := by decide
theorem c104 (hR : LYR R) (hC : isC C) (N : CNd F B c lev V fl I) (hl : lev = 1 ∨ lev = 2) (rF : R C 1 = some F) (rB : R C 2 = some B) (hlv : I C 3 = Int32.ofNat lev) (hc8 : c ≤ 8) (hk : k < c) (hs : side < 2) : cf (d + 1) 104 [.ref C, .int (Int32.ofNat k), .int (Int32.ofNat side)] (SH n, I, L, R, nc, ns, nx) = some (.inl (some (.int (whyI V fl lev k side))), (SH n, I, L, R, nc, ns, nx)) := by
  obtain ⟨nF, nB, v8, i4, i5, i6, i7, i8, i10, ib, ifl, iB, w5, w4⟩ := N
  have k8 : k < 8 := by omega
  have lk : k < 2147483648 := by omega
  have s2 := sh1 k k8
  obtain ⟨ib1, ib2⟩ := ib side hs
  have q1 : (Int32.ofNat 1 = 1) = True := eq_true (by decide)
  have q2 : (Int32.ofNat 2 = 1) = False := eq_false (by decide)
  have q3 : (Int32.ofNat 1 = 2) = False := eq_false (by decide)
  have q4 : (Int32.ofNat 2 = 2) = True := eq_true (by decide)
  have q5 : ((8 : Int32) ≤ 9) = True := eq_true (by decide)
  have f7 := Nat.lt_of_le_of_lt (Nat.and_le_left (n := V 7) (m := 255 ^^^ V 8)) (v8 7)
  have f16 := Nat.lt_of_le_of_lt (Nat.and_le_left (n := V 16) (m := 255 ^^^ V 8)) (v8 16)
  have a7 := of_andn _ (v8 7) _ (v8 8)
  have a16 := of_andn _ (v8 16) _ (v8 8)
  have t7 : ∀ u, (u &&& (255 ^^^ V 8)).testBit k = (u.testBit k && !(V 8).testBit k) := by
    intro u
    rw [Nat.testBit_and, tbn, decide_eq_true k8, Bool.true_xor]
  have nle : ∀ x : Int32, (8 ≤ x) = ¬ x < 8 := by
    intro x
    rw [Int32.not_lt]
  have AG : agN V k side = (if side = 0 then (V 5).testBit k else (V 4).testBit k) := by
    have h5 := w5 k hk
    have h4 := w4 k hk
    unfold agN
    rcases lt2 hs with rfl | rfl
    · rw [if_pos rfl, h5]; cases (V 4).testBit k <;> cases (V 6).testBit k <;> rfl
    · rw [if_neg (by decide)]
      cases e4 : (V 4).testBit k with
      | true => rw [h4 e4]; rfl
      | false => cases (V 6).testBit k <;> rfl
  have D92 : ∀ x, cf d 92 [.ref F, .int x] (SH n, I, L, R, nc, ns, nx) = some (.inl (some (.int (if x = 0 then I F 4 else I F 5))), (SH n, I, L, R, nc, ns, nx)) := fun x => c92 nF
  have FL : agN V k side = true → I (F + 3) k = fl k := by
    intro e
    refine ifl k hk ?_
    unfold agN at e
    cases e6 : (V 6).testBit k with
    | false => rfl
    | true => rw [e6] at e; cases e
  cases ha : agN V k side with
  | false =>
    have hb := ha
    rw [AG] at hb
    unfold whyI
    rw [ha, if_pos rfl]
    rcases lt2 hs with rfl | rfl
    · rw [if_pos rfl] at hb
      simp only [en104, e104_0, e104_1, e104_2, e104_3, e104_4, e104_5, e104_8, e104_11, e104_12, e104_13, e104_15, e104_16, e104_19, e104_20, e104_21, e104_22, e104_25, e104_26, e104_27, e104_30, e104_31, e104_32, e104_33, e104_36, e104_37, e104_40, e104_41, e104_44, e104_47, e104_50, e104_51, e104_54, e104_57, e104_59, e104_61, e104_62, e104_65, e104_68, e104_69, e104_70, e104_71, e104_72, e104_73, e104_76, e104_78, e104_80, e104_83, e104_84, e104_85, e104_86, e104_89, e104_90, e104_93, e104_95, e104_96, e104_99, e104_100, e104_103, e104_105, e104_106, e104_109, e104_110, e104_113, e104_114, e104_115, e104_118, e104_121, e104_122, e104_124, e104_126, e104_127, e104_128, e104_131, e104_133, e104_135, e104_138, e104_139, e104_142, e104_143, rk_n, rk_v, nl_n, nl_i, nl_r, cat_n, ip_cat_int, ip_cat_ref, ip_cat_long, ip_rf_some, Nat.reduceAdd, Nat.reduceLeDiff, Nat.reduceLT, Nat.le_refl, Nat.zero_le, hR, hC, nF, rF, ia_N3 nF, nu_i, nu_tn, lk, k8, s2, one_sub, D92, i4, i5, Nat.reduceSub, nz1, v8, bit_2, hb, Bool.false_eq_true, Bool.true_eq_false, if_true, if_false, not_true_eq_false, not_false_eq_true, zle, eq_self]
    · rw [if_neg (by decide)] at hb
      simp only [en104, e104_0, e104_1, e104_2, e104_3, e104_4, e104_5, e104_8, e104_11, e104_12, e104_13, e104_15, e104_16, e104_19, e104_20, e104_21, e104_22, e104_25, e104_26, e104_27, e104_30, e104_31, e104_32, e104_33, e104_36, e104_37, e104_40, e104_41, e104_44, e104_47, e104_50, e104_51, e104_54, e104_57, e104_59, e104_61, e104_62, e104_65, e104_68, e104_69, e104_70, e104_71, e104_72, e104_73, e104_76, e104_78, e104_80, e104_83, e104_84, e104_85, e104_86, e104_89, e104_90, e104_93, e104_95, e104_96, e104_99, e104_100, e104_103, e104_105, e104_106, e104_109, e104_110, e104_113, e104_114, e104_115, e104_118, e104_121, e104_122, e104_124, e104_126, e104_127, e104_128, e104_131, e104_133, e104_135, e104_138, e104_139, e104_142, e104_143, rk_n, rk_v, nl_n, nl_i, nl_r, cat_n, ip_cat_int, ip_cat_ref, ip_cat_long, ip_rf_some, Nat.reduceAdd, Nat.reduceLeDiff, Nat.reduceLT, Nat.le_refl, Nat.zero_le, hR, hC, nF, rF, ia_N3 nF, nu_i, nu_tn, lk, k8, s2, one_sub, D92, i4, i5, Nat.reduceSub, nz0, v8, bit_2, hb, Bool.false_eq_true, Bool.true_eq_false, if_true, if_false, not_true_eq_false, not_false_eq_true, zle, eq_self]
  | true =>
    have hb := ha
    have hf := FL ha
    rw [AG] at hb
    have front : cf (d + 1) 104 [.ref C, .int (Int32.ofNat k), .int (Int32.ofNat side)] (SH n, I, L, R, nc, ns, nx) = rf (d + 1) 104 32 [some (.ref C), some (.int (Int32.ofNat k)), some (.int (Int32.ofNat side)), some (.int (Int32.ofNat (2 ^ k))), some (.int (fl k)), none, none] [] (SH n, I, L, R, nc, ns, nx) := by
      rcases lt2 hs with rfl | rfl
      · rw [if_pos rfl] at hb
        simp only [en104, e104_0, e104_1, e104_2, e104_3, e104_4, e104_5, e104_8, e104_11, e104_12, e104_13, e104_15, e104_16, e104_19, e104_20, e104_21, e104_22, e104_25, e104_26, e104_27, rk_n, rk_v, nl_n, nl_i, nl_r, cat_n, ip_cat_int, ip_cat_ref, ip_cat_long, ip_rf_some, Nat.reduceAdd, Nat.reduceLeDiff, Nat.reduceLT, Nat.le_refl, Nat.zero_le, hR, hC, nF, rF, ia_N3 nF, nu_i, nu_tn, lk, k8, s2, hf, one_sub, D92, i4, i5, Nat.reduceSub, nz1, v8, bit_2, hb, Bool.false_eq_true, Bool.true_eq_false, if_true, if_false, not_true_eq_false, not_false_eq_true, zle, eq_self]
      · rw [if_neg (by decide)] at hb
        simp only [en104, e104_0, e104_1, e104_2, e104_3, e104_4, e104_5, e104_8, e104_11, e104_12, e104_13, e104_15, e104_16, e104_19, e104_20, e104_21, e104_22, e104_25, e104_26, e104_27, rk_n, rk_v, nl_n, nl_i, nl_r, cat_n, ip_cat_int, ip_cat_ref, ip_cat_long, ip_rf_some, Nat.reduceAdd, Nat.reduceLeDiff, Nat.reduceLT, Nat.le_refl, Nat.zero_le, hR, hC, nF, rF, ia_N3 nF, nu_i, nu_tn, lk, k8, s2, hf, one_sub, D92, i4, i5, Nat.reduceSub, nz0, v8, bit_2, hb, Bool.false_eq_true, Bool.true_eq_false, if_true, if_false, not_true_eq_false, not_false_eq_true, zle, eq_self]
    have KP : cf d 105 [.ref F, .int (Int32.ofNat side)] (SH n, I, L, R, nc, ns, nx) = some (.inl (some (.int (Int32.ofNat (V (14 + side))))), (SH n, I, L, R, nc, ns, nx)) := by
      rw [c105 hR nF]
      rcases lt2 hs with rfl | rfl
      · rw [sdl.1, ib2]
      · rw [sdl.2, ib2]
    have BP : cf d 106 [.ref F, .int (Int32.ofNat side)] (SH n, I, L, R, nc, ns, nx) = some (.inl (some (.int (Int32.ofNat (V (12 + side))))), (SH n, I, L, R, nc, ns, nx)) := by
      rw [c106 hR nF]
      rcases lt2 hs with rfl | rfl
      · rw [sdl.1, ib1]
      · rw [sdl.2, ib1]
    rw [front]
    have f2 : (V (14 + side) &&& V (12 + side)) ||| V 10 < 256 := Nat.or_lt_two_pow (n := 8) (Nat.lt_of_le_of_lt Nat.and_le_left (v8 _)) (v8 10)
    have n98 : ((9 : Int32) < 8) = False := eq_false (by decide)
    unfold whyI
    rcases hl with rfl | rfl
    · simp only [e104_0, e104_1, e104_2, e104_3, e104_4, e104_5, e104_8, e104_11, e104_12, e104_13, e104_15, e104_16, e104_19, e104_20, e104_21, e104_22, e104_25, e104_26, e104_27, e104_30, e104_31, e104_32, e104_33, e104_36, e104_37, e104_40, e104_41, e104_44, e104_47, e104_50, e104_51, e104_54, e104_57, e104_59, e104_61, e104_62, e104_65, e104_68, e104_69, e104_70, e104_71, e104_72, e104_73, e104_76, e104_78, e104_80, e104_83, e104_84, e104_85, e104_86, e104_89, e104_90, e104_93, e104_95, e104_96, e104_99, e104_100, e104_103, e104_105, e104_106, e104_109, e104_110, e104_113, e104_114, e104_115, e104_118, e104_121, e104_122, e104_124, e104_126, e104_127, e104_128, e104_131, e104_133, e104_135, e104_138, e104_139, e104_142, e104_143, rk_n, rk_v, nl_n, nl_i, nl_r, cat_n, ip_cat_int, ip_cat_ref, ip_cat_long, ip_rf_some, Nat.reduceAdd, Nat.reduceLeDiff, Nat.reduceLT, Nat.le_refl, Nat.zero_le, hR, hC, nF, nB, rF, rB, hlv, q1, q3, i7, i8, a7, f7, v8, k8, of_and, bit_3, t7, KP, heldN, raisN, ha, nle, Nat.reduceEqDiff, Bool.false_eq_true, Bool.true_eq_false, if_true, if_false, not_true_eq_false, not_false_eq_true, zle, eq_self]
      cases (V 7).testBit k <;> cases (V 8).testBit k <;> cases (V (14 + side)).testBit k <;> by_cases g9 : fl k = 9 <;> by_cases g8 : fl k < 8 <;> simp only [g9, g8, n98, Bool.false_eq_true, Bool.true_eq_false, if_true, if_false, not_true_eq_false, not_false_eq_true, zle, eq_self, true_and, false_and, and_false, and_true, or_true, true_or, or_false, false_or, Bool.not_true, Bool.not_false, Bool.and_true, Bool.true_and, Bool.and_false, Bool.false_and]
    · have iB2 := iB rfl
      simp only [e104_0, e104_1, e104_2, e104_3, e104_4, e104_5, e104_8, e104_11, e104_12, e104_13, e104_15, e104_16, e104_19, e104_20, e104_21, e104_22, e104_25, e104_26, e104_27, e104_30, e104_31, e104_32, e104_33, e104_36, e104_37, e104_40, e104_41, e104_44, e104_47, e104_50, e104_51, e104_54, e104_57, e104_59, e104_61, e104_62, e104_65, e104_68, e104_69, e104_70, e104_71, e104_72, e104_73, e104_76, e104_78, e104_80, e104_83, e104_84, e104_85, e104_86, e104_89, e104_90, e104_93, e104_95, e104_96, e104_99, e104_100, e104_103, e104_105, e104_106, e104_109, e104_110, e104_113, e104_114, e104_115, e104_118, e104_121, e104_122, e104_124, e104_126, e104_127, e104_128, e104_131, e104_133, e104_135, e104_138, e104_139, e104_142, e104_143, rk_n, rk_v, nl_n, nl_i, nl_r, cat_n, ip_cat_int, ip_cat_ref, ip_cat_long, ip_rf_some, Nat.reduceAdd, Nat.reduceLeDiff, Nat.reduceLT, Nat.le_refl, Nat.zero_le, hR, hC, nF, nB, rF, rB, hlv, q2, q4, iB2, i8, i10, a16, f16, f2, v8, k8, of_and, of_or, bit_3, t7, KP, BP, heldN, raisN, ha, nle, Nat.testBit_or, Nat.testBit_and, Bool.false_eq_true, Bool.true_eq_false, if_true, if_false, not_true_eq_false, not_false_eq_true, zle, eq_self]
      cases (V 16).testBit k <;> cases (V 8).testBit k <;> cases (V 10).testBit k <;> cases (V (14 + side)).testBit k <;> cases (V (12 + side)).testBit k <;> by_cases g9 : fl k = 9 <;> by_cases g8 : fl k < 8 <;> simp only [g9, g8, n98, Bool.false_eq_true, Bool.true_eq_false, if_true, if_false, not_true_eq_false, not_false_eq_true, zle, eq_self, true_and, false_and, and_false, and_true, or_true, true_or, or_false, false_or, Bool.or_true, Bool.true_or, Bool.or_false, Bool.false_or, Bool.not_true, Bool.not_false, Bool.and_true, Bool.true_and, Bool.and_false, Bool.false_and]
end CC
