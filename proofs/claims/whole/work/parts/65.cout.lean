/-! THE CLASS'S COURT: openBy, winnerAfter, outcomeBy; small ones -/
theorem tb_lt {m c k : Nat} (hm : m < 2 ^ c) (h : m.testBit k = true) : k < c := by
  apply Nat.lt_of_not_le
  intro hk
  rw [Nat.testBit_lt_two_pow (Nat.lt_of_lt_of_le hm (Nat.pow_le_pow_right (by omega) hk))] at h
  cases h
theorem and_ne0 {a b : Nat} : (¬ a &&& b = 0) ↔ ∃ i, a.testBit i = true ∧ b.testBit i = true := by
  constructor
  · intro h
    apply Classical.byContradiction
    intro g
    apply h
    apply Nat.eq_of_testBit_eq
    intro i
    rw [Nat.testBit_and, Nat.zero_testBit]
    cases e1 : a.testBit i with
    | false => rfl
    | true =>
      cases e2 : b.testBit i with
      | false => rfl
      | true => exact absurd ⟨i, e1, e2⟩ g
  · rintro ⟨i, h1, h2⟩ e
    have := congrArg (fun v => v.testBit i) e
    simp [Nat.testBit_and, h1, h2] at this
theorem restOn_or (rst : Nat → Nat) (m : Nat) : ∀ j i, (restOn rst m j).testBit i = true ↔ ∃ k, m.testBit k = true ∧ (restOn rst (2 ^ k) j).testBit i = true := by
  intro j
  induction j with
  | zero =>
    intro i
    simp [restOn]
  | succ j ih =>
    intro i
    have st : ∀ m, (restOn rst m (j + 1)).testBit i = true ↔ (restOn rst m j).testBit i = true ∨ (i = j ∧ ∃ l, (rst j).testBit l = true ∧ (m.testBit l = true ∨ (restOn rst m j).testBit l = true)) := by
      intro m
      rw [restOn]
      by_cases g : rst j &&& (m ||| restOn rst m j) = 0
      · rw [if_pos g]
        constructor
        · exact Or.inl
        · rintro (h | ⟨_, l, h1, h2⟩)
          · exact h
          · refine absurd g (and_ne0.mpr ⟨l, h1, ?_⟩)
            rw [Nat.testBit_or, Bool.or_eq_true]
            exact h2
      · rw [if_neg g, Nat.testBit_or, Bool.or_eq_true, Nat.testBit_two_pow, decide_eq_true_eq]
        obtain ⟨l, h1, h2⟩ := and_ne0.mp g
        rw [Nat.testBit_or, Bool.or_eq_true] at h2
        constructor
        · rintro (h | h)
          · exact Or.inl h
          · exact Or.inr ⟨h.symm, l, h1, h2⟩
        · rintro (h | ⟨h, _⟩)
          · exact Or.inl h
          · exact Or.inr h.symm
    rw [st]
    constructor
    · rintro (h | ⟨h, l, h1, h2 | h2⟩)
      · obtain ⟨k, k1, k2⟩ := (ih i).mp h
        exact ⟨k, k1, (st _).mpr (Or.inl k2)⟩
      · exact ⟨l, h2, (st _).mpr (Or.inr ⟨h, l, h1, Or.inl (by rw [Nat.testBit_two_pow]; simp)⟩)⟩
      · obtain ⟨k, k1, k2⟩ := (ih l).mp h2
        exact ⟨k, k1, (st _).mpr (Or.inr ⟨h, l, h1, Or.inr k2⟩)⟩
    · rintro ⟨k, k1, k2⟩
      rcases (st _).mp k2 with h | ⟨h, l, h1, h2 | h2⟩
      · exact Or.inl ((ih i).mpr ⟨k, k1, h⟩)
      · rw [Nat.testBit_two_pow, decide_eq_true_eq] at h2
        subst h2
        exact Or.inr ⟨h, k, h1, Or.inl k1⟩
      · exact Or.inr ⟨h, l, h1, Or.inr ((ih l).mpr ⟨k, k1, h2⟩)⟩
/-- a set and what some bring with them -/
def opU (u m : Nat) (f : Nat → Nat) : Nat → Nat
  | 0 => u
  | k + 1 => if m.testBit k = true then opU u m f k ||| f k else opU u m f k
theorem opU_bit (u m : Nat) (f : Nat → Nat) (i : Nat) : ∀ c, (opU u m f c).testBit i = true ↔ u.testBit i = true ∨ ∃ k, k < c ∧ m.testBit k = true ∧ (f k).testBit i = true := by
  intro c
  induction c with
  | zero =>
    constructor
    · exact Or.inl
    · rintro (h | ⟨k, hk, _⟩)
      · exact h
      · omega
  | succ c ih =>
    rw [opU]
    by_cases g : m.testBit c = true
    · rw [if_pos g, Nat.testBit_or, Bool.or_eq_true, ih]
      constructor
      · rintro ((h | ⟨k, h1, h2⟩) | h)
        · exact Or.inl h
        · exact Or.inr ⟨k, by omega, h2⟩
        · exact Or.inr ⟨c, by omega, g, h⟩
      · rintro (h | ⟨k, h1, h2⟩)
        · exact Or.inl (Or.inl h)
        · by_cases e : k = c
          · subst e; exact Or.inr h2.2
          · exact Or.inl (Or.inr ⟨k, by omega, h2⟩)
    · rw [if_neg g, ih]
      constructor
      · rintro (h | ⟨k, h1, h2⟩)
        · exact Or.inl h
        · exact Or.inr ⟨k, by omega, h2⟩
      · rintro (h | ⟨k, h1, h2⟩)
        · exact Or.inl h
        · by_cases e : k = c
          · subst e; exact absurd h2.1 g
          · exact Or.inr ⟨k, by omega, h2⟩
section CO
variable {n d a b T c s t z o w m p lev k side ap b0 b1 h0 h1 md C F B : Nat} {I J K : Nat → Nat → Int32} {L : Nat → Nat → Int64} {R : Nat → Nat → Option Nat} {nc ns : Nat} {nx : Bool} {x y j v lv hw0 : Int32} {h : ip_H} {f g std rst V : Nat → Nat} {win : Nat → Bool} {br fl : Nat → Int32}
theorem anw_and (hm : m < 2 ^ c) : m &&& (255 ^^^ anwN std c m) = m &&& (255 ^^^ anwA std c) := by
  apply Nat.eq_of_testBit_eq
  intro i
  rw [Nat.testBit_and, Nat.testBit_and, tbn, tbn]
  unfold anwN anwA
  rw [setN_bit, setN_bit]
  cases e : m.testBit i with
  | false => rfl
  | true => simp only [Bool.true_and]
theorem opU_opn (hm : m < 2 ^ c) : opU (V 6 ||| (m &&& (255 ^^^ anwA std c))) m (fun k => restOn rst (2 ^ k) c) c = opnN c std rst br win V fl lev m := by
  apply Nat.eq_of_testBit_eq
  intro i
  rw [Bool.eq_iff_iff, opU_bit]
  unfold opnN
  rw [anw_and hm, Nat.testBit_or _ (restOn rst m c), Bool.or_eq_true, restOn_or]
  constructor
  · rintro (h | ⟨k, _, h⟩)
    · exact Or.inl h
    · exact Or.inr ⟨k, h⟩
  · rintro (h | ⟨k, h⟩)
    · exact Or.inl h
    · exact Or.inr ⟨k, tb_lt hm h.1, h⟩
theorem aft_eq (hm : m < 2 ^ c) : sureI win (V 4 ^^^ (m &&& anwA std c)) (opnN c std rst br win V fl lev m) = aftN c std rst br win V fl lev m := by
  unfold aftN
  apply sureI_z
  unfold zrnN trnN
  apply Nat.eq_of_testBit_eq
  intro i
  simp only [Nat.testBit_and, Nat.testBit_xor]
  have e : (anwN std c m).testBit i = (m.testBit i && (anwA std c).testBit i) := by
    unfold anwN anwA
    rw [setN_bit, setN_bit]
    cases m.testBit i <;> cases decide (i < c) <;> rfl
  rw [e]
  cases ((255 : Nat).testBit i ^^ (opnN c std rst br win V fl lev m).testBit i) <;> simp
theorem opU_lt {u : Nat} (hu : u < 256) (hf : ∀ k, k < c → f k < 256) : ∀ k, k ≤ c → opU u m f k < 256 := by
  intro k
  induction k with
  | zero => intro _; exact hu
  | succ k ih =>
    intro hk
    rw [opU]
    split
    · exact Nat.or_lt_two_pow (n := 8) (ih (by omega)) (hf k (by omega))
    · exact ih (by omega)
theorem c113 (hR : LYR R) (hC : isC C) (X : CTx T c std rst br win I L) (N : CNd F B c lev V fl I) (S : SIT C T F B c std rst br win V fl lev ap I R) (hm : m < 2 ^ c) : cf d 113 [.ref C, .int (Int32.ofNat m)] (SH n, I, L, R, nc, ns, nx) = some (.inl (some (.int (Int32.ofNat (opnN c std rst br win V fl lev m)))), (SH n, I, L, R, nc, ns, nx)) := by
  obtain ⟨hT, hc8, x6, -, -, x4, -, -⟩ := X
  have nF := N.1
  have v8 := N.2.2.1
  have i6 := N.2.2.2.2.2.1
  obtain ⟨r0, r1, -, -, -, s5, -⟩ := S
  have lc := lt8 hc8
  have m8 : m < 256 := Nat.lt_of_lt_of_le hm (p2le hc8)
  have aL : anwA std c < 256 := setN_256 _ hc8
  have e1 := of_andn m m8 _ aL
  simp only [en113, e113_0, e113_1, e113_4, e113_7, e113_8, e113_9, e113_12, e113_13, e113_14, e113_15, e113_16, e113_17, e113_18, e113_20, e113_21, e113_24, e113_27, e113_30, e113_31, e113_32, e113_33, e113_34, e113_35, e113_38, e113_39, e113_40, e113_43, e113_46, e113_47, e113_48, e113_49, e113_50, e113_53, e113_56, e113_57, rk_n, rk_v, nl_n, nl_i, nl_r, cat_n, ip_cat_int, ip_cat_ref, ip_cat_long, ip_rf_some, Nat.reduceAdd, Nat.reduceLeDiff, Nat.reduceLT, Nat.le_refl, Nat.zero_le, hC, nF, r0, r1, i6, s5, e1, of_or]
  refine (for_eq (c := c) (fun k => rf d 113 19 [some (.ref C), some (.int (Int32.ofNat m)), some (.int (Int32.ofNat (opU (V 6 ||| (m &&& (255 ^^^ anwA std c))) m (fun k => restOn rst (2 ^ k) c) k))), some (.int (Int32.ofNat k))] [] (SH n, I, L, R, nc, ns, nx)) ?_).trans ?_
  · intro k hk
    try dsimp only
    have lk : k < 2147483648 := by omega
    have g1 : ¬ c ≤ k := by omega
    have k8 : k < 8 := by omega
    have f1 := x4 k hk
    rw [e113_19, opU]
    by_cases g3 : m.testBit k = true
    · simp only [e113_0, e113_1, e113_4, e113_7, e113_8, e113_9, e113_12, e113_13, e113_14, e113_15, e113_16, e113_17, e113_18, e113_20, e113_21, e113_24, e113_27, e113_30, e113_31, e113_32, e113_33, e113_34, e113_35, e113_38, e113_39, e113_40, e113_43, e113_46, e113_47, e113_48, e113_49, e113_50, e113_53, e113_56, e113_57, rk_n, rk_v, nl_n, nl_i, nl_r, cat_n, ip_cat_int, ip_cat_ref, ip_cat_long, ip_rf_some, Nat.reduceAdd, Nat.reduceLeDiff, Nat.reduceLT, Nat.le_refl, Nat.zero_le, hR, hC, hT, r0, x6, nu_ge, lk, lc, g1, m8, k8, sh1, bit_2, g3, ia_T4 hT, nu_i, nu_tn, f1, of_or, nu_1, Bool.false_eq_true, Bool.true_eq_false, if_true, if_false, not_true_eq_false, not_false_eq_true, zle, eq_self]
    · simp only [e113_0, e113_1, e113_4, e113_7, e113_8, e113_9, e113_12, e113_13, e113_14, e113_15, e113_16, e113_17, e113_18, e113_20, e113_21, e113_24, e113_27, e113_30, e113_31, e113_32, e113_33, e113_34, e113_35, e113_38, e113_39, e113_40, e113_43, e113_46, e113_47, e113_48, e113_49, e113_50, e113_53, e113_56, e113_57, rk_n, rk_v, nl_n, nl_i, nl_r, cat_n, ip_cat_int, ip_cat_ref, ip_cat_long, ip_rf_some, Nat.reduceAdd, Nat.reduceLeDiff, Nat.reduceLT, Nat.le_refl, Nat.zero_le, hR, hC, hT, r0, x6, nu_ge, lk, lc, g1, m8, k8, sh1, bit_2, g3, nu_1, Bool.false_eq_true, Bool.true_eq_false, if_true, if_false, not_true_eq_false, not_false_eq_true, zle, eq_self]
  · rw [e113_19]
    simp only [e113_0, e113_1, e113_4, e113_7, e113_8, e113_9, e113_12, e113_13, e113_14, e113_15, e113_16, e113_17, e113_18, e113_20, e113_21, e113_24, e113_27, e113_30, e113_31, e113_32, e113_33, e113_34, e113_35, e113_38, e113_39, e113_40, e113_43, e113_46, e113_47, e113_48, e113_49, e113_50, e113_53, e113_56, e113_57, rk_n, rk_v, nl_n, nl_i, nl_r, cat_n, ip_cat_int, ip_cat_ref, ip_cat_long, ip_rf_some, Nat.reduceAdd, Nat.reduceLeDiff, Nat.reduceLT, Nat.le_refl, Nat.zero_le, hC, hT, r0, x6, Int32.le_refl, opU_opn (V := V) (br := br) (win := win) (fl := fl) (lev := lev) (rst := rst) (std := std) hm, Bool.false_eq_true, Bool.true_eq_false, if_true, if_false, not_true_eq_false, not_false_eq_true, zle, eq_self]
theorem c112 (hR : LYR R) (hC : isC C) (X : CTx T c std rst br win I L) (N : CNd F B c lev V fl I) (S : SIT C T F B c std rst br win V fl lev ap I R) (hm : m < 2 ^ c) : cf (d + 1) 112 [.ref C, .int (Int32.ofNat m)] (SH n, I, L, R, nc, ns, nx) = some (.inl (some (.int (aftN c std rst br win V fl lev m))), (SH n, I, L, R, nc, ns, nx)) := by
  have nF := N.1
  have hT := X.1
  have v8 := N.2.2.1
  have i4 := N.2.2.2.1
  have m8 : m < 256 := Nat.lt_of_lt_of_le hm (p2le X.2.1)
  have O := c113 (d := d) (n := n) (nc := nc) (ns := ns) (nx := nx) hR hC X N S hm
  have W := c18w (d := d) (n := n) (nc := nc) (ns := ns) (nx := nx) hR X (z := V 4 ^^^ (m &&& anwA std c)) (o := opnN c std rst br win V fl lev m) (Nat.xor_lt_two_pow (n := 8) (v8 4) (Nat.lt_of_le_of_lt Nat.and_le_left m8)) (opnN_lt X.2.1 v8 m8)
  rw [aft_eq hm] at W
  obtain ⟨r0, r1, -, -, -, s5, -⟩ := S
  simp only [en112, e112_0, e112_1, e112_2, e112_5, e112_6, e112_7, e112_10, e112_11, e112_14, e112_17, e112_18, e112_19, e112_22, e112_23, e112_24, e112_25, e112_28, rk_n, rk_v, nl_n, nl_i, nl_r, cat_n, ip_cat_int, ip_cat_ref, ip_cat_long, ip_rf_some, Nat.reduceAdd, Nat.reduceLeDiff, Nat.reduceLT, Nat.le_refl, Nat.zero_le, hC, hT, nF, r0, r1, O, i4, s5, of_and, of_xor, W]
theorem c111 (hR : LYR R) (hC : isC C) (X : CTx T c std rst br win I L) (N : CNd F B c lev V fl I) (S : SIT C T F B c std rst br win V fl lev ap I R) (hm : m < 2 ^ c) (ho : o < 2 ^ c) : cf (d + 2) 111 [.ref C, .int (Int32.ofNat m), .int (Int32.ofNat o)] (SH n, I, L, R, nc, ns, nx) = some (.inl (some (.int (outE c std rst br win V fl lev ap m (m ||| o)))), (SH n, I, L, R, nc, ns, nx)) := by
  have O1 := c112 (d := d) (n := n) (nc := nc) (ns := ns) (nx := nx) hR hC X N S hm
  have O2 := c112 (d := d) (n := n) (nc := nc) (ns := ns) (nx := nx) hR hC X N S (Nat.or_lt_two_pow hm ho)
  obtain ⟨-, -, -, -, s4, -, -⟩ := S
  unfold outE
  by_cases g1 : aftN c std rst br win V fl lev m = Int32.ofNat (1 - ap)
  · simp only [en111, e111_0, e111_1, e111_2, e111_5, e111_6, e111_9, e111_12, e111_13, e111_14, e111_15, e111_16, e111_17, e111_18, e111_21, e111_22, e111_23, e111_24, e111_27, e111_30, e111_31, e111_32, e111_33, e111_34, e111_37, e111_38, e111_41, e111_42, rk_n, rk_v, nl_n, nl_i, nl_r, cat_n, ip_cat_int, ip_cat_ref, ip_cat_long, ip_rf_some, Nat.reduceAdd, Nat.reduceLeDiff, Nat.reduceLT, Nat.le_refl, Nat.zero_le, hC, s4, O1, g1, Bool.false_eq_true, Bool.true_eq_false, if_true, if_false, not_true_eq_false, not_false_eq_true, zle, eq_self]
  · by_cases g2 : aftN c std rst br win V fl lev (m ||| o) = Int32.ofNat (1 - ap)
    · simp only [en111, e111_0, e111_1, e111_2, e111_5, e111_6, e111_9, e111_12, e111_13, e111_14, e111_15, e111_16, e111_17, e111_18, e111_21, e111_22, e111_23, e111_24, e111_27, e111_30, e111_31, e111_32, e111_33, e111_34, e111_37, e111_38, e111_41, e111_42, rk_n, rk_v, nl_n, nl_i, nl_r, cat_n, ip_cat_int, ip_cat_ref, ip_cat_long, ip_rf_some, Nat.reduceAdd, Nat.reduceLeDiff, Nat.reduceLT, Nat.le_refl, Nat.zero_le, hC, s4, O1, of_or, O2, g1, g2, Bool.false_eq_true, Bool.true_eq_false, if_true, if_false, not_true_eq_false, not_false_eq_true, zle, eq_self]
    · by_cases g3 : aftN c std rst br win V fl lev (m ||| o) = -1
      · rw [if_neg g1, if_neg g2, if_pos g3]
        rw [g3] at g2 O2
        simp only [en111, e111_0, e111_1, e111_2, e111_5, e111_6, e111_9, e111_12, e111_13, e111_14, e111_15, e111_16, e111_17, e111_18, e111_21, e111_22, e111_23, e111_24, e111_27, e111_30, e111_31, e111_32, e111_33, e111_34, e111_37, e111_38, e111_41, e111_42, rk_n, rk_v, nl_n, nl_i, nl_r, cat_n, ip_cat_int, ip_cat_ref, ip_cat_long, ip_rf_some, Nat.reduceAdd, Nat.reduceLeDiff, Nat.reduceLT, Nat.le_refl, Nat.zero_le, hC, s4, O1, of_or, O2, g1, g2, Bool.false_eq_true, Bool.true_eq_false, if_true, if_false, not_true_eq_false, not_false_eq_true, zle, eq_self]
      · simp only [en111, e111_0, e111_1, e111_2, e111_5, e111_6, e111_9, e111_12, e111_13, e111_14, e111_15, e111_16, e111_17, e111_18, e111_21, e111_22, e111_23, e111_24, e111_27, e111_30, e111_31, e111_32, e111_33, e111_34, e111_37, e111_38, e111_41, e111_42, rk_n, rk_v, nl_n, nl_i, nl_r, cat_n, ip_cat_int, ip_cat_ref, ip_cat_long, ip_rf_some, Nat.reduceAdd, Nat.reduceLeDiff, Nat.reduceLT, Nat.le_refl, Nat.zero_le, hC, s4, O1, of_or, O2, g1, g2, g3, Bool.false_eq_true, Bool.true_eq_false, if_true, if_false, not_true_eq_false, not_false_eq_true, zle, eq_self]
theorem c150 (hC : isC C) (s4 : I C 4 = Int32.ofNat (1 - ap)) (a2 : ap < 2) : cf d 150 [.ref C] (SH n, I, L, R, nc, ns, nx) = some (.inl (some (.int (Int32.ofNat ap))), (SH n, I, L, R, nc, ns, nx)) := by
  have s1 : (1 : Int32) - Int32.ofNat (1 - ap) = Int32.ofNat ap := by rcases lt2 a2 with rfl | rfl <;> decide
  simp only [en150, e150_0, e150_1, e150_2, e150_5, e150_6, rk_n, rk_v, nl_n, nl_i, nl_r, cat_n, ip_cat_int, ip_cat_ref, ip_cat_long, ip_rf_some, Nat.reduceAdd, Nat.reduceLeDiff, Nat.reduceLT, Nat.le_refl, Nat.zero_le, hC, s4, s1]
theorem c148 (hR : LYR R) (hC : isC C) (S : SIT C T F B c std rst br win V fl lev ap I R) (a2 : ap < 2) : cf d 148 [.ref C] (SH n, I, L, R, nc, ns, nx) = some (.inl (some (.int (Int32.ofNat (heardN c std rst br win V fl lev ap)))), (SH n, I, L, R, nc, ns, nx)) := by
  obtain ⟨-, -, -, -, s4, -, sh⟩ := S
  have s1 : (1 : Int32) - Int32.ofNat (1 - ap) = Int32.ofNat ap := by rcases lt2 a2 with rfl | rfl <;> decide
  have la : ap < 2147483648 := by omega
  simp only [en148, e148_0, e148_1, e148_4, e148_5, e148_6, e148_9, e148_10, e148_11, rk_n, rk_v, nl_n, nl_i, nl_r, cat_n, ip_cat_int, ip_cat_ref, ip_cat_long, ip_rf_some, Nat.reduceAdd, Nat.reduceLeDiff, Nat.reduceLT, Nat.le_refl, Nat.zero_le, hR, hC, ia_C13 hC, nu_i, nu_tn, la, a2, s4, s1, (sh ap a2).1]
theorem c109 (hR : LYR R) (hC : isC C) (S : SIT C T F B c std rst br win V fl lev ap I R) (a2 : ap < 2) : cf d 109 [.ref C] (SH n, I, L, R, nc, ns, nx) = some (.inl (some (.int (Int32.ofNat (errS c std rst br win V fl lev ap)))), (SH n, I, L, R, nc, ns, nx)) := by
  obtain ⟨-, -, -, -, s4, -, sh⟩ := S
  have s1 : (1 : Int32) - Int32.ofNat (1 - ap) = Int32.ofNat ap := by rcases lt2 a2 with rfl | rfl <;> decide
  have la : ap < 2147483648 := by omega
  simp only [en109, e109_0, e109_1, e109_4, e109_5, e109_6, e109_9, e109_10, e109_11, rk_n, rk_v, nl_n, nl_i, nl_r, cat_n, ip_cat_int, ip_cat_ref, ip_cat_long, ip_rf_some, Nat.reduceAdd, Nat.reduceLeDiff, Nat.reduceLT, Nat.le_refl, Nat.zero_le, hR, hC, ia_C14 hC, nu_i, nu_tn, la, a2, s4, s1, (sh ap a2).2]
theorem c110 (hR : LYR R) (hC : isC C) (S : SIT C T F B c std rst br win V fl lev ap I R) (a2 : ap < 2) : cf d 110 [.ref C] (SH n, I, L, R, nc, ns, nx) = some (.inl (some (.int (Int32.ofNat (errS c std rst br win V fl lev (1 - ap))))), (SH n, I, L, R, nc, ns, nx)) := by
  obtain ⟨-, -, -, -, s4, -, sh⟩ := S
  have la : 1 - ap < 2147483648 := by omega
  have l2 : 1 - ap < 2 := by omega
  simp only [en110, e110_0, e110_1, e110_4, e110_5, e110_8, e110_9, rk_n, rk_v, nl_n, nl_i, nl_r, cat_n, ip_cat_int, ip_cat_ref, ip_cat_long, ip_rf_some, Nat.reduceAdd, Nat.reduceLeDiff, Nat.reduceLT, Nat.le_refl, Nat.zero_le, hR, hC, ia_C14 hC, nu_i, nu_tn, la, l2, s4, (sh (1 - ap) l2).2]
theorem c143 (hC : isC C) (r0 : R C 0 = some T) : cf d 143 [.ref C] (SH n, I, L, R, nc, ns, nx) = some (.inl (some (.ref T)), (SH n, I, L, R, nc, ns, nx)) := by
  simp only [en143, e143_0, e143_1, e143_4, rk_n, rk_v, nl_n, nl_i, nl_r, cat_n, ip_cat_int, ip_cat_ref, ip_cat_long, ip_rf_some, Nat.reduceAdd, Nat.reduceLeDiff, Nat.reduceLT, Nat.le_refl, Nat.zero_le, hC, r0]
theorem c151 (hC : isC C) (r1 : R C 1 = some F) : cf d 151 [.ref C] (SH n, I, L, R, nc, ns, nx) = some (.inl (some (.ref F)), (SH n, I, L, R, nc, ns, nx)) := by
  simp only [en151, e151_0, e151_1, e151_4, rk_n, rk_v, nl_n, nl_i, nl_r, cat_n, ip_cat_int, ip_cat_ref, ip_cat_long, ip_rf_some, Nat.reduceAdd, Nat.reduceLeDiff, Nat.reduceLT, Nat.le_refl, Nat.zero_le, hC, r1]
theorem pop_d : ∀ p, p < 9 → ∀ q, q < 9 → ((Int32.ofNat p - Int32.ofNat q < 0) ↔ p < q) ∧ ((Int32.ofNat p - Int32.ofNat q = 0) ↔ p = q) := by decide +kernel
/-- fewer issues, or as many and less as bits -/
def smN (a b : Nat) : Bool := decide (pop a < pop b ∨ (pop a = pop b ∧ a < b))
theorem c133 (ha : a < 256) (hb : b < 256) : cf (d + 1) 133 [.int (Int32.ofNat a), .int (Int32.ofNat b)] h = some (.inl (some (.int (if smN a b = true then 1 else 0))), h) := by
  have pa := pop_le a ha
  have pb := pop_le b hb
  obtain ⟨q1, q2⟩ := pop_d _ (show pop a < 9 by omega) _ (show pop b < 9 by omega)
  have lt : (Int32.ofNat b ≤ Int32.ofNat a) = (b ≤ a) := nu_ge (by omega) (by omega)
  unfold smN
  by_cases g1 : pop a < pop b
  · simp only [en133, e133_0, e133_1, e133_4, e133_5, e133_8, e133_9, e133_10, e133_11, e133_14, e133_15, e133_18, e133_19, e133_20, e133_23, e133_24, e133_27, e133_28, rk_n, rk_v, nl_n, nl_i, nl_r, cat_n, ip_cat_int, ip_cat_ref, ip_cat_long, ip_rf_some, Nat.reduceAdd, Nat.reduceLeDiff, Nat.reduceLT, Nat.le_refl, Nat.zero_le, c19s ha, c19s hb, q1, g1, true_or, or_true, decide_true, Bool.false_eq_true, Bool.true_eq_false, if_true, if_false, not_true_eq_false, not_false_eq_true, zle, eq_self]
  · by_cases g2 : pop a = pop b
    · by_cases g3 : a < b
      · have g4 : ¬ b ≤ a := by omega
        simp only [en133, e133_0, e133_1, e133_4, e133_5, e133_8, e133_9, e133_10, e133_11, e133_14, e133_15, e133_18, e133_19, e133_20, e133_23, e133_24, e133_27, e133_28, rk_n, rk_v, nl_n, nl_i, nl_r, cat_n, ip_cat_int, ip_cat_ref, ip_cat_long, ip_rf_some, Nat.reduceAdd, Nat.reduceLeDiff, Nat.reduceLT, Nat.le_refl, Nat.zero_le, c19s ha, c19s hb, q1, q2, g1, g2, g3, g4, lt, true_or, or_true, and_true, decide_true, Bool.false_eq_true, Bool.true_eq_false, if_true, if_false, not_true_eq_false, not_false_eq_true, zle, eq_self]
        simp only [show ¬ pop b < pop b by omega, Int32.sub_self, Bool.false_eq_true, Bool.true_eq_false, if_true, if_false, not_true_eq_false, not_false_eq_true, zle, eq_self, or_true, decide_true, show ¬ (0 : Int32) < 0 by decide]
      · have g4 : b ≤ a := by omega
        simp only [en133, e133_0, e133_1, e133_4, e133_5, e133_8, e133_9, e133_10, e133_11, e133_14, e133_15, e133_18, e133_19, e133_20, e133_23, e133_24, e133_27, e133_28, rk_n, rk_v, nl_n, nl_i, nl_r, cat_n, ip_cat_int, ip_cat_ref, ip_cat_long, ip_rf_some, Nat.reduceAdd, Nat.reduceLeDiff, Nat.reduceLT, Nat.le_refl, Nat.zero_le, c19s ha, c19s hb, q1, q2, g1, g2, g3, g4, lt, true_or, and_false, or_false, decide_false, Bool.false_eq_true, Bool.true_eq_false, if_true, if_false, not_true_eq_false, not_false_eq_true, zle, eq_self]
        simp only [show ¬ pop b < pop b by omega, Int32.sub_self, Bool.false_eq_true, Bool.true_eq_false, if_true, if_false, not_true_eq_false, not_false_eq_true, zle, eq_self, or_true, decide_true, decide_false, show ¬ (0 : Int32) < 0 by decide]
    · simp only [en133, e133_0, e133_1, e133_4, e133_5, e133_8, e133_9, e133_10, e133_11, e133_14, e133_15, e133_18, e133_19, e133_20, e133_23, e133_24, e133_27, e133_28, rk_n, rk_v, nl_n, nl_i, nl_r, cat_n, ip_cat_int, ip_cat_ref, ip_cat_long, ip_rf_some, Nat.reduceAdd, Nat.reduceLeDiff, Nat.reduceLT, Nat.le_refl, Nat.zero_le, c19s ha, c19s hb, q1, q2, g1, g2, true_or, false_and, or_false, decide_false, Bool.false_eq_true, Bool.true_eq_false, if_true, if_false, not_true_eq_false, not_false_eq_true, zle, eq_self]
theorem c20s (ho : o < 256) (hs : s < 256) : cf d 20 [.int (Int32.ofNat s), .int (Int32.ofNat o)] h = some (.inl (some (.int (Int32.ofNat (nxs o s)))), h) := by
  rw [c20, nxs_ok o ho s hs]
end CO
