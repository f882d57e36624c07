/-! A NEW NODE keeps the relation -/
section NN
variable {n d a b T c s t z o w m p lev k side ap b0 b1 N q B : Nat} {I J K I1 I2 : Nat → Nat → Int32} {L L' : Nat → Nat → Int64} {R R' : Nat → Nat → Option Nat} {nc ns : Nat} {nx : Bool} {x y j v u code x1 x2 x3 : Int32} {P : Nat → Nat → Prop} {h' h : ip_H} {std rst V : Nat → Nat} {win : Nat → Bool} {br fl : Nat → Int32}
/-- nodes ahead of a number stay -/
theorem ND_old (c8 : c ≤ 8) (hN : N ≤ 40) (hk : k < N) (X : ND c k I) (H1 : ∀ a j, 65 ≤ a → a < 65 + 5 * N → J a j = I a j) (H2 : ∀ a j, 289 ≤ a → a ≤ 299 → j < N → J a j = I a j) (H3 : ∀ a j, (a = 300 ∨ a = 301) → j < 2 * N → J a j = I a j) (H4 : ∀ a j, (a = 302 ∨ a = 303 ∨ a = 304) → j < 8 * N → J a j = I a j) : ND c k J := by
  have A : ∀ i j, i < N → J (65 + 5 * i) j = I (65 + 5 * i) j := fun i j hi => H1 _ _ (by omega) (by omega)
  have B1 : ∀ j, J (65 + 5 * k + 1) j = I (65 + 5 * k + 1) j := fun j => H1 _ _ (by omega) (by omega)
  have B2 : ∀ j, J (65 + 5 * k + 2) j = I (65 + 5 * k + 2) j := fun j => H1 _ _ (by omega) (by omega)
  have B3 : ∀ j, J (65 + 5 * k + 3) j = I (65 + 5 * k + 3) j := fun j => H1 _ _ (by omega) (by omega)
  have B4 : ∀ j, J (65 + 5 * k + 4) j = I (65 + 5 * k + 4) j := fun j => H1 _ _ (by omega) (by omega)
  have Ak : ∀ j, J (65 + 5 * k) j = I (65 + 5 * k) j := fun j => A k j hk
  have C : ∀ e, 289 ≤ e → e ≤ 299 → J e k = I e k := fun e h1 h2 => H2 e k h1 h2 hk
  unfold ND at X ⊢
  rw [C 289 (by omega) (by omega), Ak, Ak, Ak, Ak, Ak, Ak, Ak, Ak, Ak, Ak, Ak, Ak, C 290 (by omega) (by omega), C 291 (by omega) (by omega), C 292 (by omega) (by omega), C 293 (by omega) (by omega), C 294 (by omega) (by omega), C 295 (by omega) (by omega), C 296 (by omega) (by omega), C 297 (by omega) (by omega), C 298 (by omega) (by omega), C 299 (by omega) (by omega)]
  obtain ⟨x1, ⟨x2, x3, x4⟩, x5, x6, x7, x8, x9, x10, x11, x12, x13, x14, x15, x16, x17⟩ := X
  refine ⟨x1, ⟨x2, x3, ?_⟩, x5, x6, x7, x8, x9, x10, x11, x12, x13, x14, x15, ?_, ?_⟩
  · intro h0
    obtain ⟨q, h1, h2, h3⟩ := x4 h0
    exact ⟨q, h1, h2, by rw [A q 11 (by omega)]; exact h3⟩
  · intro s hs
    rw [B1, B2, H3 300 _ (Or.inl rfl) (by omega), H3 301 _ (Or.inr rfl) (by omega)]
    exact x16 s hs
  · intro i hi
    rw [H4 302 _ (by omega) (by omega), H4 303 _ (by omega) (by omega), H4 304 _ (by omega) (by omega), B3, B4]
    refine ⟨(x17 i hi).1, fun h => ?_⟩
    obtain ⟨h1, q, h2, h3, h4, h5⟩ := (x17 i hi).2 h
    exact ⟨h1, q, h2, h3, h4, by rw [H2 289 q (by omega) (by omega) (by omega)]; exact h5⟩
theorem inb_of {t K : Nat} (h : t < K) (hK : K ≤ 256) : inb (Int32.ofNat t) K := (nu_inb (by omega)).mpr h
/-- what an appeal makes: the same in both -/
theorem ND_app (hc8 : c ≤ 8) (hN : N < 40) (hw : w < N) (hl : lev = 1 ∨ lev = 2) (a2 : ap < 2) (q0 : b0 < 2 ^ c) (q1 : b1 < 2 ^ c) {hw0 : Int32} {S0 tt oo zz lo lo' : Nat}
    (W : ND c w I) (Q : ND c q I) (hO : hw0 = 0 ∨ hw0 = 1 ∨ hw0 = 2 ∨ hw0 = 3) (lS : S0 < 2 ^ c) (lt : tt < 2 ^ c) (lo2 : oo < 2 ^ c) (lz : zz < 2 ^ c) (ez : zz = (VI I w q 4 ^^^ tt) &&& (255 ^^^ oo)) (V6o : ∀ i, (VI I w q 6).testBit i = true → oo.testBit i = true) (t6 : ∀ i, tt.testBit i = true → oo.testBit i = false) (st : Prop) [Decidable st] (hst : st → oo = VI I w q 6) (el : lo = lo') (llo : lo < 2 ^ c)
    (k0 : K (65 + 5 * N) 0 = Int32.ofNat lev) (k1 : K (65 + 5 * N) 1 = Int32.ofNat w) (k2 : K (65 + 5 * N) 2 = hw0) (k3 : K (65 + 5 * N) 3 = Int32.ofNat oo) (k4 : K (65 + 5 * N) 4 = Int32.ofNat ((VI I w q 4 ^^^ tt) &&& (255 ^^^ oo))) (k5 : K (65 + 5 * N) 5 = Int32.ofNat ((VI I w q 5 ^^^ tt) &&& (255 ^^^ oo))) (k6 : K (65 + 5 * N) 6 = Int32.ofNat oo)
    (k7 : K (65 + 5 * N) 7 = Int32.ofNat ((VI I w q 7 ||| S0 ||| lo) &&& (255 ^^^ oo))) (k8 : K (65 + 5 * N) 8 = Int32.ofNat (VI I w q 8 &&& (255 ^^^ S0))) (k9 : K (65 + 5 * N) 9 = Int32.ofNat ap) (k10 : K (65 + 5 * N) 10 = Int32.ofNat tt) (k11 : K (65 + 5 * N) 11 = I (65 + 5 * w) 11) (kb0 : K (65 + 5 * N + 1) 0 = Int32.ofNat b0) (kb1 : K (65 + 5 * N + 1) 1 = Int32.ofNat b1)
    (kk : ∀ s, s < 2 → K (65 + 5 * N + 2) s = Int32.ofNat (VI I w q (14 + s) &&& (255 ^^^ tt) &&& (255 ^^^ oo))) (kf : ∀ i, i < 8 → K (65 + 5 * N + 3) i = (if tt.testBit i = true then 9 - I (65 + 5 * w + 3) i else I (65 + 5 * w + 3) i) ∧ K (65 + 5 * N + 4) i = (if tt.testBit i = true then Int32.ofNat N else I (65 + 5 * w + 4) i))
    (m0 : K 289 N = Int32.ofNat lev) (m1 : K 290 N = Int32.ofNat w) (m2 : K 291 N = hw0) (m3 : K 292 N = Int32.ofNat oo) (m6 : K 293 N = Int32.ofNat oo) (m7 : K 294 N = Int32.ofNat ((VI I w q 7 ||| S0 ||| lo') &&& (255 ^^^ oo))) (m8 : K 295 N = Int32.ofNat (VI I w q 8 &&& (255 ^^^ S0))) (m4 : K 296 N = Int32.ofNat zz) (m9 : K 297 N = Int32.ofNat ap) (m10 : K 298 N = Int32.ofNat tt) (m99 : K 299 N = 0) (mb0 : K 300 (2 * N) = Int32.ofNat b0) (mb1 : K 300 (2 * N + 1) = Int32.ofNat b1)
    (mk : ∀ s, s < 2 → K 301 (2 * N + s) = Int32.ofNat (VI I w q (14 + s) &&& (255 ^^^ (oo ||| tt))))
    (mf : ∀ k, k < 8 → (K 302 (8 * N + k) = (if ¬ st ∧ k < c ∧ oo.testBit k = true then -1 else if tt.testBit k = true ∧ k < c then 9 - I 302 (8 * w + k) else I 302 (8 * w + k))) ∧ (K 303 (8 * N + k) = (if ¬ st ∧ k < c ∧ oo.testBit k = true then -1 else if tt.testBit k = true ∧ k < c then Int32.ofNat lev else I 303 (8 * w + k))) ∧ (K 304 (8 * N + k) = (if ¬ st ∧ k < c ∧ oo.testBit k = true then -1 else if tt.testBit k = true ∧ k < c then Int32.ofNat N else I 304 (8 * w + k))))
    (r11 : K (65 + 5 * w) 11 = I (65 + 5 * w) 11) (old : ∀ i, i < N → K 289 i = I 289 i) : ND c N K := by
  have P8 := p2le hc8
  have vlt := VI_lt hc8 W Q
  have ln0 : ¬ Int32.ofNat lev = 0 := by rcases hl with rfl | rfl <;> decide
  have so : sN (K 293 N) = oo := by rw [m6, sN_of (by omega)]
  have sz : sN (K 296 N) = zz := by rw [m4, sN_of (by omega)]
  have f15 := W.2.2.2.2.2.2.2.2.2.2.2.2.2.2
  refine ⟨⟨k0.trans m0.symm, ?_⟩, ⟨k1.trans m1.symm, fun e => by omega, fun _ => ⟨w, hw, m1, ?_⟩⟩, ⟨k2.trans m2.symm, fun e => absurd (m0 ▸ e) ln0, fun _ => by rw [m2]; exact hO⟩, ⟨k3.trans m3.symm, by rw [m3]; exact inb_of lo2 P8, fun _ => by rw [m3, m6]⟩, ⟨by rw [k4, m4, ez], by rw [m4]; exact inb_of lz P8⟩, ⟨k6.trans m6.symm, by rw [m6]; exact inb_of lo2 P8⟩, ?_, ?_, ⟨by rw [k7, m7, el], ?_⟩, ⟨k8.trans m8.symm, ?_⟩, ⟨k10.trans m10.symm, by rw [m10]; exact inb_of lt P8⟩, k9.trans m9.symm, ?_, ?_, ?_⟩
  · rw [m0]
    rcases hl with rfl | rfl
    · exact Or.inr (Or.inl rfl)
    · exact Or.inr (Or.inr rfl)
  · rw [k11, r11, m0, if_neg ln0, Int32.add_zero]
  · rw [so, sz, ez, Nat.and_assoc]
    apply Nat.eq_of_testBit_eq
    intro i
    rw [Nat.testBit_and, Nat.testBit_and, tbn, Nat.zero_testBit]
    by_cases h8 : i < 8
    · simp only [h8, decide_true]; cases oo.testBit i <;> simp
    · rw [tb_hi (show oo < 256 by omega) (by omega)]; simp
  · rw [k5, so, sz, ez]
    apply congrArg
    apply Nat.eq_of_testBit_eq
    intro i
    simp only [Nat.testBit_and, Nat.testBit_xor, tb255, Nat.testBit_two_pow_sub_one]
    by_cases hi : i < c
    · have h8 : i < 8 := by omega
      have v5 := VI_5 (q := q) hc8 W hi
      simp only [hi, h8, decide_true, Bool.true_and, Bool.true_xor]
      cases ho : oo.testBit i with
      | true => simp
      | false =>
        have v6 : (VI I w q 6).testBit i = false := by
          cases e : (VI I w q 6).testBit i with
          | false => rfl
          | true => rw [V6o i e] at ho; cases ho
        rw [v5, v6]
        cases (VI I w q 4).testBit i <;> cases tt.testBit i <;> rfl
    · rw [Nat.testBit_lt_two_pow (Nat.lt_of_lt_of_le (vlt 5) (Nat.pow_le_pow_right (by omega) (by omega))), Nat.testBit_lt_two_pow (Nat.lt_of_lt_of_le lt (Nat.pow_le_pow_right (by omega) (by omega)))]
      simp [hi]
  · rw [m7, ← el]
    refine inb_of (Nat.lt_of_le_of_lt Nat.and_le_left (Nat.or_lt_two_pow (Nat.or_lt_two_pow (vlt 7) lS) llo)) P8
  · rw [m8]
    exact inb_of (Nat.lt_of_le_of_lt Nat.and_le_left (vlt 8)) P8
  · rw [m99, m0, if_neg ln0]
  · intro s hs
    have e1 : VI I w q (14 + s) &&& (255 ^^^ tt) &&& (255 ^^^ oo) = VI I w q (14 + s) &&& (255 ^^^ (oo ||| tt)) := by
      apply Nat.eq_of_testBit_eq
      intro i
      simp only [Nat.testBit_and, Nat.testBit_xor, tb255, Nat.testBit_or]
      by_cases h8 : i < 8
      · simp only [h8, decide_true]
        cases (VI I w q (14 + s)).testBit i <;> cases tt.testBit i <;> cases oo.testBit i <;> rfl
      · rw [tb_hi (Nat.lt_of_lt_of_le (vlt _) P8) (by omega)]; rfl
    refine ⟨?_, ⟨by rw [kk s hs, mk s hs, e1], by rw [mk s hs]; exact inb_of (Nat.lt_of_le_of_lt Nat.and_le_left (vlt _)) P8⟩⟩
    rcases lt2 hs with rfl | rfl
    · exact ⟨kb0.trans mb0.symm, by rw [show 2 * N + 0 = 2 * N from rfl, mb0]; exact inb_of q0 P8⟩
    · exact ⟨kb1.trans mb1.symm, by rw [mb1]; exact inb_of q1 P8⟩
  · intro i hi
    obtain ⟨x2, x3, x4⟩ := mf i (by omega)
    obtain ⟨y3, y4⟩ := kf i (by omega)
    rw [so]
    constructor
    · intro h
      have tz : ¬ tt.testBit i = true := fun e => by rw [t6 i e] at h; cases h
      rw [x2, x3, x4]
      by_cases hs : st
      · have e6 : (sN (I 293 w)).testBit i = true := by
          have := hst hs
          rw [this] at h
          exact h
        simp only [hs, not_true_eq_false, false_and, if_false, tz]
        exact (f15 i hi).1 e6
      · rw [if_pos ⟨hs, hi, h⟩, if_pos ⟨hs, hi, h⟩, if_pos ⟨hs, hi, h⟩]
        exact ⟨rfl, rfl, rfl⟩
    · intro h
      have v6 : (sN (I 293 w)).testBit i = false := by
        cases e : (sN (I 293 w)).testBit i with
        | false => rfl
        | true => rw [V6o i e] at h; cases h
      obtain ⟨a1, q', b2, b3, b4, b5⟩ := (f15 i hi).2 v6
      have n1 : ¬ (¬ st ∧ i < c ∧ oo.testBit i = true) := fun e => by rw [h] at e; cases e.2.2
      rw [if_neg n1] at x2 x3 x4
      by_cases ht : tt.testBit i = true
      · rw [if_pos ⟨ht, hi⟩] at x2 x3 x4
        rw [if_pos ht] at y3 y4
        exact ⟨by rw [y3, x2, a1], N, Nat.le_refl _, y4, x4, by rw [x3, m0]⟩
      · rw [if_neg (fun e => ht e.1)] at x2 x3 x4
        rw [if_neg ht] at y3 y4
        exact ⟨by rw [y3, x2, a1], q', by omega, by rw [y4, b3], by rw [x4, b4], by rw [x3, b5, old q' (by omega)]⟩
end NN
