/-! WHO WINS FOR SURE: both are sureI -/
theorem tb255 (i : Nat) : (255 : Nat).testBit i = decide (i < 8) := Nat.testBit_two_pow_sub_one (n := 8) (i := i)
theorem tbn (o i : Nat) : (255 ^^^ o).testBit i = (decide (i < 8) ^^ o.testBit i) := by rw [Nat.testBit_xor, tb255]
theorem tb_hi {s i : Nat} (hs : s < 256) (hi : 8 ≤ i) : s.testBit i = false := Nat.testBit_lt_two_pow (Nat.lt_of_lt_of_le hs (Nat.pow_le_pow_right (n := 2) (by omega) hi))
section SV
variable {n d a b T c s z o : Nat} {I : Nat → Nat → Int32} {L : Nat → Nat → Int64} {R : Nat → Nat → Option Nat} {nc ns : Nat} {nx : Bool} {x y w j : Int32} {h : ip_H} {f g : Nat → Nat} {win : Nat → Bool} {u : Int64}
theorem dk6 : ∀ p, p < 64 → ∀ k, k < 6 → p.testBit k = false → 2 ^ k + p = p ||| 2 ^ k ∧ p ||| 2 ^ k < 64 ∧ 2 ^ k < 64 := by decide +kernel
/-- q agrees with p but for those of o below k -/
def agr (o k p q : Nat) : Prop := ∀ i, (k ≤ i ∨ o.testBit i = false) → q.testBit i = p.testBit i
theorem agr_t {o k p q : Nat} (ho : o.testBit k = true) (hp : p.testBit k = false) : agr o (k + 1) p q ↔ agr o k p q ∨ agr o k (p ||| 2 ^ k) q := by
  have e : ∀ i, ¬ i = k → (p ||| 2 ^ k).testBit i = p.testBit i := by
    intro i hi
    rw [Nat.testBit_or, Nat.testBit_two_pow, decide_eq_false (fun e : k = i => hi e.symm), Bool.or_false]
  have e2 : (p ||| 2 ^ k).testBit k = true := by
    rw [Nat.testBit_or, Nat.testBit_two_pow]
    simp
  constructor
  · intro H
    by_cases g : q.testBit k = false
    · left
      intro i hi
      by_cases hk : i = k
      · subst hk; rw [g, hp]
      · exact H i (hi.imp (by omega) id)
    · right
      intro i hi
      by_cases hk : i = k
      · subst hk; rw [e2]; exact tb_false g
      · rw [e i hk]; exact H i (hi.imp (by omega) id)
  · rintro (H | H) i hi
    · exact H i (hi.imp (by omega) id)
    · have hk : ¬ i = k := by
        rintro rfl
        rcases hi with hi | hi
        · omega
        · rw [ho] at hi; cases hi
      rw [← e i hk]
      exact H i (hi.imp (by omega) id)
theorem agr_f {o k p q : Nat} (ho : o.testBit k = false) : agr o (k + 1) p q ↔ agr o k p q := by
  constructor
  · intro H i hi
    by_cases hk : i = k
    · subst hk; exact H i (Or.inr ho)
    · exact H i (hi.imp (by omega) id)
  · intro H i hi
    exact H i (hi.imp (by omega) id)
theorem us_b (x : Int64) {k p : Nat} (hk : k < 6) (hp : p < 64) (h : p.testBit k = false) : bL (us x (Int32.ofNat (2 ^ k))) p = bL x (p ||| 2 ^ k) := by
  obtain ⟨e1, e2, e3⟩ := dk6 p hp k hk h
  unfold us
  rw [bL_sh x e3, e1]
theorem evS_bit (o : Nat) (x : Int64) : ∀ k, k ≤ 6 → ∀ p, p < 64 → (∀ i, i < k → o.testBit i = true → p.testBit i = false) → (bL (evS o x k) p = true ↔ ∀ q, q < 64 → agr o k p q → bL x q = true) := by
  intro k
  induction k with
  | zero =>
    intro _ p hp _
    constructor
    · intro H q _ hq
      have e : q = p := Nat.eq_of_testBit_eq (fun i => hq i (Or.inl (by omega)))
      rw [e]; exact H
    · intro H
      exact H p hp (fun _ _ => rfl)
  | succ k ih =>
    intro hk p hp H
    rw [evS]
    by_cases g : o.testBit k = true
    · have hpk := H k (by omega) g
      obtain ⟨e1, e2, e3⟩ := dk6 p hp k (by omega) hpk
      have i1 := ih (by omega) p hp (fun i h1 h2 => H i (by omega) h2)
      have i2 := ih (by omega) (p ||| 2 ^ k) e2 (fun i h1 h2 => by
        rw [Nat.testBit_or, Nat.testBit_two_pow, H i (by omega) h2]
        simp
        omega)
      rw [if_pos g, bL_and, us_b _ (by omega) hp hpk, Bool.and_eq_true, i1, i2]
      constructor
      · rintro ⟨a1, a2⟩ q hq hq2
        rcases (agr_t g hpk).mp hq2 with h3 | h3
        · exact a1 q hq h3
        · exact a2 q hq h3
      · intro a1
        exact ⟨fun q hq h3 => a1 q hq ((agr_t g hpk).mpr (Or.inl h3)), fun q hq h3 => a1 q hq ((agr_t g hpk).mpr (Or.inr h3))⟩
    · rw [if_neg g, ih (by omega) p hp (fun i h1 h2 => H i (by omega) h2)]
      simp only [agr_f (Bool.eq_false_iff.mpr g)]
theorem soS_bit (o : Nat) (x : Int64) : ∀ k, k ≤ 6 → ∀ p, p < 64 → (∀ i, i < k → o.testBit i = true → p.testBit i = false) → (bL (soS o x k) p = false ↔ ∀ q, q < 64 → agr o k p q → bL x q = false) := by
  intro k
  induction k with
  | zero =>
    intro _ p hp _
    constructor
    · intro H q _ hq
      have e : q = p := Nat.eq_of_testBit_eq (fun i => hq i (Or.inl (by omega)))
      rw [e]; exact H
    · intro H
      exact H p hp (fun _ _ => rfl)
  | succ k ih =>
    intro hk p hp H
    rw [soS]
    by_cases g : o.testBit k = true
    · have hpk := H k (by omega) g
      obtain ⟨e1, e2, e3⟩ := dk6 p hp k (by omega) hpk
      have i1 := ih (by omega) p hp (fun i h1 h2 => H i (by omega) h2)
      have i2 := ih (by omega) (p ||| 2 ^ k) e2 (fun i h1 h2 => by
        rw [Nat.testBit_or, Nat.testBit_two_pow, H i (by omega) h2]
        simp
        omega)
      rw [if_pos g, bL_or, us_b _ (by omega) hp hpk, Bool.or_eq_false_iff, i1, i2]
      constructor
      · rintro ⟨a1, a2⟩ q hq hq2
        rcases (agr_t g hpk).mp hq2 with h3 | h3
        · exact a1 q hq h3
        · exact a2 q hq h3
      · intro a1
        exact ⟨fun q hq h3 => a1 q hq ((agr_t g hpk).mpr (Or.inl h3)), fun q hq h3 => a1 q hq ((agr_t g hpk).mpr (Or.inr h3))⟩
    · rw [if_neg g, ih (by omega) p hp (fun i h1 h2 => H i (by omega) h2)]
      simp only [agr_f (Bool.eq_false_iff.mpr g)]
theorem bL_m1 : ∀ q, q < 64 → bL (-1) q = true ∧ bL 0 q = false := by decide +kernel
theorem evL_bit (L : Nat → Nat → Int64) (T z o : Nat) {q : Nat} (hq : q < 64) : ∀ m, bL (evL L T z o m) q = true ↔ ∀ k, k < m → hiM z o k = true → bL (L (T + 6) k) q = true := by
  intro m
  induction m with
  | zero => simp only [evL, (bL_m1 q hq).1, true_iff]; intro k hk; omega
  | succ m ih =>
    rw [evL]
    by_cases g : hiM z o m = true
    · rw [if_pos g, bL_and, Bool.and_eq_true, ih]
      constructor
      · rintro ⟨a1, a2⟩ k hk hg
        by_cases e : k = m
        · subst e; exact a2
        · exact a1 k (by omega) hg
      · intro a1
        exact ⟨fun k hk => a1 k (by omega), a1 m (by omega) g⟩
    · rw [if_neg g, ih]
      constructor
      · intro a1 k hk hg
        by_cases e : k = m
        · subst e; exact absurd hg g
        · exact a1 k (by omega) hg
      · exact fun a1 k hk => a1 k (by omega)
theorem soL_bit (L : Nat → Nat → Int64) (T z o : Nat) {q : Nat} (hq : q < 64) : ∀ m, bL (soL L T z o m) q = false ↔ ∀ k, k < m → hiM z o k = true → bL (L (T + 6) k) q = false := by
  intro m
  induction m with
  | zero => simp only [soL, (bL_m1 q hq).2, true_iff]; intro k hk; omega
  | succ m ih =>
    rw [soL]
    by_cases g : hiM z o m = true
    · rw [if_pos g, bL_or, Bool.or_eq_false_iff, ih]
      constructor
      · rintro ⟨a1, a2⟩ k hk hg
        by_cases e : k = m
        · subst e; exact a2
        · exact a1 k (by omega) hg
      · intro a1
        exact ⟨fun k hk => a1 k (by omega), a1 m (by omega) g⟩
    · rw [if_neg g, ih]
      constructor
      · intro a1 k hk hg
        by_cases e : k = m
        · subst e; exact absurd hg g
        · exact a1 k (by omega) hg
      · exact fun a1 k hk => a1 k (by omega)
/-- a set of the cube is a word and a place in it -/
theorem cube_iff {z o : Nat} (hz : z < 256) (ho : o < 256) (P : Nat → Prop) : (∀ q, q < 64 → agr o 6 ((z &&& (255 ^^^ o)) % 64) q → ∀ k, k < 4 → hiM z o k = true → P (64 * k + q)) ↔ ∀ s, s < 256 → s &&& (255 ^^^ o) = z &&& (255 ^^^ o) → P s := by
  have m6 : ∀ x i, (x % 64).testBit i = (decide (i < 6) && x.testBit i) := fun x i => Nat.testBit_mod_two_pow x 6 i
  have d6 : ∀ x i, (64 * (x / 64)).testBit i = (decide (6 ≤ i) && x.testBit i) := by
    intro x i
    rw [show (64 : Nat) = 2 ^ 6 from rfl, Nat.testBit_two_pow_mul]
    by_cases hi : 6 ≤ i
    · rw [Nat.testBit_div_two_pow, show i - 6 + 6 = i by omega]
    · simp [hi]
  constructor
  · intro H s hs e
    have e0 : ∀ i, (s.testBit i && (decide (i < 8) ^^ o.testBit i)) = (z.testBit i && (decide (i < 8) ^^ o.testBit i)) := by
      intro i
      have := congrArg (fun v => v.testBit i) e
      simpa only [Nat.testBit_and, tbn] using this
    have := H (s % 64) (by omega) ?_ (s / 64) (by omega) ?_
    · rw [show 64 * (s / 64) + s % 64 = s by omega] at this; exact this
    · intro i hi
      rw [m6, m6, Nat.testBit_and, tbn]
      by_cases h6 : i < 6
      · rcases hi with hi | hi
        · omega
        · have := e0 i
          have h8 : i < 8 := by omega
          rw [hi] at this ⊢
          simpa [h6, h8] using this
      · simp [h6]
    · unfold hiM
      rw [decide_eq_true_eq]
      apply Nat.eq_of_testBit_eq
      intro i
      rw [Nat.testBit_and, d6, d6, Nat.testBit_and, tbn]
      have := e0 i
      by_cases h6 : 6 ≤ i
      · simpa [h6] using this
      · simp [h6]
  · intro H q hq ha k hk hm
    apply H (64 * k + q) (by omega)
    unfold hiM at hm
    rw [decide_eq_true_eq] at hm
    apply Nat.eq_of_testBit_eq
    intro i
    rw [Nat.testBit_and, show (64 : Nat) = 2 ^ 6 from rfl, Nat.testBit_two_pow_mul_add k hq]
    by_cases h6 : i < 6
    · rw [if_pos h6, tbn, Nat.testBit_and, tbn]
      cases hoi : o.testBit i with
      | true => simp [show i < 8 by omega]
      | false =>
        have := ha i (Or.inr hoi)
        rw [m6, Nat.testBit_and, tbn, hoi] at this
        simp [show i < 8 by omega, h6] at this ⊢
        exact this
    · rw [if_neg h6]
      have := congrArg (fun v => v.testBit i) hm
      simp only [Nat.testBit_and] at this
      rw [d6, show (64 : Nat) = 2 ^ 6 from rfl, Nat.testBit_two_pow_mul] at this
      simp [show 6 ≤ i by omega] at this ⊢
      exact this
theorem pl_bit {z o : Nat} : ∀ i, i < 6 → o.testBit i = true → ((z &&& (255 ^^^ o)) % 64).testBit i = false := by
  intro i hi ho
  rw [show (64 : Nat) = 2 ^ 6 from rfl, Nat.testBit_mod_two_pow, Nat.testBit_and, tbn, ho]
  simp [show i < 8 by omega]
theorem c18 (hR : LYR R) (hT : isT T) (hz : z < 256) (ho : o < 256) : cf d 18 [.ref T, .int (Int32.ofNat z), .int (Int32.ofNat o)] (SH n, I, L, R, nc, ns, nx) = some (.inl (some (.int (sureI (winL L T) z o))), (SH n, I, L, R, nc, ns, nx)) := by
  rw [c18x hR hT hz ho]
  have l2 : (z &&& (255 ^^^ o)) % 64 < 64 := by omega
  have W : ∀ k q, q < 64 → bL (L (T + 6) k) q = winL L T (64 * k + q) := by
    intro k q hq
    unfold winL
    rw [show (64 * k + q) / 64 = k by omega, show (64 * k + q) % 64 = q by omega]
  have h1 : bL (evS o (evL L T z o 4) 6) ((z &&& (255 ^^^ o)) % 64) = true ↔ alw (winL L T) z o = true := by
    rw [evS_bit o _ 6 (by omega) _ l2 pl_bit, alw_iff, ← cube_iff hz ho]
    constructor
    · intro H q hq ha k hk hm
      rw [← W k q hq]
      exact (evL_bit L T z o hq 4).mp (H q hq ha) k hk hm
    · intro H q hq ha
      rw [evL_bit L T z o hq 4]
      intro k hk hm
      rw [W k q hq]
      exact H q hq ha k hk hm
  have h2 : bL (soS o (soL L T z o 4) 6) ((z &&& (255 ^^^ o)) % 64) = false ↔ alw (fun s => !winL L T s) z o = true := by
    rw [soS_bit o _ 6 (by omega) _ l2 pl_bit, alw_iff, ← cube_iff hz ho (P := fun s => (!winL L T s) = true)]
    constructor
    · intro H q hq ha k hk hm
      rw [← W k q hq, (soL_bit L T z o hq 4).mp (H q hq ha) k hk hm]
      rfl
    · intro H q hq ha
      rw [soL_bit L T z o hq 4]
      intro k hk hm
      have := H q hq ha k hk hm
      rw [← W k q hq] at this
      simpa using this
  unfold sureI
  simp only [h1, h2]
/-! the model -/
theorem cub_s {s o : Nat} (hs : s < 256) : (s &&& (255 ^^^ o)) ||| (s &&& o) = s := by
  apply Nat.eq_of_testBit_eq
  intro i
  rw [Nat.testBit_or, Nat.testBit_and, Nat.testBit_and, tbn]
  by_cases h8 : i < 8
  · simp only [h8, decide_true]; cases s.testBit i <;> cases o.testBit i <;> rfl
  · rw [tb_hi hs (by omega)]; rfl
theorem cub_b {z o t : Nat} (ho : o < 256) (ht : t &&& o = t) : ((z &&& (255 ^^^ o)) ||| t) &&& (255 ^^^ o) = z &&& (255 ^^^ o) := by
  apply Nat.eq_of_testBit_eq
  intro i
  have := congrArg (fun v => v.testBit i) ht
  simp only [Nat.testBit_and] at this
  rw [Nat.testBit_and, Nat.testBit_or, Nat.testBit_and, tbn]
  by_cases h8 : i < 8
  · simp only [h8, decide_true]
    revert this
    cases t.testBit i <;> cases o.testBit i <;> cases z.testBit i <;> decide
  · have := tb_hi ho (i := i) (by omega)
    simp [h8, this]
def wb (win : Nat → Bool) (s : Nat) : Int32 := if win s = true then 0 else 1
theorem wb_eq {win : Nat → Bool} {s t : Nat} : (wb win s = wb win t) = (win s = win t) := by
  unfold wb
  cases win s <;> cases win t <;> decide
theorem c234 (hR : LYR R) (hw : ∀ s, s < 256 → I 287 s = wb win s) (hz : z < 256) (ho : o < 256) : cf d 234 [.ref 265, .int (Int32.ofNat z), .int (Int32.ofNat o)] (SH n, I, L, R, nc, ns, nx) = some (.inl (some (.int (sureI win z o))), (SH n, I, L, R, nc, ns, nx)) := by
  have e1 := of_andn z hz o ho
  have y8 : z &&& (255 ^^^ o) < 256 := Nat.lt_of_le_of_lt Nat.and_le_left hz
  have ly : z &&& (255 ^^^ o) < 2147483648 := by omega
  simp only [en234, e234_0, e234_1, e234_4, e234_5, e234_6, e234_7, e234_8, e234_9, e234_10, e234_11, e234_12, e234_16, e234_19, e234_20, e234_23, e234_24, e234_25, e234_26, e234_27, e234_28, e234_30, e234_31, e234_32, e234_33, e234_36, e234_37, e234_38, e234_40, e234_41, e234_42, e234_43, e234_44, e234_46, e234_49, e234_50, rk_n, rk_v, nl_n, nl_i, nl_r, cat_n, ip_cat_int, ip_cat_ref, ip_cat_long, ip_rf_some, Nat.reduceAdd, Nat.reduceLeDiff, Nat.reduceLT, Nat.le_refl, Nat.zero_le, hR, ia_lit, e1, nu_i, nu_tn, ly, y8, hw _ y8]
  refine Exists.elim (sub_down ho (fun s (b : Bool) => if b = true then some (.inl (some (.int (-1))), (SH n, I, L, R, nc, ns, nx)) else rf d 234 14 [some (.ref 265), some (.int (Int32.ofNat z)), some (.int (Int32.ofNat o)), some (.int (wb win (z &&& (255 ^^^ o)))), some (.int (Int32.ofNat s))] [] (SH n, I, L, R, nc, ns, nx)) (fun s b => b = true ↔ ∃ t, s < t ∧ t < 256 ∧ t &&& o = t ∧ ¬ win ((z &&& (255 ^^^ o)) ||| t) = win (z &&& (255 ^^^ o))) ?_ ?_ false ?_) ?_
  · intro s b s0 s8 hs hb
    have ls : s < 2147483648 := by omega
    have a2 : Int32.ofNat s - 1 = Int32.ofNat (s - 1) := (Int32.ofNat_sub s 1 (by omega)).symm
    have q8 : (z &&& (255 ^^^ o)) ||| s < 256 := Nat.or_lt_two_pow (n := 8) y8 s8
    have lq : (z &&& (255 ^^^ o)) ||| s < 2147483648 := by omega
    have g0 : ((Int32.ofNat s : Int32) ≤ 0) = False := eq_false (fun e => by
      have := (nu_le (t := s) (s := 0) ls (by omega)).mp e
      omega)
    by_cases g : win ((z &&& (255 ^^^ o)) ||| s) = win (z &&& (255 ^^^ o))
    · refine ⟨b, ?_, ?_⟩
      · rw [hb]
        constructor
        · rintro ⟨t, t1, t2⟩; exact ⟨t, by omega, t2⟩
        · rintro ⟨t, t1, t2, t3, t4⟩
          by_cases e : t = s
          · subst e; exact absurd g t4
          · exact ⟨t, by omega, t2, t3, t4⟩
      · cases b with
        | true => rfl
        | false =>
          try dsimp only
          rw [if_neg (by decide), if_neg (by decide), e234_14]
          simp only [e234_0, e234_1, e234_4, e234_5, e234_6, e234_7, e234_8, e234_9, e234_10, e234_11, e234_12, e234_16, e234_19, e234_20, e234_23, e234_24, e234_25, e234_26, e234_27, e234_28, e234_30, e234_31, e234_32, e234_33, e234_36, e234_37, e234_38, e234_40, e234_41, e234_42, e234_43, e234_44, e234_46, e234_49, e234_50, rk_n, rk_v, nl_n, nl_i, nl_r, cat_n, ip_cat_int, ip_cat_ref, ip_cat_long, ip_rf_some, Nat.reduceAdd, Nat.reduceLeDiff, Nat.reduceLT, Nat.le_refl, Nat.zero_le, hR, ia_lit, e1, of_or, of_and, nu_i, nu_tn, lq, q8, hw _ q8, wb_eq, g, g0, a2, Bool.false_eq_true, Bool.true_eq_false, if_true, if_false, not_true_eq_false, not_false_eq_true, zle, eq_self]
    · refine ⟨true, ?_, ?_⟩
      · simp only [true_iff]
        exact ⟨s, by omega, s8, hs, g⟩
      · cases b with
        | true => rfl
        | false =>
          try dsimp only
          rw [if_neg (by decide), if_pos rfl, e234_14]
          simp only [e234_0, e234_1, e234_4, e234_5, e234_6, e234_7, e234_8, e234_9, e234_10, e234_11, e234_12, e234_16, e234_19, e234_20, e234_23, e234_24, e234_25, e234_26, e234_27, e234_28, e234_30, e234_31, e234_32, e234_33, e234_36, e234_37, e234_38, e234_40, e234_41, e234_42, e234_43, e234_44, e234_46, e234_49, e234_50, rk_n, rk_v, nl_n, nl_i, nl_r, cat_n, ip_cat_int, ip_cat_ref, ip_cat_long, ip_rf_some, Nat.reduceAdd, Nat.reduceLeDiff, Nat.reduceLT, Nat.le_refl, Nat.zero_le, hR, ia_lit, e1, of_or, of_and, nu_i, nu_tn, lq, q8, hw _ q8, wb_eq, g, g0, Bool.false_eq_true, Bool.true_eq_false, if_true, if_false, not_true_eq_false, not_false_eq_true, zle, eq_self]
  · intro s b s0 s8 hs hb
    try dsimp only at hb ⊢
    rw [hb]
    constructor
    · rintro ⟨t, t1, t2⟩; exact ⟨t, by omega, t2⟩
    · rintro ⟨t, t1, t2, t3, t4⟩
      by_cases e : t = s
      · subst e; exact absurd t3 hs
      · exact ⟨t, by omega, t2, t3, t4⟩
  · constructor
    · intro e; cases e
    · rintro ⟨t, t1, t2, _⟩; omega
  · rintro y ⟨h1, h2⟩
    try dsimp only at h2
    rw [if_neg (by decide)] at h2
    rw [h2]
    have cub : ∀ s, s < 256 → s &&& (255 ^^^ o) = z &&& (255 ^^^ o) → s = (z &&& (255 ^^^ o)) ||| (s &&& o) := by
      intro s hs e
      rw [← e, cub_s hs]
    cases y with
    | true =>
      rw [if_pos rfl]
      obtain ⟨t, t1, t2, t3, t4⟩ := h1.mp rfl
      have q1 := cub_b (z := z) ho t3
      have q8 : (z &&& (255 ^^^ o)) ||| t < 256 := Nat.or_lt_two_pow (n := 8) y8 t2
      have qq : (z &&& (255 ^^^ o)) &&& (255 ^^^ o) = z &&& (255 ^^^ o) := by rw [Nat.and_assoc, Nat.and_self]
      have n1 : ¬ alw win z o = true := by
        rw [alw_iff]
        intro H
        exact t4 ((H _ q8 q1).trans (H _ y8 qq).symm)
      have n2 : ¬ alw (fun s => !win s) z o = true := by
        rw [alw_iff]
        intro H
        have a1 := H _ q8 q1
        have a2 := H _ y8 qq
        try dsimp only at a1 a2
        rw [Bool.not_eq_true'] at a1 a2
        exact t4 (a1.trans a2.symm)
      unfold sureI
      rw [if_neg n1, if_neg n2]
    | false =>
      rw [if_neg (by decide), e234_14]
      have z0 : (Int32.ofNat 0 : Int32) ≤ 0 := by decide
      simp only [e234_0, e234_1, e234_4, e234_5, e234_6, e234_7, e234_8, e234_9, e234_10, e234_11, e234_12, e234_16, e234_19, e234_20, e234_23, e234_24, e234_25, e234_26, e234_27, e234_28, e234_30, e234_31, e234_32, e234_33, e234_36, e234_37, e234_38, e234_40, e234_41, e234_42, e234_43, e234_44, e234_46, e234_49, e234_50, rk_n, rk_v, nl_n, nl_i, nl_r, cat_n, ip_cat_int, ip_cat_ref, ip_cat_long, ip_rf_some, Nat.reduceAdd, Nat.reduceLeDiff, Nat.reduceLT, Nat.le_refl, Nat.zero_le, z0, if_true]
      have same : ∀ s, s < 256 → s &&& (255 ^^^ o) = z &&& (255 ^^^ o) → win s = win (z &&& (255 ^^^ o)) := by
        intro s hs e
        by_cases g : s &&& o = 0
        · have := cub s hs e
          rw [g, Nat.or_zero] at this
          rw [← this]
        · have hh : ¬ ∃ t, 0 < t ∧ t < 256 ∧ t &&& o = t ∧ ¬ win ((z &&& (255 ^^^ o)) ||| t) = win (z &&& (255 ^^^ o)) := fun H => by cases h1.mpr H
          rw [cub s hs e]
          apply Classical.byContradiction
          intro hn
          exact hh ⟨s &&& o, by omega, Nat.lt_of_le_of_lt Nat.and_le_left hs, by rw [Nat.and_assoc, Nat.and_self], hn⟩
      unfold sureI wb
      by_cases g : win (z &&& (255 ^^^ o)) = true
      · have a1 : alw win z o = true := alw_iff.mpr (fun s hs e => (same s hs e).trans g)
        rw [if_pos g, if_pos a1]
      · have a1 : ¬ alw win z o = true := by
          rw [alw_iff]
          intro H
          exact g (H _ y8 (by rw [Nat.and_assoc, Nat.and_self]))
        have a2 : alw (fun s => !win s) z o = true := by
          rw [alw_iff]
          intro s hs e
          try dsimp only
          rw [same s hs e, Bool.eq_false_iff.mpr g]
          rfl
        rw [if_neg g, if_neg a1, if_pos a2]
end SV
