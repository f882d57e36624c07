/-! READ: kinds of tokens -/
section KD
variable {B : Nat → Int32} {t p : Nat} {a b : List Nat}
theorem isW_len (h : isW B t a p = true) : rnn lxL B t p - p = a.length := by
  unfold isW at h
  rw [Bool.and_eq_true, decide_eq_true_iff] at h
  exact h.1
theorem isW_inj (ha : ∀ x, x ∈ a → x < 1000) (hb : ∀ x, x ∈ b → x < 1000) (h : isW B t a p = true) (g : isW B t b p = true) : a = b := by
  have l1 := isW_len h
  have l2 := isW_len g
  unfold isW at h g
  rw [Bool.and_eq_true] at h g
  have h2 := (mtc_at a p).mp h.2
  have g2 := (mtc_at b p).mp g.2
  refine List.ext_getElem (by omega) (fun i i1 i2 => ?_)
  have e := (h2 i i1).symm.trans (g2 i i2)
  rw [getD_in i1, getD_in i2] at e
  have x1 := ha _ (List.getElem_mem i1)
  have x2 := hb _ (List.getElem_mem i2)
  exact (nu_inj (by omega) (by omega)).mp e
theorem wkF_hit : ∀ (l : List (List Nat)) (j i : Nat), i < l.length → isW B t (l.getD i []) p = true → (∀ k, k < i → isW B t (l.getD k []) p = false) → wkF B t p l j = j + i := by
  intro l
  induction l with
  | nil => intro j i h; exact absurd h (by simp)
  | cons w r ih =>
    intro j i h1 h2 h3
    rw [wkF]
    cases i with
    | zero =>
      rw [List.getD_cons_zero] at h2
      rw [if_pos h2]; rfl
    | succ i =>
      have := h3 0 (by omega)
      rw [List.getD_cons_zero] at this
      rw [this, if_neg (by decide), ih (j + 1) i (by simpa using h1) (by rw [List.getD_cons_succ] at h2; exact h2) (fun k hk => by have := h3 (k + 1) (by omega); rw [List.getD_cons_succ] at this; exact this)]
      omega
theorem wkF_no : ∀ (l : List (List Nat)) (j : Nat), (∀ k, k < l.length → isW B t (l.getD k []) p = false) → wkF B t p l j = if rnn lxL B t p - p ≤ 6 then 13 else 16 := by
  intro l
  induction l with
  | nil => intro j _; rfl
  | cons w r ih =>
    intro j h
    have := h 0 (by simp)
    rw [List.getD_cons_zero] at this
    rw [wkF, this, if_neg (by decide), ih (j + 1) (fun k hk => by have := h (k + 1) (by simpa using hk); rw [List.getD_cons_succ] at this; exact this)]
theorem kwl_len : kwl.length = 13 := rfl
theorem kwl_ok : ∀ j, j < 13 → (∀ x, x ∈ kwl.getD j [] → x < 1000) ∧ 0 < (kwl.getD j []).length ∧ (kwl.getD j []).length ≤ 6 := by decide
theorem kwl_ne : ∀ j, j < 13 → ∀ i, i < 13 → ¬ i = j → ¬ kwl.getD i [] = kwl.getD j [] := by decide
theorem rnn_lt (h : 0 < rnn lxL B t p - p) : p < t ∧ lxL (B p) = true := by
  refine Classical.byContradiction (fun e => ?_)
  rw [rnn_no e] at h
  omega
theorem kw_case : (∃ j, j < 13 ∧ isW B t (kwl.getD j []) p = true ∧ wkF B t p kwl 0 = j) ∨ ((∀ j, j < 13 → isW B t (kwl.getD j []) p = false) ∧ wkF B t p kwl 0 = if rnn lxL B t p - p ≤ 6 then 13 else 16) := by
  by_cases h : ∃ j, j < 13 ∧ isW B t (kwl.getD j []) p = true
  · left
    obtain ⟨j, h1, h2⟩ := h
    refine ⟨j, h1, h2, ?_⟩
    have := wkF_hit kwl 0 j (by rw [kwl_len]; exact h1) h2 (fun k hk => by
      cases e : isW B t (kwl.getD k []) p with
      | false => rfl
      | true => exact absurd (isW_inj (kwl_ok k (by omega)).1 (kwl_ok j h1).1 e h2) (kwl_ne j h1 k (by omega) (by omega)))
    omega
  · right
    have g : ∀ j, j < 13 → isW B t (kwl.getD j []) p = false := fun j hj => by
      cases e : isW B t (kwl.getD j []) p with
      | false => rfl
      | true => exact absurd ⟨j, hj, e⟩ h
    exact ⟨g, wkF_no kwl 0 (fun k hk => g k (by rw [kwl_len] at hk; exact hk))⟩
theorem lxS_v {x : Int32} (h : lxS x = true) : sN x = 59 ∨ sN x = 44 ∨ sN x = 40 ∨ sN x = 41 := by
  rcases of_decide_eq_true h with rfl | rfl | rfl | rfl
  · left; rfl
  · right; left; rfl
  · right; right; left; rfl
  · right; right; right; rfl
/-- all kinds, one by one -/
theorem kd_all (p : Nat) : (¬ p < t ∧ kdT B t p = 15) ∨ (p < t ∧ lxL (B p) = true ∧ 0 < rnn lxL B t p - p ∧ enT B t p = rnn lxL B t p ∧ kdT B t p = wkF B t p kwl 0) ∨ (p < t ∧ lxL (B p) = false ∧ lxD (B p) = true ∧ enT B t p = rnn lxD B t p ∧ kdT B t p = if rnn lxD B t p = p + 1 then 14 else 16) ∨ (p < t ∧ lxL (B p) = false ∧ lxD (B p) = false ∧ lxS (B p) = true ∧ enT B t p = p + 1 ∧ kdT B t p = sN (B p)) ∨ (p < t ∧ lxL (B p) = false ∧ lxD (B p) = false ∧ lxS (B p) = false ∧ kdT B t p = 16) := by
  unfold kdT enT
  by_cases h : p < t
  · right
    simp only [if_pos h]
    cases h1 : lxL (B p) with
    | true =>
      left
      have := rnn_le (P := lxL) (B := B) (t := t) _ (p + 1) (Nat.le_refl _) (by omega)
      have e := rnn_st (P := lxL) h h1
      exact ⟨h, rfl, by omega, if_pos rfl, if_pos rfl⟩
    | false =>
      right
      cases h2 : lxD (B p) with
      | true => left; exact ⟨h, rfl, rfl, by simp, by simp⟩
      | false =>
        right
        cases h3 : lxS (B p) with
        | true => left; exact ⟨h, rfl, rfl, rfl, by simp, by simp⟩
        | false => right; exact ⟨h, rfl, rfl, rfl, by simp⟩
  · left; simp only [if_neg h]; exact ⟨h, trivial⟩
theorem wkF_le : wkF B t p kwl 0 ≤ 13 ∨ wkF B t p kwl 0 = 16 := by
  rcases kw_case (B := B) (t := t) (p := p) with ⟨j, h1, h2, h3⟩ | ⟨h1, h2⟩
  · left; omega
  · rw [h2]; split
    · left; omega
    · right; rfl
theorem kd_lt : kdT B t p < 60 := by
  rcases kd_all (B := B) (t := t) p with ⟨-, h⟩ | ⟨-, -, -, -, h⟩ | ⟨-, -, -, -, h⟩ | ⟨-, -, -, hs, -, h⟩ | ⟨-, -, -, -, h⟩
  · omega
  · have := wkF_le (B := B) (t := t) (p := p); omega
  · rw [h]; split <;> omega
  · have := lxS_v hs; omega
  · omega
/-- a keyword -/
theorem kd_kw {j : Nat} (hj : j < 13) : isW B t (kwl.getD j []) p = true ↔ kdT B t p = j := by
  constructor
  · intro h
    have l1 := isW_len h
    have l2 := (kwl_ok j hj).2.1
    obtain ⟨g1, g2⟩ := rnn_lt (B := B) (t := t) (p := p) (by omega)
    rcases kd_all (B := B) (t := t) p with ⟨a, -⟩ | ⟨-, -, -, -, a⟩ | ⟨-, a, -⟩ | ⟨-, a, -⟩ | ⟨-, a, -⟩
    · exact absurd g1 a
    · rw [a]
      rcases kw_case (B := B) (t := t) (p := p) with ⟨i, h1, h2, h3⟩ | ⟨h1, h2⟩
      · have e := isW_inj (kwl_ok i h1).1 (kwl_ok j hj).1 h2 h
        rw [h3]
        exact Classical.byContradiction (fun q => kwl_ne j hj i h1 q e)
      · rw [h1 j hj] at h; cases h
    · rw [g2] at a; cases a
    · rw [g2] at a; cases a
    · rw [g2] at a; cases a
  · intro h
    rcases kd_all (B := B) (t := t) p with ⟨-, a⟩ | ⟨-, -, -, -, a⟩ | ⟨-, -, -, -, a⟩ | ⟨-, -, -, hs, -, a⟩ | ⟨-, -, -, -, a⟩
    · omega
    · rcases kw_case (B := B) (t := t) (p := p) with ⟨i, h1, h2, h3⟩ | ⟨h1, h2⟩
      · have : i = j := by omega
        subst this; exact h2
      · rw [h2] at a; split at a <;> omega
    · split at a <;> omega
    · have := lxS_v hs; omega
    · omega
theorem kd_kwb {j : Nat} (hj : j < 13) : isW B t (kwl.getD j []) p = decide (kdT B t p = j) := by
  by_cases h : kdT B t p = j
  · rw [decide_eq_true h]; exact (kd_kw hj).mpr h
  · rw [decide_eq_false h]
    cases e : isW B t (kwl.getD j []) p with
    | false => rfl
    | true => exact absurd ((kd_kw hj).mp e) h
/-- where a keyword ends -/
theorem kd_en {j : Nat} (hj : j < 13) (h : kdT B t p = j) : enT B t p = p + (kwl.getD j []).length ∧ p < t ∧ enT B t p ≤ t := by
  have w := (kd_kw hj).mpr h
  have l1 := isW_len w
  have l2 := (kwl_ok j hj).2.1
  obtain ⟨g1, g2⟩ := rnn_lt (B := B) (t := t) (p := p) (by omega)
  have := enT_le (B := B) (t := t) (p := p) (by omega)
  rcases kd_all (B := B) (t := t) p with ⟨a, -⟩ | ⟨-, -, -, a, -⟩ | ⟨-, a, -⟩ | ⟨-, a, -⟩ | ⟨-, a, -⟩
  · exact absurd g1 a
  · omega
  · rw [g2] at a; cases a
  · rw [g2] at a; cases a
  · rw [g2] at a; cases a
/-- a name -/
def own (B : Nat → Int32) (t p : Nat) : Bool := decide (kdT B t p < 13)
theorem kd_nm : kdT B t p = 13 ↔ (0 < rnn lxL B t p - p ∧ rnn lxL B t p - p ≤ 6 ∧ own B t p = false) := by
  unfold own
  rw [decide_eq_false_iff_not]
  constructor
  · intro h
    rcases kd_all (B := B) (t := t) p with ⟨-, a⟩ | ⟨-, -, b, -, a⟩ | ⟨-, -, -, -, a⟩ | ⟨-, -, -, hs, -, a⟩ | ⟨-, -, -, -, a⟩
    · omega
    · rcases kw_case (B := B) (t := t) (p := p) with ⟨i, h1, h2, h3⟩ | ⟨h1, h2⟩
      · omega
      · rw [h2] at a
        refine ⟨b, ?_, by omega⟩
        split at a
        · assumption
        · omega
    · split at a <;> omega
    · have := lxS_v hs; omega
    · omega
  · rintro ⟨h1, h2, h3⟩
    obtain ⟨g1, g2⟩ := rnn_lt (B := B) (t := t) (p := p) h1
    rcases kd_all (B := B) (t := t) p with ⟨a, -⟩ | ⟨-, -, -, -, a⟩ | ⟨-, a, -⟩ | ⟨-, a, -⟩ | ⟨-, a, -⟩
    · exact absurd g1 a
    · rcases kw_case (B := B) (t := t) (p := p) with ⟨i, h1, h2, h3⟩ | ⟨h1', h2'⟩
      · omega
      · rw [a, h2', if_pos h2]
    · rw [g2] at a; cases a
    · rw [g2] at a; cases a
    · rw [g2] at a; cases a
theorem kd_ne (h : kdT B t p = 13) : enT B t p = rnn lxL B t p ∧ p < t := by
  have g := (kd_nm.mp h).1
  obtain ⟨g1, g2⟩ := rnn_lt (B := B) (t := t) (p := p) g
  rcases kd_all (B := B) (t := t) p with ⟨a, -⟩ | ⟨-, -, -, a, -⟩ | ⟨-, a, -⟩ | ⟨-, a, -⟩ | ⟨-, a, -⟩
  · exact absurd g1 a
  · exact ⟨a, g1⟩
  · rw [g2] at a; cases a
  · rw [g2] at a; cases a
  · rw [g2] at a; cases a
/-- a sign -/
theorem kd_sg {s : Nat} (hs : s = 59 ∨ s = 44 ∨ s = 40 ∨ s = 41) : kdT B t p = s ↔ hv B t p = Int32.ofNat s := by
  have hsl : lxS (Int32.ofNat s) = true ∧ sN (Int32.ofNat s) = s ∧ ¬ Int32.ofNat s = -1 := by rcases hs with rfl | rfl | rfl | rfl <;> decide
  constructor
  · intro h
    rcases kd_all (B := B) (t := t) p with ⟨-, a⟩ | ⟨-, -, -, -, a⟩ | ⟨-, -, -, -, a⟩ | ⟨pt, -, -, hs', -, a⟩ | ⟨-, -, -, -, a⟩
    · omega
    · have := wkF_le (B := B) (t := t) (p := p); omega
    · split at a <;> omega
    · unfold hv; rw [if_pos pt, (lxS_n hs').1]; congr 1; omega
    · omega
  · intro h
    have pt : p < t := by
      refine Classical.byContradiction (fun e => ?_)
      unfold hv at h; rw [if_neg e] at h
      exact hsl.2.2 h.symm
    unfold hv at h; rw [if_pos pt] at h
    have l := lxS_n (x := B p) (by rw [h]; exact hsl.1)
    rcases kd_all (B := B) (t := t) p with ⟨a, -⟩ | ⟨-, a, -⟩ | ⟨-, -, a, -⟩ | ⟨-, -, -, -, -, a⟩ | ⟨-, -, -, a, -⟩
    · exact absurd pt a
    · rw [l.2.1] at a; cases a
    · rw [l.2.2] at a; cases a
    · rw [a, h]; exact hsl.2.1
    · rw [h, hsl.1] at a; cases a
theorem kd_sn {s : Nat} (hs : s = 59 ∨ s = 44 ∨ s = 40 ∨ s = 41) (h : kdT B t p = s) : enT B t p = p + 1 ∧ p < t := by
  rcases kd_all (B := B) (t := t) p with ⟨-, a⟩ | ⟨-, -, -, -, a⟩ | ⟨-, -, -, -, a⟩ | ⟨pt, -, -, -, b, -⟩ | ⟨-, -, -, -, a⟩
  · omega
  · have := wkF_le (B := B) (t := t) (p := p); omega
  · split at a <;> omega
  · exact ⟨b, pt⟩
  · omega
/-- the end -/
theorem kd_end (hB : ∀ i, i < t → ¬ B i = -1) : kdT B t p = 15 ↔ hv B t p = -1 := by
  constructor
  · intro h
    rcases kd_all (B := B) (t := t) p with ⟨a, -⟩ | ⟨-, -, -, -, a⟩ | ⟨-, -, -, -, a⟩ | ⟨pt, -, -, hs', -, a⟩ | ⟨-, -, -, -, a⟩
    · unfold hv; rw [if_neg a]
    · have := wkF_le (B := B) (t := t) (p := p); omega
    · split at a <;> omega
    · have := lxS_v hs'; omega
    · omega
  · intro h
    have pt : ¬ p < t := fun e => by unfold hv at h; rw [if_pos e] at h; exact hB p e h
    unfold kdT; rw [if_neg pt]
/-- a number -/
def isD (B : Nat → Int32) (t k : Nat) : Bool := decide (k < t) && lxD (B k)
theorem lxLD {x : Int32} (h : lxD x = true) : lxL x = false := by
  obtain ⟨h1, h2⟩ := of_decide_eq_true h
  unfold lxL
  refine decide_eq_false (fun e => e.1 ?_)
  have a : x.toInt ≤ 57 := by
    have := h2
    rw [Int32.lt_iff_toInt_lt] at this
    have z : (57 : Int32).toInt = 57 := by decide
    omega
  rw [Int32.lt_iff_toInt_lt]
  have z : (97 : Int32).toInt = 97 := by decide
  omega
theorem kd_14 : kdT B t p = 14 ↔ (isD B t p = true ∧ isD B t (p + 1) = false) := by
  unfold isD
  rw [Bool.and_eq_true, decide_eq_true_iff]
  constructor
  · intro h
    rcases kd_all (B := B) (t := t) p with ⟨-, a⟩ | ⟨-, -, -, -, a⟩ | ⟨pt, -, d, -, a⟩ | ⟨pt, -, -, hs', -, a⟩ | ⟨-, -, -, -, a⟩
    · omega
    · have := wkF_le (B := B) (t := t) (p := p); omega
    · refine ⟨⟨pt, d⟩, ?_⟩
      split at a
      · rename_i e
        rw [rnn_st pt d] at e
        have q := rnn_end (P := lxD) (B := B) (t := t) _ (p + 1) (Nat.le_refl _)
        rw [e] at q
        rw [Bool.and_eq_false_iff, decide_eq_false_iff_not]
        by_cases z : p + 1 < t
        · right; cases y : lxD (B (p + 1)) with
          | false => rfl
          | true => exact absurd ⟨z, y⟩ q
        · exact Or.inl z
      · omega
    · have := lxS_v hs'; omega
    · omega
  · rintro ⟨⟨h1, h2⟩, h3⟩
    rw [Bool.and_eq_false_iff, decide_eq_false_iff_not] at h3
    have q : rnn lxD B t p = p + 1 := by
      rw [rnn_st h1 h2]
      refine rnn_no (fun e => ?_)
      rcases h3 with z | z
      · exact z e.1
      · rw [z] at e; cases e.2
    unfold kdT
    rw [if_pos h1, lxLD h2, if_neg (by decide), if_pos h2, if_pos q]
theorem kd_14e (h : kdT B t p = 14) : enT B t p = p + 1 ∧ p < t := by
  rcases kd_all (B := B) (t := t) p with ⟨-, a⟩ | ⟨-, -, -, -, a⟩ | ⟨pt, -, d, b, a⟩ | ⟨pt, -, -, hs', -, a⟩ | ⟨-, -, -, -, a⟩
  · omega
  · have := wkF_le (B := B) (t := t) (p := p); omega
  · split at a
    · rename_i e; exact ⟨by omega, pt⟩
    · omega
  · have := lxS_v hs'; omega
  · omega
theorem kd_dg (h : isD B t p = true) : kdT B t p = 14 ∨ kdT B t p = 16 := by
  unfold isD at h
  rw [Bool.and_eq_true, decide_eq_true_iff] at h
  unfold kdT
  rw [if_pos h.1, lxLD h.2, if_neg (by decide), if_pos h.2]
  split
  · left; rfl
  · right; rfl
theorem lxD_v {x : Int32} (h : lxD x = true) : ∃ v, v ≤ 9 ∧ x = Int32.ofNat (48 + v) ∧ x - 48 = Int32.ofNat v := by
  obtain ⟨h1, h2⟩ := of_decide_eq_true h
  have n0 : ¬ x < 0 := by
    intro e
    rw [Int32.lt_iff_toInt_lt] at h1 e
    have z : (48 : Int32).toInt = 48 := by decide
    have z0 : (0 : Int32).toInt = 0 := by decide
    omega
  obtain ⟨v, hv, rfl⟩ := nu_of n0
  have a1 : 48 ≤ v := Nat.le_of_not_lt (fun e => h1 ((nu_lt (s := 48) hv (by omega)).mpr e))
  have a2 : v ≤ 57 := Nat.le_of_not_lt (fun e => h2 ((nu_lt (t := 57) (by omega) hv).mpr e))
  refine ⟨v - 48, by omega, by congr 1; omega, ?_⟩
  have : Int32.ofNat v = Int32.ofNat (v - 48) + 48 := by rw [show v = (v - 48) + 48 by omega]; exact (nu_add (s := 48)).symm
  rw [this, Int32.add_sub_cancel]
end KD
