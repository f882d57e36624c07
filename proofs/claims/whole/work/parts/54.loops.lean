/-! LOOPS: generic rules; walks over the subsets of a set -/
theorem for_from {β : Type} {c : Nat} (st : Nat → β) (hs : ∀ k, k < c → st k = st (k + 1)) : ∀ q i, i + q = c → st i = st c := by
  intro q
  induction q with
  | zero => intro i h; rw [show i = c by omega]
  | succ q ih => intro i h; rw [hs i (by omega), ih (i + 1) (by omega)]
theorem for_eq {β : Type} {c : Nat} (st : Nat → β) (hs : ∀ k, k < c → st k = st (k + 1)) : st 0 = st c := for_from st hs c 0 (by omega)
theorem for_ex {α β : Type} {c : Nat} (st : Nat → α → β) (Inv : Nat → α → Prop) (hs : ∀ k x, k < c → Inv k x → ∃ y, Inv (k + 1) y ∧ st k x = st (k + 1) y) : ∀ x, Inv 0 x → ∃ y, Inv c y ∧ st 0 x = st c y := by
  have H : ∀ q i x, i + q = c → Inv i x → ∃ y, Inv c y ∧ st i x = st c y := by
    intro q
    induction q with
    | zero => intro i x h hx; rw [show i = c by omega] at *; exact ⟨x, hx, rfl⟩
    | succ q ih =>
      intro i x h hx
      obtain ⟨y, h1, h2⟩ := hs i x (by omega) hx
      obtain ⟨z, h3, h4⟩ := ih (i + 1) y (by omega) h1
      exact ⟨z, h3, h2.trans h4⟩
  exact fun x hx => H c 0 x (by omega) hx
/-- the first of q from k on -/
def ffs (P : Nat → Bool) : Nat → Nat → Option Nat
  | 0, _ => none
  | q + 1, k => if P k = true then some k else ffs P q (k + 1)
theorem for_find {β : Type} {c : Nat} (st : Nat → β) (P : Nat → Bool) (r : Nat → β) (e : β) (h1 : ∀ k, k < c → P k = true → st k = r k) (h2 : ∀ k, k < c → P k = false → st k = st (k + 1)) (h3 : st c = e) : st 0 = (match ffs P c 0 with | some k => r k | none => e) := by
  have H : ∀ q i, i + q = c → st i = (match ffs P q i with | some k => r k | none => e) := by
    intro q
    induction q with
    | zero => intro i h; rw [show i = c by omega, h3]; rfl
    | succ q ih =>
      intro i h
      rw [ffs]
      by_cases g : P i = true
      · rw [if_pos g, h1 i (by omega) g]
      · rw [if_neg g, h2 i (by omega) (Bool.eq_false_iff.mpr g), ih (i + 1) (by omega)]
  exact H c 0 (by omega)
/-- the next subset, as numbers -/
def nxs (o s : Nat) : Nat := (s + 256 - o) &&& o
def isS (o s : Nat) : Bool := s &&& o == s
def wkU (o : Nat) : Nat → Nat → List Nat
  | 0, _ => []
  | q + 1, s => s :: wkU o q (nxs o s)
def wkD (o : Nat) : Nat → Nat → List Nat
  | 0, _ => []
  | q + 1, s => s :: wkD o q ((s - 1) &&& o)
theorem wkU_ok : ∀ o, o < 256 → wkU o (2 ^ pop o) 0 = (List.range' 0 256).filter (isS o) := by decide +kernel
theorem wkD_ok : ∀ o, o < 256 → (wkD o (2 ^ pop o - 1) o).reverse = (List.range' 1 255).filter (isS o) ∧ (Nat.repeat (fun s => (s - 1) &&& o) (2 ^ pop o - 1) o = 0) := by decide +kernel
theorem nxs_ok : ∀ o, o < 256 → ∀ s, s < 256 → (Int32.ofNat s - Int32.ofNat o) &&& Int32.ofNat o = Int32.ofNat (nxs o s) := by decide +kernel
theorem nxs_lt {o : Nat} (ho : o < 256) (s : Nat) : nxs o s < 256 := Nat.lt_of_le_of_lt Nat.and_le_right ho
theorem isS_iff {o s : Nat} : isS o s = true ↔ s &&& o = s := by unfold isS; exact beq_iff_eq
theorem sub_walk {α β : Type} {o : Nat} (ho : o < 256) (st : Nat → Nat → α → β) (Inv : Nat → α → Prop)
    (hs : ∀ k s x, k < 2 ^ pop o → s < 256 → s &&& o = s → Inv s x → ∃ y, Inv (s + 1) y ∧ st k s x = st (k + 1) (nxs o s) y)
    (hk : ∀ s x, s < 256 → ¬ s &&& o = s → Inv s x → Inv (s + 1) x) (x : α) (h0 : Inv 0 x) : ∃ s y, Inv 256 y ∧ st 0 0 x = st (2 ^ pop o) s y := by
  have H : ∀ m a q k s x, a + m = 256 → wkU o q s = (List.range' a m).filter (isS o) → Inv a x → k + q = 2 ^ pop o → ∃ s' y, Inv 256 y ∧ st k s x = st (2 ^ pop o) s' y := by
    intro m
    induction m with
    | zero =>
      intro a q k s x h1 h2 h3 h4
      have ea : a = 256 := by omega
      subst ea
      cases q with
      | zero => exact ⟨s, x, h3, by rw [show k = 2 ^ pop o by omega]⟩
      | succ q => exact absurd h2 (by simp [wkU])
    | succ m ih =>
      intro a q k s x h1 h2 h3 h4
      rw [List.range'_succ, List.filter_cons] at h2
      by_cases g : isS o a = true
      · rw [if_pos g] at h2
        cases q with
        | zero => exact absurd h2 (by simp [wkU])
        | succ q =>
          rw [wkU, List.cons.injEq] at h2
          obtain ⟨e1, e2⟩ := h2
          subst e1
          obtain ⟨y, h5, h6⟩ := hs k s x (by omega) (by omega) (isS_iff.mp g) h3
          obtain ⟨s', z, h7, h8⟩ := ih (s + 1) q (k + 1) (nxs o s) y (by omega) e2 h5 (by omega)
          exact ⟨s', z, h7, h6.trans h8⟩
      · rw [if_neg g] at h2
        exact ih (a + 1) q k s x (by omega) h2 (hk a x (by omega) (fun e => g (isS_iff.mpr e)) h3) h4
  exact H 256 0 (2 ^ pop o) 0 0 x (by omega) (wkU_ok o ho) h0 (by omega)
/-- downwards, without the empty set: Inv s: all above s are done -/
theorem sub_down {α β : Type} {o : Nat} (ho : o < 256) (st : Nat → α → β) (Inv : Nat → α → Prop)
    (hs : ∀ s x, 0 < s → s < 256 → s &&& o = s → Inv s x → ∃ y, Inv (s - 1) y ∧ st s x = st ((s - 1) &&& o) y)
    (hk : ∀ s x, 0 < s → s < 256 → ¬ s &&& o = s → Inv s x → Inv (s - 1) x) (x : α) (h0 : Inv 255 x) : ∃ y, Inv 0 y ∧ st o x = st 0 y := by
  obtain ⟨e1, e2⟩ := wkD_ok o ho
  have H : ∀ m q s x, wkD o q s = ((List.range' 1 m).filter (isS o)).reverse → m < 256 → Inv m x → Nat.repeat (fun s => (s - 1) &&& o) q s = 0 → ∃ y, Inv 0 y ∧ st s x = st 0 y := by
    intro m
    induction m with
    | zero =>
      intro q s x h1 h2 h3 h4
      cases q with
      | zero =>
        have e : s = 0 := h4
        subst e
        exact ⟨x, h3, rfl⟩
      | succ q => exact absurd h1 (by simp [wkD])
    | succ m ih =>
      intro q s x h1 h2 h3 h4
      have r1 : List.range' 1 (m + 1) = List.range' 1 m ++ [m + 1] := by
        rw [List.range'_concat]
        simp [Nat.add_comm]
      rw [r1, List.filter_append, List.reverse_append] at h1
      by_cases g : isS o (m + 1) = true
      · have r2 : (List.filter (isS o) [m + 1]).reverse = [m + 1] := by simp [List.filter_cons, g]
        rw [r2] at h1
        cases q with
        | zero => exact absurd h1 (by simp [wkD])
        | succ q =>
          rw [wkD, List.cons_append, List.nil_append, List.cons.injEq] at h1
          obtain ⟨e3, e4⟩ := h1
          subst e3
          obtain ⟨y, h5, h6⟩ := hs (m + 1) x (by omega) h2 (isS_iff.mp g) h3
          have h7 : Nat.repeat (fun s => (s - 1) &&& o) q ((m + 1 - 1) &&& o) = 0 := by
            have : ∀ (q s : Nat), Nat.repeat (fun s => (s - 1) &&& o) (q + 1) s = Nat.repeat (fun s => (s - 1) &&& o) q ((s - 1) &&& o) := by
              intro q
              induction q with
              | zero => intro s; rfl
              | succ q ih2 => intro s; show (Nat.repeat (fun s => (s - 1) &&& o) (q + 1) s - 1) &&& o = _; rw [ih2]; rfl
            rw [← this]; exact h4
          obtain ⟨z, h8, h9⟩ := ih q _ y e4 (by omega) (by simpa using h5) h7
          exact ⟨z, h8, h6.trans h9⟩
      · have r2 : (List.filter (isS o) [m + 1]).reverse = [] := by simp [List.filter_cons, g]
        rw [r2, List.nil_append] at h1
        exact ih q s x h1 (by omega) (by simpa using hk (m + 1) x (by omega) h2 (fun e => g (isS_iff.mpr e)) h3) h4
  refine H 255 (2 ^ pop o - 1) o x ?_ (by omega) h0 e2
  rw [← e1, List.reverse_reverse]
