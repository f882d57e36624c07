/-! READ: the model's frames and codes -/
def bI (b : Bool) : Int32 := if b = true then 1 else 0
def CDS (CS : List CD) (J : Nat → Nat → Int32) : Prop := J 265 9 = Int32.ofNat CS.length ∧ ∀ i, i < CS.length → J 271 i = Int32.ofNat (CS.getD i (0, 0, 0)).1 ∧ J 272 i = Int32.ofNat (CS.getD i (0, 0, 0)).2.1 ∧ J 273 i = Int32.ofNat (CS.getD i (0, 0, 0)).2.2
def MS (B : Nat → Int32) (t c a nm : Nat) (CS : List CD) (top ν : Nat) (α ω : Bool) (dd : Nat) (J : Nat → Nat → Int32) : Prop :=
  RM B t a J ∧ a ≤ t ∧ J 265 5 = -1 ∧ J 265 6 = Int32.ofNat c ∧ (J 265 8 = Int32.ofNat nm ∧ nm ≤ 40) ∧ CDS CS J ∧ (J 265 33 = Int32.ofNat top ∧ top < 9) ∧ J 265 34 = Int32.ofNat dd ∧ J 284 top = Int32.ofNat ν ∧ J 285 top = bI α ∧ J 286 top = bI ω
def scK (a k : Nat) : Prop := (a = 265 ∧ (k = 4 ∨ k = 5 ∨ k = 8 ∨ k = 9 ∨ k = 33 ∨ k = 34)) ∨ (271 ≤ a ∧ a ≤ 273) ∨ (281 ≤ a ∧ a ≤ 286)
def lowF (top : Nat) (J J' : Nat → Nat → Int32) : Prop := (∀ j a, j < top → 281 ≤ a → a ≤ 286 → J' a j = J a j) ∧ ∀ a, 281 ≤ a → a ≤ 283 → J' a top = J a top
def SM (top : Nat) (J J' : Nat → Nat → Int32) : Prop := onlyP scK J J' ∧ lowF top J J'
section MO
variable {n d a b c k t p T nm top ν dd a' : Nat} {α ω : Bool} {B : Nat → Int32} {f : Nat → List Nat} {J K J' : Nat → Nat → Int32} {L L' : Nat → Nat → Int64} {R : Nat → Nat → Option Nat} {nc ns : Nat} {nx : Bool} {x y z : Int32} {CS : List CD} {q : CD}
theorem SM_r : SM top J J := ⟨onlyP_refl, fun _ _ _ _ _ => rfl, fun _ _ _ => rfl⟩
theorem SM_t {J1 J2 J3 : Nat → Nat → Int32} (a : SM top J1 J2) (b : SM top J2 J3) : SM top J1 J3 := ⟨onlyP_tr a.1 b.1, fun j q h1 h2 h3 => (b.2.1 j q h1 h2 h3).trans (a.2.1 j q h1 h2 h3), fun q h1 h2 => (b.2.2 q h1 h2).trans (a.2.2 q h1 h2)⟩
/-- what a frame above does, seen from below -/
theorem SM_d {J1 J2 : Nat → Nat → Int32} (a : SM (top + 1) J1 J2) : SM top J1 J2 := ⟨a.1, fun j q h1 h2 h3 => a.2.1 j q (by omega) h2 h3, fun q h1 h2 => a.2.1 top q (by omega) h1 (by omega)⟩
theorem SM_s {J1 : Nat → Nat → Int32} (h : ∀ a k, 281 ≤ a → a ≤ 286 → J1 a k = J a k) (g : onlyP scK J J1) : SM top J J1 := ⟨g, fun j a _ h2 h3 => h a j h2 h3, fun a h1 h2 => h a top h1 (by omega)⟩
/-- only the place in the text changes -/
theorem m_at (X : MS B t c a nm CS top ν α ω dd J) (ha : a' ≤ t) : MS B t c a' nm CS top ν α ω dd (atM J a') ∧ SM top J (atM J a') := by
  obtain ⟨x1, x2, x3, x4, x5, x6, x7, x8, x9, x10, x11⟩ := X
  refine ⟨⟨RM_at x1, ha, (up_k (by decide)).trans x3, (up_k (by decide)).trans x4, ⟨(up_k (by decide)).trans x5.1, x5.2⟩, ⟨(up_k (by decide)).trans x6.1, fun i hi => ?_⟩, ⟨(up_k (by decide)).trans x7.1, x7.2⟩, (up_k (by decide)).trans x8, (up_a (by decide)).trans x9, (up_a (by decide)).trans x10, (up_a (by decide)).trans x11⟩, SM_s (fun a k h1 h2 => up_a (by omega)) (onlyP_up onlyP_refl (Or.inl ⟨rfl, Or.inl rfl⟩))⟩
  unfold atM
  rw [up_a (by decide), up_a (by decide), up_a (by decide)]
  exact x6.2 i hi
theorem getD_snoc {i : Nat} (h : i < CS.length) : (CS ++ [q]).getD i (0, 0, 0) = CS.getD i (0, 0, 0) := by simp [List.getD, List.getElem?_append_left h]
theorem getD_snoe : (CS ++ [q]).getD CS.length (0, 0, 0) = q := by simp
/-- puts -/
theorem m_put (hR : LYR R) (X : MS B t c a nm CS top ν α ω dd J) (hl : CS.length < 420) (q : CD) : ∃ J', (∀ d, cf d 210 [.ref 265, .int (Int32.ofNat q.1), .int (Int32.ofNat q.2.1), .int (Int32.ofNat q.2.2)] (SH n, J, L, R, nc, ns, nx) = some (.inl none, (SH n, J', L, R, nc, ns, nx))) ∧ MS B t c a nm (CS ++ [q]) top ν α ω dd J' ∧ SM top J J' := by
  obtain ⟨x1, x2, x3, x4, x5, x6, x7, x8, x9, x10, x11⟩ := X
  have l1 : CS.length < 2147483648 := by omega
  have e1 : Int32.ofNat CS.length + 1 = Int32.ofNat (CS.length + 1) := nu_add (s := 1)
  have GJ : ∃ J1, J1 = ip_up (ip_up (ip_up (ip_up J 271 CS.length (Int32.ofNat q.1)) 272 CS.length (Int32.ofNat q.2.1)) 273 CS.length (Int32.ofNat q.2.2)) 265 9 (Int32.ofNat (CS.length + 1)) := ⟨_, rfl⟩
  obtain ⟨J1, hJ1⟩ := GJ
  have O : onlyP (fun a k => (271 ≤ a ∧ a ≤ 273) ∨ (a = 265 ∧ k = 9)) J J1 := by rw [hJ1]; exact onlyP_up (onlyP_up (onlyP_up (onlyP_up onlyP_refl (by omega)) (by omega)) (by omega)) (by omega)
  refine ⟨J1, fun d => ?_, ⟨⟨?_, ?_, fun i hi => ?_⟩, x2, ?_, ?_, ⟨?_, x5.2⟩, ⟨?_, fun i hi => ?_⟩, ⟨?_, x7.2⟩, ?_, ?_, ?_, ?_⟩, SM_s (fun a k h1 h2 => O a k (by omega)) (onlyP_mono O (fun a k e => by unfold scK; omega))⟩
  · rw [hJ1]
    simp only [en210, e210_0, e210_1, e210_4, e210_5, e210_8, e210_9, e210_10, e210_11, e210_14, e210_15, e210_18, e210_19, e210_20, e210_21, e210_24, e210_25, e210_28, e210_29, e210_30, e210_31, e210_31r, e210_32, e210_35, e210_36, e210_37, e210_40, rk_n, rk_v, nl_n, nl_i, nl_r, cat_n, ip_cat_int, ip_cat_ref, ip_cat_long, ip_rf_some, Nat.reduceAdd, Nat.reduceLeDiff, Nat.reduceLT, Nat.le_refl, Nat.zero_le, hR, x6.1, ia_lit, nu_i, nu_tn, l1, hl, e1, up_a, Nat.reduceEqDiff, Bool.false_eq_true, Bool.true_eq_false, if_true, if_false, not_true_eq_false, not_false_eq_true, zle, eq_self]
  · rw [O 265 3 (by omega)]; exact x1.1
  · rw [O 265 4 (by omega)]; exact x1.2.1
  · rw [O 266 i (by omega)]; exact x1.2.2 i hi
  · rw [O 265 5 (by omega)]; exact x3
  · rw [O 265 6 (by omega)]; exact x4
  · rw [O 265 8 (by omega)]; exact x5.1
  · rw [hJ1, up_eq, List.length_append]; rfl
  · rw [List.length_append] at hi
    have hi : i < CS.length + 1 := hi
    by_cases e : i = CS.length
    · subst e
      rw [getD_snoe]
      refine ⟨?_, ?_, ?_⟩
      · rw [hJ1, up_a (by decide), up_a (by decide), up_a (by decide), up_eq]
      · rw [hJ1, up_a (by decide), up_a (by decide), up_eq]
      · rw [hJ1, up_a (by decide), up_eq]
    · rw [getD_snoc (by omega)]
      obtain ⟨y1, y2, y3⟩ := x6.2 i (by omega)
      refine ⟨?_, ?_, ?_⟩
      · rw [hJ1, up_a (by decide), up_a (by decide), up_a (by decide), up_k e]; exact y1
      · rw [hJ1, up_a (by decide), up_a (by decide), up_k e, up_a (by decide)]; exact y2
      · rw [hJ1, up_a (by decide), up_k e, up_a (by decide), up_a (by decide)]; exact y3
  · rw [O 265 33 (by omega)]; exact x7.1
  · rw [O 265 34 (by omega)]; exact x8
  · rw [O 284 top (by omega)]; exact x9
  · rw [O 285 top (by omega)]; exact x10
  · rw [O 286 top (by omega)]; exact x11
/-- a change in the frame, or of the depth -/
theorem m_fr {J1 : Nat → Nat → Int32} {ν' dd' : Nat} {α' ω' : Bool} (X : MS B t c a nm CS top ν α ω dd J) (O : onlyP (fun a k => (284 ≤ a ∧ a ≤ 286 ∧ k = top) ∨ (a = 265 ∧ k = 34)) J J1) (h1 : J1 265 34 = Int32.ofNat dd') (h2 : J1 284 top = Int32.ofNat ν') (h3 : J1 285 top = bI α') (h4 : J1 286 top = bI ω') : MS B t c a nm CS top ν' α' ω' dd' J1 ∧ SM top J J1 := by
  obtain ⟨x1, x2, x3, x4, x5, x6, x7, x8, x9, x10, x11⟩ := X
  refine ⟨⟨⟨?_, ?_, fun i hi => ?_⟩, x2, ?_, ?_, ⟨?_, x5.2⟩, ⟨?_, fun i hi => ?_⟩, ⟨?_, x7.2⟩, h1, h2, h3, h4⟩, onlyP_mono O (fun a k e => by unfold scK; omega), fun j a q1 q2 q3 => O a j (by omega), fun a q1 q2 => O a top (by omega)⟩
  · rw [O 265 3 (by omega)]; exact x1.1
  · rw [O 265 4 (by omega)]; exact x1.2.1
  · rw [O 266 i (by omega)]; exact x1.2.2 i hi
  · rw [O 265 5 (by omega)]; exact x3
  · rw [O 265 6 (by omega)]; exact x4
  · rw [O 265 8 (by omega)]; exact x5.1
  · rw [O 265 9 (by omega)]; exact x6.1
  · rw [O 271 i (by omega), O 272 i (by omega), O 273 i (by omega)]; exact x6.2 i hi
  · rw [O 265 33 (by omega)]; exact x7.1
def ntl (ν : Nat) : List CD := List.replicate ν (1, 0, 0)
def anl (α : Bool) : List CD := if α = true then [(2, 0, 0)] else []
def orl (ω : Bool) : List CD := if ω = true then [(3, 0, 0)] else []
/-- isDone -/
theorem m_done (hR : LYR R) : ∀ ν dd CS J, MS B t c a nm CS top ν α ω dd J → CS.length + ν + 1 ≤ 419 → ν ≤ dd → dd ≤ 100 → ∃ J', (∀ d, rf (d + 1) 211 0 [some (.ref 265)] [] (SH n, J, L, R, nc, ns, nx) = some (.inl none, (SH n, J', L, R, nc, ns, nx))) ∧ MS B t c a nm (CS ++ (ntl ν ++ anl α)) top 0 false ω (dd - ν) J' ∧ SM top J J' := by
  intro ν
  induction ν with
  | zero =>
    intro dd CS J X hl hd h100
    have x7 := X.2.2.2.2.2.2.1
    have x9 := X.2.2.2.2.2.2.2.2.1
    have x10 := X.2.2.2.2.2.2.2.2.2.1
    have lt : top < 2147483648 := by omega
    have l10 : top < 10 := by omega
    have z0 : (Int32.ofNat 0 ≤ 0) = True := by decide
    have fin : ∀ CS J, MS B t c a nm CS top 0 α ω dd J → MS B t c a nm CS top 0 false ω dd (ip_up J 285 top 0) ∧ SM top J (ip_up J 285 top 0) := by
      intro CS J X
      exact m_fr X (onlyP_up onlyP_refl (Or.inl ⟨by omega, by omega, rfl⟩)) ((up_a (by decide)).trans X.2.2.2.2.2.2.2.1) ((up_a (by decide)).trans X.2.2.2.2.2.2.2.2.1) up_eq ((up_a (by decide)).trans X.2.2.2.2.2.2.2.2.2.2)
    cases α with
    | true =>
      obtain ⟨J1, A1, X1, S1⟩ := m_put (n := n) (L := L) (nc := nc) (ns := ns) (nx := nx) hR X (by omega) (2, 0, 0)
      obtain ⟨X2, S2⟩ := fin _ J1 X1
      refine ⟨_, fun d => ?_, X2, SM_t S1 S2⟩
      have a1 : ∀ d, cf d 210 [.ref 265, .int 2, .int 0, .int 0] (SH n, J, L, R, nc, ns, nx) = _ := A1
      have x7' := X1.2.2.2.2.2.2.1.1
      have b1 : bI true = 1 := rfl
      rw [e211_0]
      simp only [e211_1, e211_4, e211_5, e211_8, e211_9, e211_12, e211_13, e211_14, e211_15, e211_16, e211_19, e211_20, e211_23, e211_24, e211_27, e211_28, e211_29, e211_30, e211_31, e211_32, e211_33, e211_33r, e211_34, e211_37, e211_38, e211_39, e211_42, e211_45, e211_46, e211_49, e211_50, e211_53, e211_54, e211_57, e211_58, e211_59, e211_60, e211_61, e211_64, e211_65, e211_68, e211_69, e211_72, e211_73, e211_74, rk_n, rk_v, nl_n, nl_i, nl_r, cat_n, ip_cat_int, ip_cat_ref, ip_cat_long, ip_rf_some, Nat.reduceAdd, Nat.reduceLeDiff, Nat.reduceLT, Nat.le_refl, Nat.zero_le, hR, x7.1, x7', x9, x10, z0, b1, ia_lit, nu_i, nu_tn, lt, l10, a1, (by decide : ¬ (1 : Int32) = 0), true_or, or_true, Bool.false_eq_true, Bool.true_eq_false, if_true, if_false, not_true_eq_false, not_false_eq_true, zle, eq_self]
    | false =>
      obtain ⟨X2, S2⟩ := fin _ J X
      refine ⟨_, fun d => ?_, by simpa [ntl, anl] using X2, S2⟩
      have b1 : bI false = 0 := rfl
      rw [e211_0]
      simp only [e211_1, e211_4, e211_5, e211_8, e211_9, e211_12, e211_13, e211_14, e211_15, e211_16, e211_19, e211_20, e211_23, e211_24, e211_27, e211_28, e211_29, e211_30, e211_31, e211_32, e211_33, e211_33r, e211_34, e211_37, e211_38, e211_39, e211_42, e211_45, e211_46, e211_49, e211_50, e211_53, e211_54, e211_57, e211_58, e211_59, e211_60, e211_61, e211_64, e211_65, e211_68, e211_69, e211_72, e211_73, e211_74, rk_n, rk_v, nl_n, nl_i, nl_r, cat_n, ip_cat_int, ip_cat_ref, ip_cat_long, ip_rf_some, Nat.reduceAdd, Nat.reduceLeDiff, Nat.reduceLT, Nat.le_refl, Nat.zero_le, hR, x7.1, x9, x10, z0, b1, ia_lit, nu_i, nu_tn, lt, l10, true_or, or_true, Bool.false_eq_true, Bool.true_eq_false, if_true, if_false, not_true_eq_false, not_false_eq_true, zle, eq_self]
  | succ ν ih =>
    intro dd CS J X hl hd h100
    have x7 := X.2.2.2.2.2.2.1
    have x9 := X.2.2.2.2.2.2.2.2.1
    have lt : top < 2147483648 := by omega
    have l10 : top < 10 := by omega
    have g : (Int32.ofNat (ν + 1) ≤ 0) = False := eq_false (fun e => by have := (nu_le (s := 0) (by omega) (by omega)).mp e; omega)
    have e1 : Int32.ofNat (ν + 1) - 1 = Int32.ofNat ν := by
      rw [show Int32.ofNat (ν + 1) = Int32.ofNat ν + 1 from (nu_add (s := 1)).symm, Int32.add_sub_cancel]
    have e2 : Int32.ofNat dd - 1 = Int32.ofNat (dd - 1) := by
      rw [show Int32.ofNat dd = Int32.ofNat (dd - 1) + 1 by rw [show dd = dd - 1 + 1 by omega]; exact (nu_add (s := 1)).symm, Int32.add_sub_cancel]
    obtain ⟨J1, A1, X1, S1⟩ := m_put (n := n) (L := L) (nc := nc) (ns := ns) (nx := nx) hR X (by omega) (1, 0, 0)
    have a1 : ∀ d, cf d 210 [.ref 265, .int 1, .int 0, .int 0] (SH n, J, L, R, nc, ns, nx) = _ := A1
    obtain ⟨X2, S2⟩ := m_fr (ν' := ν) (dd' := dd - 1) (α' := α) (ω' := ω) (J1 := ip_up (ip_up J1 284 top (Int32.ofNat ν)) 265 34 (Int32.ofNat (dd - 1))) X1 (onlyP_up (onlyP_up onlyP_refl (Or.inl ⟨by omega, by omega, rfl⟩)) (Or.inr ⟨rfl, rfl⟩)) up_eq (by rw [up_a (by decide), up_eq]) (by rw [up_a (by decide), up_a (by decide)]; exact X1.2.2.2.2.2.2.2.2.2.1) (by rw [up_a (by decide), up_a (by decide)]; exact X1.2.2.2.2.2.2.2.2.2.2)
    obtain ⟨J3, A3, X3, S3⟩ := ih (dd - 1) _ _ X2 (by rw [List.length_append]; dsimp only [List.length]; omega) (by omega) (by omega)
    refine ⟨J3, fun d => ?_, ?_, SM_t S1 (SM_t S2 S3)⟩
    · have x7' := X1.2.2.2.2.2.2.1.1
      have x8' := X1.2.2.2.2.2.2.2.1
      have x9' := X1.2.2.2.2.2.2.2.2.1
      have x8'' : ip_up J1 284 top (Int32.ofNat ν) 265 34 = Int32.ofNat dd := (up_a (by decide)).trans x8'
      rw [← A3 d, e211_0]
      simp only [e211_1, e211_4, e211_5, e211_8, e211_9, e211_12, e211_13, e211_14, e211_15, e211_16, e211_19, e211_20, e211_23, e211_24, e211_27, e211_28, e211_29, e211_30, e211_31, e211_32, e211_33, e211_33r, e211_34, e211_37, e211_38, e211_39, e211_42, e211_45, e211_46, e211_49, e211_50, e211_53, e211_54, e211_57, e211_58, e211_59, e211_60, e211_61, e211_64, e211_65, e211_68, e211_69, e211_72, e211_73, e211_74, rk_n, rk_v, nl_n, nl_i, nl_r, cat_n, ip_cat_int, ip_cat_ref, ip_cat_long, ip_rf_some, Nat.reduceAdd, Nat.reduceLeDiff, Nat.reduceLT, Nat.le_refl, Nat.zero_le, hR, x7.1, x7', x9, x9', x8'', g, e1, e2, ia_lit, nu_i, nu_tn, lt, l10, a1, true_or, or_true, Bool.false_eq_true, Bool.true_eq_false, if_true, if_false, not_true_eq_false, not_false_eq_true, zle, eq_self]
    · have e3 : CS ++ (ntl (ν + 1) ++ anl α) = CS ++ [(1, 0, 0)] ++ (ntl ν ++ anl α) := by unfold ntl; rw [List.replicate_succ]; simp
      rw [e3, show dd - (ν + 1) = dd - 1 - ν by omega]; exact X3
theorem c211 (hR : LYR R) (X : MS B t c a nm CS top ν α ω dd J) (hl : CS.length + ν + 1 ≤ 419) (hd : ν ≤ dd) (h100 : dd ≤ 100) : ∃ J', (∀ D, 1 ≤ D → cf D 211 [.ref 265] (SH n, J, L, R, nc, ns, nx) = some (.inl none, (SH n, J', L, R, nc, ns, nx))) ∧ MS B t c a nm (CS ++ (ntl ν ++ anl α)) top 0 false ω (dd - ν) J' ∧ SM top J J' := by
  obtain ⟨J', A, X', S'⟩ := m_done (n := n) (L := L) (nc := nc) (ns := ns) (nx := nx) hR ν dd CS J X hl hd h100
  refine ⟨J', fun D hD => ?_, X', S'⟩
  obtain ⟨E, rfl⟩ : ∃ E, D = E + 1 := ⟨D - 1, by omega⟩
  exact A E
/-- flushes -/
theorem c212 (hR : LYR R) (X : MS B t c a nm CS top ν α ω dd J) (hl : CS.length + 1 ≤ 419) (g : Bool) : ∃ J', (∀ D, 1 ≤ D → cf D 212 [.ref 265, .int (bI g)] (SH n, J, L, R, nc, ns, nx) = some (.inl none, (SH n, J', L, R, nc, ns, nx))) ∧ MS B t c a nm (CS ++ orl ω) top ν α g dd J' ∧ SM top J J' := by
  have x7 := X.2.2.2.2.2.2.1
  have x11 := X.2.2.2.2.2.2.2.2.2.2
  have lt : top < 2147483648 := by omega
  have l10 : top < 10 := by omega
  have bg : bI g = 0 ∨ bI g = 1 := by cases g; exact Or.inl rfl; exact Or.inr rfl
  have fin : ∀ CS J, MS B t c a nm CS top ν α ω dd J → MS B t c a nm CS top ν α g dd (ip_up J 286 top (bI g)) ∧ SM top J (ip_up J 286 top (bI g)) := by
    intro CS J X
    exact m_fr X (onlyP_up onlyP_refl (Or.inl ⟨by omega, by omega, rfl⟩)) ((up_a (by decide)).trans X.2.2.2.2.2.2.2.1) ((up_a (by decide)).trans X.2.2.2.2.2.2.2.2.1) ((up_a (by decide)).trans X.2.2.2.2.2.2.2.2.2.1) up_eq
  cases ω with
  | true =>
    obtain ⟨J1, A1, X1, S1⟩ := m_put (n := n) (L := L) (nc := nc) (ns := ns) (nx := nx) hR X (by omega) (3, 0, 0)
    obtain ⟨X2, S2⟩ := fin _ J1 X1
    refine ⟨_, fun D hD => ?_, X2, SM_t S1 S2⟩
    obtain ⟨E, rfl⟩ : ∃ E, D = E + 1 := ⟨D - 1, by omega⟩
    have a1 : ∀ d, cf d 210 [.ref 265, .int 3, .int 0, .int 0] (SH n, J, L, R, nc, ns, nx) = _ := A1
    have x7' := X1.2.2.2.2.2.2.1.1
    have b1 : bI true = 1 := rfl
    simp only [en212, e212_0, e212_1, e212_4, e212_5, e212_8, e212_9, e212_12, e212_13, e212_14, e212_15, e212_16, e212_19, e212_20, e212_23, e212_24, e212_27, e212_28, e212_29, rk_n, rk_v, nl_n, nl_i, nl_r, cat_n, ip_cat_int, ip_cat_ref, ip_cat_long, ip_rf_some, Nat.reduceAdd, Nat.reduceLeDiff, Nat.reduceLT, Nat.le_refl, Nat.zero_le, hR, x7.1, x7', x11, b1, bg, ia_lit, nu_i, nu_tn, lt, l10, a1, (by decide : ¬ (1 : Int32) = 0), Bool.false_eq_true, Bool.true_eq_false, if_true, if_false, not_true_eq_false, not_false_eq_true, zle, eq_self]
  | false =>
    obtain ⟨X2, S2⟩ := fin _ J X
    refine ⟨_, fun D hD => ?_, by simpa [orl] using X2, S2⟩
    have b1 : bI false = 0 := rfl
    simp only [en212, e212_0, e212_1, e212_4, e212_5, e212_8, e212_9, e212_12, e212_13, e212_14, e212_15, e212_16, e212_19, e212_20, e212_23, e212_24, e212_27, e212_28, e212_29, rk_n, rk_v, nl_n, nl_i, nl_r, cat_n, ip_cat_int, ip_cat_ref, ip_cat_long, ip_rf_some, Nat.reduceAdd, Nat.reduceLeDiff, Nat.reduceLT, Nat.le_refl, Nat.zero_le, hR, x7.1, x11, b1, bg, ia_lit, nu_i, nu_tn, lt, l10, Bool.false_eq_true, Bool.true_eq_false, if_true, if_false, not_true_eq_false, not_false_eq_true, zle, eq_self]
/-- opens -/
theorem c207 (hR : LYR R) (X : MS B t c a nm CS top ν α ω dd J) (ht8 : top < 8) (x y : Int32) : ∃ J', (∀ d, cf d 207 [.ref 265, .int x, .int y] (SH n, J, L, R, nc, ns, nx) = some (.inl none, (SH n, J', L, R, nc, ns, nx))) ∧ MS B t c a nm CS (top + 1) 0 false false dd J' ∧ SM top J J' ∧ (J' 281 (top + 1) = x ∧ J' 282 (top + 1) = y ∧ J' 283 (top + 1) = 1) ∧ (∀ a j, 281 ≤ a → a ≤ 286 → ¬ j = top + 1 → J' a j = J a j) := by
  obtain ⟨x1, x2, x3, x4, x5, x6, x7, x8, x9, x10, x11⟩ := X
  have lt : top + 1 < 2147483648 := by omega
  have l10 : top + 1 < 10 := by omega
  have e1 : Int32.ofNat top + 1 = Int32.ofNat (top + 1) := nu_add (s := 1)
  have GJ : ∃ J1, J1 = ip_up (ip_up (ip_up (ip_up (ip_up (ip_up (ip_up J 265 33 (Int32.ofNat (top + 1))) 281 (top + 1) x) 282 (top + 1) y) 283 (top + 1) 1) 284 (top + 1) 0) 285 (top + 1) 0) 286 (top + 1) 0 := ⟨_, rfl⟩
  obtain ⟨J1, hJ1⟩ := GJ
  have O : onlyP (fun a k => (281 ≤ a ∧ a ≤ 286 ∧ k = top + 1) ∨ (a = 265 ∧ k = 33)) J J1 := by rw [hJ1]; exact onlyP_up (onlyP_up (onlyP_up (onlyP_up (onlyP_up (onlyP_up (onlyP_up onlyP_refl (by omega)) (by omega)) (by omega)) (by omega)) (by omega)) (by omega)) (by omega)
  refine ⟨J1, fun d => ?_, ⟨⟨?_, ?_, fun i hi => ?_⟩, x2, ?_, ?_, ⟨?_, x5.2⟩, ⟨?_, fun i hi => ?_⟩, ⟨?_, by omega⟩, ?_, ?_, ?_, ?_⟩, ⟨onlyP_mono O (fun a k e => by unfold scK; omega), fun j a q1 q2 q3 => O a j (by omega), fun a q1 q2 => O a top (by omega)⟩, ⟨?_, ?_, ?_⟩, fun a j q1 q2 q3 => O a j (by omega)⟩
  · rw [hJ1]
    simp only [en207, e207_0, e207_1, e207_1r, e207_2, e207_5, e207_6, e207_7, e207_10, e207_11, e207_14, e207_15, e207_18, e207_19, e207_20, e207_21, e207_24, e207_25, e207_28, e207_29, e207_30, e207_31, e207_34, e207_35, e207_38, e207_39, e207_40, e207_41, e207_44, e207_45, e207_48, e207_49, e207_50, e207_51, e207_54, e207_55, e207_58, e207_59, e207_60, e207_61, e207_64, e207_65, e207_68, e207_69, e207_70, rk_n, rk_v, nl_n, nl_i, nl_r, cat_n, ip_cat_int, ip_cat_ref, ip_cat_long, ip_rf_some, Nat.reduceAdd, Nat.reduceLeDiff, Nat.reduceLT, Nat.le_refl, Nat.zero_le, hR, x7.1, e1, ia_lit, nu_i, nu_tn, lt, l10, up_eq, up_a, Nat.reduceEqDiff, true_or, or_true, Bool.false_eq_true, Bool.true_eq_false, if_true, if_false, not_true_eq_false, not_false_eq_true, zle, eq_self]
  · rw [O 265 3 (by omega)]; exact x1.1
  · rw [O 265 4 (by omega)]; exact x1.2.1
  · rw [O 266 i (by omega)]; exact x1.2.2 i hi
  · rw [O 265 5 (by omega)]; exact x3
  · rw [O 265 6 (by omega)]; exact x4
  · rw [O 265 8 (by omega)]; exact x5.1
  · rw [O 265 9 (by omega)]; exact x6.1
  · rw [O 271 i (by omega), O 272 i (by omega), O 273 i (by omega)]; exact x6.2 i hi
  · rw [hJ1, up_a (by decide), up_a (by decide), up_a (by decide), up_a (by decide), up_a (by decide), up_a (by decide), up_eq]
  · rw [O 265 34 (by omega)]; exact x8
  · rw [hJ1, up_a (by decide), up_a (by decide), up_eq]; rfl
  · rw [hJ1, up_a (by decide), up_eq]; rfl
  · rw [hJ1, up_eq]; rfl
  · rw [hJ1, up_a (by decide), up_a (by decide), up_a (by decide), up_a (by decide), up_a (by decide), up_eq]
  · rw [hJ1, up_a (by decide), up_a (by decide), up_a (by decide), up_a (by decide), up_eq]
  · rw [hJ1, up_a (by decide), up_a (by decide), up_a (by decide), up_eq]
/-- goesIn -/
theorem c209 (X : MS B t c a nm CS top ν α ω dd J) (hd : dd < 6) : (∀ d, cf d 209 [.ref 265] (SH n, J, L, R, nc, ns, nx) = some (.inl none, (SH n, ip_up J 265 34 (Int32.ofNat (dd + 1)), L, R, nc, ns, nx))) ∧ MS B t c a nm CS top ν α ω (dd + 1) (ip_up J 265 34 (Int32.ofNat (dd + 1))) ∧ SM top J (ip_up J 265 34 (Int32.ofNat (dd + 1))) := by
  have e1 : Int32.ofNat dd + 1 = Int32.ofNat (dd + 1) := nu_add (s := 1)
  have g : (Int32.ofNat dd = 6) = False := eq_false (fun e => by have := (nu_inj (s := 6) (by omega) (by omega)).mp e; omega)
  have x8 := X.2.2.2.2.2.2.2.1
  refine ⟨fun d => ?_, m_fr X (onlyP_up onlyP_refl (Or.inr ⟨rfl, rfl⟩)) up_eq ((up_a (by decide)).trans X.2.2.2.2.2.2.2.2.1) ((up_a (by decide)).trans X.2.2.2.2.2.2.2.2.2.1) ((up_a (by decide)).trans X.2.2.2.2.2.2.2.2.2.2)⟩
  simp only [en209, e209_0, e209_1, e209_4, e209_6, e209_9, e209_10, e209_13, e209_14, e209_14r, e209_15, e209_18, e209_19, e209_20, e209_23, rk_n, rk_v, nl_n, nl_i, nl_r, cat_n, ip_cat_int, ip_cat_ref, ip_cat_long, ip_rf_some, Nat.reduceAdd, Nat.reduceLeDiff, Nat.reduceLT, Nat.le_refl, Nat.zero_le, x8, g, e1, Bool.false_eq_true, Bool.true_eq_false, if_true, if_false, not_true_eq_false, not_false_eq_true, zle, eq_self]
end MO
