/-! READ: the class, from the tape to a text or a fault -/
def gw {α : Type} (J : Nat → Nat → α) (b : Nat) (G : Nat → α) (w : Nat) : Nat → Nat → α := fun a j => if a = b ∧ j < w then G j else J a j
theorem gw_0 {α : Type} {J : Nat → Nat → α} {b : Nat} {G : Nat → α} : gw J b G 0 = J := by
  funext a j; unfold gw; rw [if_neg (by omega)]
theorem gw_u {α : Type} {J : Nat → Nat → α} {b w : Nat} {G : Nat → α} : ip_up (gw J b G w) b w (G w) = gw J b G (w + 1) := by
  funext a j
  by_cases h : a = b
  · subst h
    by_cases g : j = w
    · subst g; rw [up_eq]; unfold gw; rw [if_pos (by omega)]
    · rw [up_k g]; unfold gw
      by_cases q : j < w
      · rw [if_pos ⟨rfl, q⟩, if_pos (by omega)]
      · rw [if_neg (by omega), if_neg (by omega)]
  · rw [up_a h]; unfold gw; rw [if_neg (by omega), if_neg (by omega)]
theorem gw_i {α : Type} {J : Nat → Nat → α} {b w j : Nat} {G : Nat → α} (h : j < w) : gw J b G w b j = G j := by unfold gw; rw [if_pos ⟨rfl, h⟩]
theorem gw_o {α : Type} {J : Nat → Nat → α} {b w a j : Nat} {G : Nat → α} (h : ¬ a = b) : gw J b G w a j = J a j := by unfold gw; rw [if_neg (by omega)]
def br0 (i : Nat) : Nat := 1 + 3 * (i % 3)
section RDC
variable {n c t T : Nat} {B : Nat → Int32} {J : Nat → Nat → Int32} {L : Nat → Nat → Int64} {R : Nat → Nat → Option Nat} {nc ns : Nat} {nx : Bool}
theorem br0_i : ∀ i, i < 6 → 1 + (Int32.ofNat i - Int32.ofNat i / 3 * 3) * 3 = Int32.ofNat (br0 i) := by decide
theorem c4 (hR : LYR R) (hT : isT T) (hT2 : T = 9 ∨ T = 16) : ∃ J' L', (∀ d, cf d 4 [.ref T] (SH n, J, L, R, nc, ns, nx) = some (.inl none, (SH n, J', L', R, nc, ns, nx))) ∧ (∀ k, k < 48 → J' (T + 1) k = 0) ∧ (∀ i, i < 6 → J' (T + 5) i = Int32.ofNat (br0 i)) ∧ J' T 6 = 0 ∧ J' T 7 = 0 ∧ J' T 8 = 0 ∧ onlyP (fun a _ => T ≤ a ∧ a ≤ T + 5) J J' ∧ (∀ a k, ¬ a = T + 6 → L' a k = L a k) := by
  have S1 : ∃ J1, J1 = gw J (T + 1) (fun _ => 0) 48 := ⟨_, rfl⟩
  obtain ⟨J1, h1⟩ := S1
  have S2 : ∃ J2, J2 = gw J1 (T + 5) (fun i => Int32.ofNat (br0 i)) 6 := ⟨_, rfl⟩
  obtain ⟨J2, h2⟩ := S2
  have A1 := fun d => for_eq (c := 48) (fun k => rf d 4 2 [some (.ref T), some (.int (Int32.ofNat k))] [] (SH n, gw J (T + 1) (fun _ => 0) k, L, R, nc, ns, nx)) (fun k hk => by
    have g : ((48 : Int32) ≤ Int32.ofNat k) = False := eq_false (fun e => by have := (nu_le (t := 48) (by omega) (by omega)).mp e; omega)
    have e1 : Int32.ofNat k + 1 = Int32.ofNat (k + 1) := nu_add (s := 1)
    have l1 : k < 2147483648 := by omega
    rw [← gw_u, e4_2]
    simp only [e4_0, e4_1, e4_3, e4_5, e4_8, e4_9, e4_12, e4_13, e4_14, e4_15, e4_18, e4_21, e4_22, e4_24, e4_26, e4_29, e4_30, e4_33, e4_34, e4_35, e4_36, e4_37, e4_38, e4_39, e4_40, e4_41, e4_42, e4_45, e4_48, e4_49, e4_51, e4_52, e4_55, e4_56, e4_59, e4_60, e4_61, e4_62, e4_65, e4_68, e4_69, e4_70, e4_73, e4_74, e4_75, e4_78, e4_79, e4_80, e4_83, rk_n, rk_v, nl_n, nl_i, nl_r, cat_n, ip_cat_int, ip_cat_ref, ip_cat_long, ip_rf_some, Nat.reduceAdd, Nat.reduceLeDiff, Nat.reduceLT, Nat.le_refl, Nat.zero_le, hR, hT, g, e1, ia_T1, nu_i, nu_tn, l1, hk, Bool.false_eq_true, Bool.true_eq_false, if_true, if_false, not_true_eq_false, not_false_eq_true, zle, eq_self])
  have A2 := fun d => for_eq (c := 6) (fun k => rf d 4 23 [some (.ref T), some (.int (Int32.ofNat k))] [] (SH n, gw J1 (T + 5) (fun i => Int32.ofNat (br0 i)) k, L, R, nc, ns, nx)) (fun k hk => by
    have g : ((6 : Int32) ≤ Int32.ofNat k) = False := eq_false (fun e => by have := (nu_le (t := 6) (by omega) (by omega)).mp e; omega)
    have e1 : Int32.ofNat k + 1 = Int32.ofNat (k + 1) := nu_add (s := 1)
    have l1 : k < 2147483648 := by omega
    have b0 := br0_i k hk
    rw [← gw_u, e4_23]
    simp only [e4_0, e4_1, e4_3, e4_5, e4_8, e4_9, e4_12, e4_13, e4_14, e4_15, e4_18, e4_21, e4_22, e4_24, e4_26, e4_29, e4_30, e4_33, e4_34, e4_35, e4_36, e4_37, e4_38, e4_39, e4_40, e4_41, e4_42, e4_45, e4_48, e4_49, e4_51, e4_52, e4_55, e4_56, e4_59, e4_60, e4_61, e4_62, e4_65, e4_68, e4_69, e4_70, e4_73, e4_74, e4_75, e4_78, e4_79, e4_80, e4_83, rk_n, rk_v, nl_n, nl_i, nl_r, cat_n, ip_cat_int, ip_cat_ref, ip_cat_long, ip_rf_some, Nat.reduceAdd, Nat.reduceLeDiff, Nat.reduceLT, Nat.le_refl, Nat.zero_le, hR, hT, g, e1, b0, ia_T5, nu_i, nu_tn, l1, hk, (by decide : ¬ (3 : Int32) = 0), Bool.false_eq_true, Bool.true_eq_false, if_true, if_false, not_true_eq_false, not_false_eq_true, zle, eq_self])
  have A3 := fun d => for_eq (c := 4) (fun k => rf d 4 50 [some (.ref T), some (.int (Int32.ofNat k))] [] (SH n, J2, gw L (T + 6) (fun _ => 0) k, R, nc, ns, nx)) (fun k hk => by
    have g : ((4 : Int32) ≤ Int32.ofNat k) = False := eq_false (fun e => by have := (nu_le (t := 4) (by omega) (by omega)).mp e; omega)
    have e1 : Int32.ofNat k + 1 = Int32.ofNat (k + 1) := nu_add (s := 1)
    have l1 : k < 2147483648 := by omega
    rw [← gw_u, e4_50]
    simp only [e4_0, e4_1, e4_3, e4_5, e4_8, e4_9, e4_12, e4_13, e4_14, e4_15, e4_18, e4_21, e4_22, e4_24, e4_26, e4_29, e4_30, e4_33, e4_34, e4_35, e4_36, e4_37, e4_38, e4_39, e4_40, e4_41, e4_42, e4_45, e4_48, e4_49, e4_51, e4_52, e4_55, e4_56, e4_59, e4_60, e4_61, e4_62, e4_65, e4_68, e4_69, e4_70, e4_73, e4_74, e4_75, e4_78, e4_79, e4_80, e4_83, rk_n, rk_v, nl_n, nl_i, nl_r, cat_n, ip_cat_int, ip_cat_ref, ip_cat_long, ip_rf_some, Nat.reduceAdd, Nat.reduceLeDiff, Nat.reduceLT, Nat.le_refl, Nat.zero_le, hR, hT, g, e1, la_T6, nu_i, nu_tn, l1, hk, Bool.false_eq_true, Bool.true_eq_false, if_true, if_false, not_true_eq_false, not_false_eq_true, zle, eq_self])
  refine ⟨ip_up (ip_up (ip_up J2 T 6 0) T 7 0) T 8 0, gw L (T + 6) (fun _ => 0) 4, fun d => ?_, fun k hk => ?_, fun i hi => ?_, ?_, ?_, up_eq, ?_, fun a k h => gw_o h⟩
  · have a1 := A1 d
    have a2 := A2 d
    have a3 := A3 d
    try dsimp only at a1 a2 a3
    rw [gw_0, ← h1] at a1
    rw [gw_0, ← h2] at a2
    rw [gw_0] at a3
    have a1 : rf d 4 2 [some (.ref T), some (.int 0)] [] (SH n, J, L, R, nc, ns, nx) = _ := a1
    have a2 : rf d 4 23 [some (.ref T), some (.int 0)] [] (SH n, J1, L, R, nc, ns, nx) = _ := a2
    have a3 : rf d 4 50 [some (.ref T), some (.int 0)] [] (SH n, J2, L, R, nc, ns, nx) = _ := a3
    simp only [en4, e4_0, e4_1, rk_n, rk_v, nl_n, nl_i, nl_r, cat_n, ip_cat_int, ip_cat_ref, ip_cat_long, ip_rf_some, Nat.reduceAdd, Nat.reduceLeDiff, Nat.reduceLT, Nat.le_refl, Nat.zero_le]
    rw [a1, e4_2]
    simp only [e4_3, e4_5, e4_21, e4_22, rk_n, rk_v, nl_n, nl_i, nl_r, cat_n, ip_cat_int, ip_cat_ref, ip_cat_long, ip_rf_some, Nat.reduceAdd, Nat.reduceLeDiff, Nat.reduceLT, Nat.le_refl, Nat.zero_le, (by decide : ((48 : Int32) ≤ Int32.ofNat 48) = True), Bool.false_eq_true, Bool.true_eq_false, if_true, if_false, not_true_eq_false, not_false_eq_true, zle, eq_self]
    rw [a2, e4_23]
    simp only [e4_24, e4_26, e4_48, e4_49, rk_n, rk_v, nl_n, nl_i, nl_r, cat_n, ip_cat_int, ip_cat_ref, ip_cat_long, ip_rf_some, Nat.reduceAdd, Nat.reduceLeDiff, Nat.reduceLT, Nat.le_refl, Nat.zero_le, (by decide : ((6 : Int32) ≤ Int32.ofNat 6) = True), Bool.false_eq_true, Bool.true_eq_false, if_true, if_false, not_true_eq_false, not_false_eq_true, zle, eq_self]
    rw [a3, e4_50]
    simp only [e4_0, e4_1, e4_3, e4_5, e4_8, e4_9, e4_12, e4_13, e4_14, e4_15, e4_18, e4_21, e4_22, e4_24, e4_26, e4_29, e4_30, e4_33, e4_34, e4_35, e4_36, e4_37, e4_38, e4_39, e4_40, e4_41, e4_42, e4_45, e4_48, e4_49, e4_51, e4_52, e4_55, e4_56, e4_59, e4_60, e4_61, e4_62, e4_65, e4_68, e4_69, e4_70, e4_73, e4_74, e4_75, e4_78, e4_79, e4_80, e4_83, rk_n, rk_v, nl_n, nl_i, nl_r, cat_n, ip_cat_int, ip_cat_ref, ip_cat_long, ip_rf_some, Nat.reduceAdd, Nat.reduceLeDiff, Nat.reduceLT, Nat.le_refl, Nat.zero_le, hT, (by decide : ((4 : Int32) ≤ Int32.ofNat 4) = True), true_or, or_true, Bool.false_eq_true, Bool.true_eq_false, if_true, if_false, not_true_eq_false, not_false_eq_true, zle, eq_self]
  · rw [up_a (by omega), up_a (by omega), up_a (by omega), h2, gw_o (by omega), h1, gw_i hk]
  · rw [up_a (by omega), up_a (by omega), up_a (by omega), h2, gw_i hi]
  · rw [up_k (by decide), up_k (by decide), up_eq]
  · rw [up_k (by decide), up_eq]
  · refine onlyP_up (onlyP_up (onlyP_up ?_ (by omega)) (by omega)) (by omega)
    intro a k h
    rw [h2, gw_o (by omega), h1, gw_o (by omega)]
/-- what the class answers: a fault at q, or a text -/
theorem c38 (hR : LYR R) (ht : t ≤ 400) (hT2 : T = 9 ∨ T = 16) (hT : isT T) (rT : R 4 2 = some T) (hb : ∀ i, i < t → J 3 i = B i) (hN : ∀ k, k < 6 → L 1 k = ip_nm k) : ∃ J1 L1, CSX B t T 0 (fun _ => []) (fun _ => 0) (fun _ => 0) br0 false 0 (fun _ => 0) (skT B t 0) J1 L1 ∧ (∀ D, 70 ≤ D → cf D 38 [.ref 4, .ref 3, .int (Int32.ofNat t)] (SH n, J, L, R, nc, ns, nx) = rf D 38 40 [some (.ref 4), some (.ref 3), some (.int (Int32.ofNat t)), some (.int (Int32.ofNat 0)), none] [] (SH n, J1, L1, ip_up R 4 1 (some 3), nc, ns, nx)) ∧ onlyP (fun a k => scX T a k ∨ (a = 4 ∧ k = 3)) J J1 ∧ oX T L L1 := by
  have hR' : LYR (ip_up R 4 1 (some 3)) := LYR_on (fun a k h => by
    by_cases z : a = 4
    · subst z
      by_cases y : k = 1
      · subst y; exact absurd (by unfold mutR; omega) h
      · exact up_k y
    · exact up_a z) hR
  have rT' : ip_up R 4 1 (some 3) 4 2 = some T := (up_k (by decide)).trans rT
  have hr' : ip_up R 4 1 (some 3) 4 1 = some 3 := up_eq
  generalize hRR : ip_up R 4 1 (some 3) = R1 at *
  generalize hJ0 : ip_up (ip_up J 4 3 (Int32.ofNat t)) 4 4 0 = J0
  obtain ⟨J1, L1, A1, w1, w2, w3, w4, w5, O1, OL1⟩ := c4 (n := n) (J := J0) (L := L) (nc := nc) (ns := ns) (nx := nx) hR' hT hT2
  generalize hJ2 : ip_up J1 5 2 0 = J2
  have G2 : ∀ a k, ¬ (a = 5 ∧ k = 2) → ¬ (T ≤ a ∧ a ≤ T + 5) → J2 a k = J0 a k := fun a k h1 h2 => by
    rw [← hJ2]
    by_cases z : a = 5
    · subst z; rw [up_k (fun e => h1 ⟨rfl, e⟩)]; exact O1 _ _ h2
    · rw [up_a z]; exact O1 _ _ h2
  have G0 : ∀ a k, ¬ (a = 4 ∧ (k = 3 ∨ k = 4)) → J0 a k = J a k := fun a k h => by
    rw [← hJ0]
    by_cases z : a = 4
    · subst z; rw [up_k (by omega), up_k (by omega)]
    · rw [up_a z, up_a z]
  have k3 : J2 4 3 = Int32.ofNat t := by rw [G2 4 3 (by omega) (by omega), ← hJ0, up_k (by decide), up_eq]
  have k4 : J2 4 4 = Int32.ofNat 0 := by rw [G2 4 4 (by omega) (by omega), ← hJ0, up_eq]; rfl
  obtain ⟨J3, A3, X3, O3⟩ := c40 (n := n) (L := L1) (nc := nc) (ns := ns) (nx := nx) (J := J2) (B := B) (a := 0) ht hr' (fun i hi => by rw [G2 3 i (by omega) (by omega), G0 3 i (by omega)]; exact hb i hi) k3 (by omega) k4
  have G3 : ∀ a k, T ≤ a → J3 a k = J1 a k := fun a k h => by rw [O3 a k (by omega), ← hJ2, up_a (by omega)]
  refine ⟨J3, L1, ⟨0, fun _ _ => 0, ⟨X3, (skT_le (by omega)).2, ?_, fun k hk => by omega, ?_, by omega, by omega, ⟨?_, fun i hi => by omega⟩, fun i hi => by omega, fun k hk => ?_⟩, fun k _ h8 i hi => ?_, fun k hk => by omega, fun k hk => by omega, fun k hk => by omega, fun k hk => by omega, fun i hi => ?_, ?_, fun _ => ⟨rfl, rfl⟩, fun e => by (cases e)⟩, fun D hD => ?_, ?_, fun a k h1 h2 h3 => OL1 a k h3⟩
  · rw [G3 T 6 (by omega)]; exact w3
  · rw [G3 T 7 (by omega)]; exact w4
  · rw [O3 5 2 (by omega), ← hJ2, up_eq]; rfl
  · rw [OL1 1 k (by omega)]; exact hN k hk
  · rw [G3 (T + 1) _ (by omega)]; exact w1 _ (by omega)
  · rw [G3 (T + 5) i (by omega)]; exact w2 i hi
  · rw [G3 T 8 (by omega)]; exact w5
  · obtain ⟨E, rfl⟩ : ∃ E, D = E + 3 + 1 := ⟨D - 4, by omega⟩
    have k30 : (kd (SH n) 3 = 100 ∨ kd (SH n) 3 = 101) ∧ 2 ≤ 3 := ⟨Or.inl rfl, by decide⟩
    have e8 := fun ls s => e38_8 (d := E + 3 + 1) (n := n) (I := J) (L := L) (R := R1) (nc := nc) (ns := ns) (nx := nx) (ls := ls) (s := s) (a := 3) k30
    have l3 : ln (SH n) 3 = 400 := rfl
    have mn : (if Int32.ofNat 400 < Int32.ofNat t then Int32.ofNat 400 else Int32.ofNat t) = Int32.ofNat t := if_neg (fun e => by have := (nu_lt (by omega) (by omega)).mp e; omega)
    have c39 : ∀ d, cf d 39 [.ref 5] (SH n, J1, L1, R1, nc, ns, nx) = some (.inl none, (SH n, J2, L1, R1, nc, ns, nx)) := fun d => by
      simp only [en39, e39_0, e39_1, e39_2, e39_5, rk_n, rk_v, nl_n, nl_i, nl_r, cat_n, ip_cat_int, ip_cat_ref, ip_cat_long, ip_rf_some, Nat.reduceAdd, Nat.reduceLeDiff, Nat.reduceLT, Nat.le_refl, Nat.zero_le, hJ2, Bool.false_eq_true, Bool.true_eq_false, if_true, if_false, not_true_eq_false, not_false_eq_true, zle, eq_self]
    simp only [en38, e38_0, e38_1, e38_2, e38_5, e38_6, e38_7, e8, e38_9, e38_12, e38_15, e38_16, e38_17, e38_20, e38_21, e38_24, e38_27, e38_28, e38_31, e38_34, e38_35, e38_38, e38_39, rk_n, rk_v, nl_n, nl_i, nl_r, cat_n, ip_cat_int, ip_cat_ref, ip_cat_long, ip_rf_some, Nat.reduceAdd, Nat.reduceLeDiff, Nat.reduceLT, Nat.le_refl, Nat.zero_le, hR', hRR, l3, mn, hJ0, rT', hT, A1, c39, A3, Bool.false_eq_true, Bool.true_eq_false, if_true, if_false, not_true_eq_false, not_false_eq_true, zle, eq_self]
    rfl
  · intro a k h
    rw [O3 a k (by unfold scX at h; omega), G2 a k (by unfold scX at h; omega) (by unfold scX at h; omega), G0 a k (by unfold scX at h; omega)]
end RDC
