/-! READ: the model begins anew -/
theorem gw_c {α : Type} {J : Nat → Nat → α} {b w a k : Nat} {G : Nat → α} {v : α} (h : ¬ a = b) : ip_up (gw J b G w) a k v = gw (ip_up J a k v) b G w := by
  funext x j
  by_cases h1 : x = a
  · subst h1
    by_cases h2 : j = k
    · subst h2; rw [up_eq, gw_o h, up_eq]
    · rw [up_k h2, gw_o h, gw_o h, up_k h2]
  · rw [up_a h1]
    unfold gw
    by_cases q : x = b ∧ j < w
    · rw [if_pos q, if_pos q]
    · rw [if_neg q, if_neg q, up_a h1]
def BEG (c : Nat) (K : Nat → Nat → Int32) : Prop := (K 265 37 = 1 ∧ K 265 38 = 0) ∧ (K 289 0 = 0 ∧ K 290 0 = -1 ∧ K 291 0 = -1 ∧ K 292 0 = Int32.ofNat (2 ^ c - 1) ∧ K 293 0 = Int32.ofNat (2 ^ c - 1) ∧ K 294 0 = 0 ∧ K 295 0 = 0 ∧ K 296 0 = 0 ∧ K 297 0 = -1 ∧ K 298 0 = 0 ∧ K 299 0 = 0) ∧ (∀ k, k < 2 → K 300 k = 0 ∧ K 301 k = 0) ∧ ∀ k, k < 8 → K 302 k = -1 ∧ K 303 k = -1 ∧ K 304 k = -1
section BG
variable {n d t c s : Nat} {K : Nat → Nat → Int32} {L : Nat → Nat → Int64} {R : Nat → Nat → Option Nat} {nc ns : Nat} {nx : Bool} {CS : List CD} {v : Nat → Nat}
theorem c184 (hR : LYR R) (hc8 : c ≤ 8) (hok : okc c CS) (hl : CS.length ≤ 400) (hev : ev CS v) (hv : le1 v) (C : CDX CS K) (h17 : K 265 17 = Int32.ofNat c) : ∃ K', (∀ D, 4 ≤ D → cf D 184 [.ref 265] (SH n, K, L, R, nc, ns, nx) = some (.inl none, (SH n, K', L, R, nc, ns, nx))) ∧ (∀ s, s < 256 → K' 287 s = if v s = 1 then 0 else 1) ∧ BEG c K' ∧ onlyP (fun a k => (287 ≤ a ∧ a ≤ 304) ∨ (a = 265 ∧ (k = 37 ∨ k = 38))) K K' := by
  have H1 : ∀ m s K0, s + m = 256 → onlyP (fun a _ => a = 287 ∨ a = 288) K K0 → (∀ i, i < s → K0 287 i = if v i = 1 then 0 else 1) → ∃ K', (∀ D, 2 ≤ D → rf D 184 2 [some (.ref 265), some (.int (Int32.ofNat s))] [] (SH n, K0, L, R, nc, ns, nx) = rf D 184 34 [some (.ref 265), some (.int (Int32.ofNat 256))] [] (SH n, K', L, R, nc, ns, nx)) ∧ onlyP (fun a _ => a = 287 ∨ a = 288) K K' ∧ ∀ i, i < 256 → K' 287 i = if v i = 1 then 0 else 1 := by
    intro m
    induction m with
    | zero =>
      intro s K0 hs O P
      have e : s = 256 := by omega
      subst e
      refine ⟨K0, fun D hD => ?_, O, P⟩
      rw [e184_2]
      simp only [e184_3, e184_6, (by decide : ((256 : Int32) ≤ Int32.ofNat 256) = True), Bool.false_eq_true, Bool.true_eq_false, if_true, if_false, not_true_eq_false, not_false_eq_true, zle, eq_self]
    | succ m ih =>
      intro s K0 hs O P
      have g : ((256 : Int32) ≤ Int32.ofNat s) = False := eq_false (fun e => by have := (nu_le (t := 256) (by omega) (by omega)).mp e; omega)
      have e1 : Int32.ofNat s + 1 = Int32.ofNat (s + 1) := nu_add (s := 1)
      have l1 : s < 2147483648 := by omega
      have l2 : s < 256 := by omega
      obtain ⟨K1, A1, O1⟩ := c185 (n := n) (L := L) (nc := nc) (ns := ns) (nx := nx) (K := K0) (s := s) hR l2 hc8 hok hl hev hv ⟨by rw [O 265 19 (by omega)]; exact C.1, fun i hi => by rw [O 278 i (by omega), O 279 i (by omega), O 280 i (by omega)]; exact C.2 i hi⟩
      obtain ⟨K2, A2, O2, P2⟩ := ih (s + 1) (ip_up K1 287 s (if v s = 1 then 0 else 1)) (by omega) (onlyP_up (onlyP_tr O (onlyP_mono O1 (fun a k e => Or.inr e))) (Or.inl rfl)) (fun i hi => by
        by_cases z : i = s
        · subst z; exact up_eq
        · rw [up_k z, O1 287 i (by omega)]; exact P i (by omega))
      refine ⟨K2, fun D hD => ?_, O2, P2⟩
      rw [← A2 D hD]
      obtain ⟨E, rfl⟩ : ∃ E, D = E + 1 := ⟨D - 1, by omega⟩
      have a1 := A1 E (by omega)
      have v1 := hv s
      rw [e184_2]
      by_cases z : v s = 1
      · rw [z] at a1
        have a1 : cf E 185 [.ref 265, .int (Int32.ofNat s)] (SH n, K0, L, R, nc, ns, nx) = some (.inl (some (.int 1)), (SH n, K1, L, R, nc, ns, nx)) := a1
        rw [if_pos z]
        simp only [e184_3, e184_6, e184_9, e184_10, e184_13, e184_14, e184_15, e184_16, e184_19, e184_22, e184_23, e184_26, e184_27, e184_28, e184_31, rk_n, rk_v, nl_n, nl_i, nl_r, cat_n, ip_cat_int, ip_cat_ref, ip_cat_long, ip_rf_some, Nat.reduceAdd, Nat.reduceLeDiff, Nat.reduceLT, Nat.le_refl, Nat.zero_le, hR, g, a1, ia_lit, nu_i, nu_tn, l1, l2, e1, (by decide : ¬ (1 : Int32) = 0), Bool.false_eq_true, Bool.true_eq_false, if_true, if_false, not_true_eq_false, not_false_eq_true, zle, eq_self]
      · have z0 : v s = 0 := by omega
        rw [z0] at a1
        have a1 : cf E 185 [.ref 265, .int (Int32.ofNat s)] (SH n, K0, L, R, nc, ns, nx) = some (.inl (some (.int 0)), (SH n, K1, L, R, nc, ns, nx)) := a1
        rw [if_neg z]
        simp only [e184_3, e184_6, e184_9, e184_10, e184_13, e184_14, e184_15, e184_16, e184_19, e184_22, e184_23, e184_26, e184_27, e184_28, e184_31, rk_n, rk_v, nl_n, nl_i, nl_r, cat_n, ip_cat_int, ip_cat_ref, ip_cat_long, ip_rf_some, Nat.reduceAdd, Nat.reduceLeDiff, Nat.reduceLT, Nat.le_refl, Nat.zero_le, hR, g, a1, ia_lit, nu_i, nu_tn, l1, l2, e1, Bool.false_eq_true, Bool.true_eq_false, if_true, if_false, not_true_eq_false, not_false_eq_true, zle, eq_self]
  obtain ⟨K1, A1, O1, P1⟩ := H1 256 0 K (by omega) onlyP_refl (fun i hi => by omega)
  have k17 : K1 265 17 = Int32.ofNat c := by rw [O1 265 17 (by omega)]; exact h17
  generalize hx : Int32.ofNat (2 ^ c - 1) = x
  have AL : ∀ d J, J 265 17 = Int32.ofNat c → cf d 187 [.ref 265] (SH n, J, L, R, nc, ns, nx) = some (.inl (some (.int x)), (SH n, J, L, R, nc, ns, nx)) := fun d J hJ => by rw [← hx]; exact all_n hc8 hJ
  have GK : ∃ K2, K2 = ip_up (ip_up (ip_up (ip_up (ip_up (ip_up (ip_up (ip_up (ip_up (ip_up (ip_up (ip_up (ip_up K1 265 37 1) 265 38 0) 289 0 0) 290 0 (-1)) 291 0 (-1)) 292 0 x) 293 0 x) 294 0 0) 295 0 0) 296 0 0) 297 0 (-1)) 298 0 0) 299 0 0 := ⟨_, rfl⟩
  obtain ⟨K2, hK2⟩ := GK
  have A2 : ∀ D, 4 ≤ D → rf D 184 34 [some (.ref 265), some (.int (Int32.ofNat 256))] [] (SH n, K1, L, R, nc, ns, nx) = rf D 184 129 [some (.ref 265), some (.int 0)] [] (SH n, K2, L, R, nc, ns, nx) := by
    intro D hD
    obtain ⟨E, rfl⟩ : ∃ E, D = E + 1 := ⟨D - 1, by omega⟩
    have u1 : ip_up (ip_up (ip_up (ip_up (ip_up K1 265 37 1) 265 38 0) 289 0 0) 290 0 (-1)) 291 0 (-1) 265 17 = Int32.ofNat c := by rw [up_a (by decide), up_a (by decide), up_a (by decide), up_k (by decide), up_k (by decide)]; exact k17
    have u2 : ip_up (ip_up (ip_up (ip_up (ip_up (ip_up K1 265 37 1) 265 38 0) 289 0 0) 290 0 (-1)) 291 0 (-1)) 292 0 x 265 17 = Int32.ofNat c := (up_a (by decide)).trans u1
    have a1 := AL E _ u1
    have a2 := AL E _ u2
    rw [hK2]
    simp only [e184_34, e184_35, e184_36, e184_39, e184_40, e184_41, e184_44, e184_45, e184_48, e184_49, e184_50, e184_51, e184_52, e184_55, e184_56, e184_57, e184_58, e184_59, e184_62, e184_63, e184_64, e184_65, e184_66, e184_69, e184_70, e184_71, e184_74, e184_75, e184_76, e184_79, e184_80, e184_81, e184_84, e184_85, e184_86, e184_89, e184_90, e184_91, e184_92, e184_93, e184_96, e184_97, e184_98, e184_99, e184_100, e184_103, e184_104, e184_105, e184_106, e184_107, e184_110, e184_111, e184_112, e184_113, e184_114, e184_117, e184_118, e184_119, e184_120, e184_121, e184_124, e184_125, e184_126, e184_127, e184_128, rk_n, rk_v, nl_n, nl_i, nl_r, cat_n, ip_cat_int, ip_cat_ref, ip_cat_long, ip_rf_some, Nat.reduceAdd, Nat.reduceLeDiff, Nat.reduceLT, Nat.le_refl, Nat.zero_le, hR, a1, a2, ia_lit, inbL, tnL, Bool.false_eq_true, Bool.true_eq_false, if_true, if_false, not_true_eq_false, not_false_eq_true, zle, eq_self]
  have A3 := fun D => for_eq (c := 2) (fun k => rf D 184 129 [some (.ref 265), some (.int (Int32.ofNat k))] [] (SH n, gw (gw K2 300 (fun _ => 0) k) 301 (fun _ => 0) k, L, R, nc, ns, nx)) (fun k hk => by
    have g : ((2 : Int32) ≤ Int32.ofNat k) = False := eq_false (fun e => by have := (nu_le (t := 2) (by omega) (by omega)).mp e; omega)
    have e1 : Int32.ofNat k + 1 = Int32.ofNat (k + 1) := nu_add (s := 1)
    have l1 : k < 2147483648 := by omega
    have l2 : k < 80 := by omega
    rw [← gw_u (b := 301), ← gw_u (b := 300), ← gw_c (show ¬ 300 = 301 by decide), e184_129]
    simp only [e184_130, e184_131, e184_134, e184_135, e184_138, e184_139, e184_140, e184_141, e184_142, e184_145, e184_146, e184_147, e184_148, e184_151, rk_n, rk_v, nl_n, nl_i, nl_r, cat_n, ip_cat_int, ip_cat_ref, ip_cat_long, ip_rf_some, Nat.reduceAdd, Nat.reduceLeDiff, Nat.reduceLT, Nat.le_refl, Nat.zero_le, hR, g, e1, ia_lit, nu_i, nu_tn, l1, l2, Bool.false_eq_true, Bool.true_eq_false, if_true, if_false, not_true_eq_false, not_false_eq_true, zle, eq_self])
  have GK4 : ∃ K4, K4 = gw (gw K2 300 (fun _ => 0) 2) 301 (fun _ => 0) 2 := ⟨_, rfl⟩
  obtain ⟨K4, hK4⟩ := GK4
  have A5 := fun D => for_eq (c := 8) (fun k => rf (D + 1) 184 156 [some (.ref 265), some (.int (Int32.ofNat k))] [] (SH n, gw (gw (gw K4 302 (fun _ => -1) k) 303 (fun _ => -1) k) 304 (fun _ => -1) k, L, R, nc, ns, nx)) (fun k hk => by
    have g : ((8 : Int32) ≤ Int32.ofNat k) = False := eq_false (fun e => by have := (nu_le (t := 8) (by omega) (by omega)).mp e; omega)
    have e1 : Int32.ofNat k + 1 = Int32.ofNat (k + 1) := nu_add (s := 1)
    have I8 := c188 (d := D) (n := n) (I := gw (gw (gw K4 302 (fun _ => -1) k) 303 (fun _ => -1) k) 304 (fun _ => -1) k) (L := L) (nc := nc) (ns := ns) (nx := nx) (q := 0) (k := k) hR (by omega) hk
    rw [show 8 * 0 + k = k by omega] at I8
    have I8 : cf D 188 [.ref 265, .int 0, .int (Int32.ofNat k)] (SH n, gw (gw (gw K4 302 (fun _ => -1) k) 303 (fun _ => -1) k) 304 (fun _ => -1) k, L, R, nc, ns, nx) = _ := I8
    rw [← gw_u (b := 304), ← gw_u (b := 303), ← gw_u (b := 302), ← gw_c (show ¬ 303 = 304 by decide), ← gw_c (show ¬ 302 = 303 by decide), ← gw_c (show ¬ 302 = 304 by decide), e184_156]
    simp only [e184_157, e184_159, e184_162, e184_163, e184_164, e184_165, e184_168, e184_171, rk_n, rk_v, nl_n, nl_i, nl_r, cat_n, ip_cat_int, ip_cat_ref, ip_cat_long, ip_rf_some, Nat.reduceAdd, Nat.reduceLeDiff, Nat.reduceLT, Nat.le_refl, Nat.zero_le, g, I8, e1, Bool.false_eq_true, Bool.true_eq_false, if_true, if_false, not_true_eq_false, not_false_eq_true, zle, eq_self])
  have GK6 : ∃ K6, K6 = gw (gw (gw K4 302 (fun _ => -1) 8) 303 (fun _ => -1) 8) 304 (fun _ => -1) 8 := ⟨_, rfl⟩
  obtain ⟨K6, hK6⟩ := GK6
  have O2 : onlyP (fun a k => (287 ≤ a ∧ a ≤ 304) ∨ (a = 265 ∧ (k = 37 ∨ k = 38))) K1 K2 := by rw [hK2]; exact onlyP_up (onlyP_up (onlyP_up (onlyP_up (onlyP_up (onlyP_up (onlyP_up (onlyP_up (onlyP_up (onlyP_up (onlyP_up (onlyP_up (onlyP_up onlyP_refl (by omega)) (by omega)) (by omega)) (by omega)) (by omega)) (by omega)) (by omega)) (by omega)) (by omega)) (by omega)) (by omega)) (by omega)) (by omega)
  have G6 : ∀ a k, ¬ (300 ≤ a ∧ a ≤ 304) → K6 a k = K2 a k := fun a k h => by rw [hK6, gw_o (by omega), gw_o (by omega), gw_o (by omega), hK4, gw_o (by omega), gw_o (by omega)]
  refine ⟨K6, fun D hD => ?_, fun s hs => ?_, ⟨⟨?_, ?_⟩, ⟨?_, ?_, ?_, ?_, ?_, ?_, ?_, ?_, ?_, ?_, ?_⟩, fun k hk => ⟨?_, ?_⟩, fun k hk => ⟨?_, ?_, ?_⟩⟩, ?_⟩
  · have a3 := A3 D
    try dsimp only at a3
    rw [gw_0, gw_0, ← hK4] at a3
    have a3 : rf D 184 129 [some (.ref 265), some (.int 0)] [] (SH n, K2, L, R, nc, ns, nx) = _ := a3
    have a1 : rf D 184 2 [some (.ref 265), some (.int 0)] [] (SH n, K, L, R, nc, ns, nx) = _ := A1 D (by omega)
    have a2 := A2 D hD
    obtain ⟨E, rfl⟩ : ∃ E, D = E + 1 := ⟨D - 1, by omega⟩
    have a5 := A5 E
    try dsimp only at a5
    rw [gw_0, gw_0, gw_0, ← hK6] at a5
    have a5 : rf (E + 1) 184 156 [some (.ref 265), some (.int 0)] [] (SH n, K4, L, R, nc, ns, nx) = _ := a5
    simp only [en184, e184_0, e184_1, rk_n, rk_v, nl_n, nl_i, nl_r, cat_n, ip_cat_int, ip_cat_ref, ip_cat_long, ip_rf_some, Nat.reduceAdd, Nat.reduceLeDiff, Nat.reduceLT, Nat.le_refl, Nat.zero_le]
    rw [a1, a2, a3, e184_129]
    simp only [e184_130, e184_131, e184_154, e184_155, rk_n, rk_v, nl_n, nl_i, nl_r, cat_n, ip_cat_int, ip_cat_ref, ip_cat_long, ip_rf_some, Nat.reduceAdd, Nat.reduceLeDiff, Nat.reduceLT, Nat.le_refl, Nat.zero_le, (by decide : ((2 : Int32) ≤ Int32.ofNat 2) = True), Bool.false_eq_true, Bool.true_eq_false, if_true, if_false, not_true_eq_false, not_false_eq_true, zle, eq_self]
    rw [a5, e184_156]
    simp only [e184_157, e184_159, e184_174, (by decide : ((8 : Int32) ≤ Int32.ofNat 8) = True), Bool.false_eq_true, Bool.true_eq_false, if_true, if_false, not_true_eq_false, not_false_eq_true, zle, eq_self]
  · rw [G6 287 s (by omega), hK2, up_a (by decide), up_a (by decide), up_a (by decide), up_a (by decide), up_a (by decide), up_a (by decide), up_a (by decide), up_a (by decide), up_a (by decide), up_a (by decide), up_a (by decide), up_a (by decide), up_a (by decide)]; exact P1 s hs
  · rw [G6 265 37 (by omega), hK2]; simp only [up_a, up_k, up_eq, Nat.reduceEqDiff, not_false_eq_true]
  · rw [G6 265 38 (by omega), hK2]; simp only [up_a, up_k, up_eq, Nat.reduceEqDiff, not_false_eq_true]
  · rw [G6 289 0 (by omega), hK2]; simp only [up_a, up_k, up_eq, Nat.reduceEqDiff, not_false_eq_true]
  · rw [G6 290 0 (by omega), hK2]; simp only [up_a, up_k, up_eq, Nat.reduceEqDiff, not_false_eq_true]
  · rw [G6 291 0 (by omega), hK2]; simp only [up_a, up_k, up_eq, Nat.reduceEqDiff, not_false_eq_true]
  · rw [G6 292 0 (by omega), hK2, hx]; simp only [up_a, up_k, up_eq, Nat.reduceEqDiff, not_false_eq_true]
  · rw [G6 293 0 (by omega), hK2, hx]; simp only [up_a, up_k, up_eq, Nat.reduceEqDiff, not_false_eq_true]
  · rw [G6 294 0 (by omega), hK2]; simp only [up_a, up_k, up_eq, Nat.reduceEqDiff, not_false_eq_true]
  · rw [G6 295 0 (by omega), hK2]; simp only [up_a, up_k, up_eq, Nat.reduceEqDiff, not_false_eq_true]
  · rw [G6 296 0 (by omega), hK2]; simp only [up_a, up_k, up_eq, Nat.reduceEqDiff, not_false_eq_true]
  · rw [G6 297 0 (by omega), hK2]; simp only [up_a, up_k, up_eq, Nat.reduceEqDiff, not_false_eq_true]
  · rw [G6 298 0 (by omega), hK2]; simp only [up_a, up_k, up_eq, Nat.reduceEqDiff, not_false_eq_true]
  · rw [G6 299 0 (by omega), hK2]; simp only [up_a, up_k, up_eq, Nat.reduceEqDiff, not_false_eq_true]
  · rw [hK6, gw_o (by decide), gw_o (by decide), gw_o (by decide), hK4, gw_o (by decide), gw_i hk]
  · rw [hK6, gw_o (by decide), gw_o (by decide), gw_o (by decide), hK4, gw_i hk]
  · rw [hK6, gw_o (by decide), gw_o (by decide), gw_i hk]
  · rw [hK6, gw_o (by decide), gw_i hk]
  · rw [hK6, gw_i hk]
  · intro a k h
    rw [G6 a k (by omega), O2 a k (by omega)]
    exact O1 a k (by omega)
end BG
