/-! AN APPEAL FROM NOW: class and model alike -/
section AP
variable {n d a b T c s t z o w m p lev k side ap b0 b1 N q B : Nat} {I J K I1 I2 : Nat → Nat → Int32} {L L' : Nat → Nat → Int64} {R R' : Nat → Nat → Option Nat} {nc ns : Nat} {nx : Bool} {x y j v u code : Int32} {P : Nat → Nat → Prop} {h' : ip_H}
theorem e99 (hR : LYR R) (rT : R 2 4 = some T) (hw : w < 40) (hq : q < 40) (e7 : I 2 7 = Int32.ofNat w) (ha : (I (65 + 5 * w) 1 = -1 ∧ B = 65 + 5 * w) ∨ (I (65 + 5 * w) 1 = Int32.ofNat q ∧ B = 65 + 5 * q)) : cf (d + 1) 99 [.ref 2] (SH n, I, L, R, nc, ns, nx) = rf_k (d + 1) 99 42 [some (.ref 2), some (.ref (65 + 5 * w)), some (.ref B)] [] (cf d 100 [.ref 24, .ref T, .ref (65 + 5 * w), .ref B] (SH n, I, L, R, nc, ns, nx)) := by
  have b0 := (nu_inb (t := w) (k := 40) (by omega)).mpr hw
  have b1 := (nu_inb (t := q) (k := 40) (by omega)).mpr hq
  have n0 := nd_of (k := w) (by omega)
  have n1 := nd_of (k := q) (by omega)
  have i0 := isN_nd hw
  have i1 := isN_nd hq
  have hC : isC 24 := Or.inl rfl
  rcases ha with ⟨h1, h2⟩ | ⟨h1, h2⟩
  · subst h2
    simp only [en99, e99_0, e99_1, e99_4, e99_5, e99_8, e99_9, e99_10, e99_11, e99_14, e99_15, e99_18, e99_19, e99_22, e99_23, e99_26, e99_27, e99_30, e99_31, e99_32, e99_33, e99_36, e99_37, e99_40, e99_41, e99_42, rk_n, rk_v, nl_n, nl_i, nl_r, cat_n, ip_cat_int, ip_cat_ref, ip_cat_long, ip_rf_some, Nat.reduceAdd, Nat.reduceLeDiff, Nat.reduceLT, Nat.le_refl, Nat.zero_le, hR, rT, e7, b0, n0, i0, h1, hC, Bool.false_eq_true, Bool.true_eq_false, if_true, if_false, not_true_eq_false, not_false_eq_true, zle, eq_self]
  · subst h2
    have m1 : (Int32.ofNat q = -1) = False := eq_false (nu_m1 (by omega))
    simp only [en99, e99_0, e99_1, e99_4, e99_5, e99_8, e99_9, e99_10, e99_11, e99_14, e99_15, e99_18, e99_19, e99_22, e99_23, e99_26, e99_27, e99_30, e99_31, e99_32, e99_33, e99_36, e99_37, e99_40, e99_41, e99_42, rk_n, rk_v, nl_n, nl_i, nl_r, cat_n, ip_cat_int, ip_cat_ref, ip_cat_long, ip_rf_some, Nat.reduceAdd, Nat.reduceLeDiff, Nat.reduceLT, Nat.le_refl, Nat.zero_le, hR, rT, e7, b0, n0, i0, b1, n1, i1, h1, m1, hC, Bool.false_eq_true, Bool.true_eq_false, if_true, if_false, not_true_eq_false, not_false_eq_true, zle, eq_self]
theorem k99 {ls : List (Option Value)} (e : rf_k (d + 1) 99 42 ls [] (some (.inl (some (.int 1)), h')) = rf_k (d + 1) 99 42 ls [] (some (.inl (some (.int 1)), h'))) : rf_k (d + 1) 99 42 ls [] (some (.inl (some (.int 1)), h')) = some (.inl none, h') := by
  simp only [rk_v, Nat.reduceAdd, e99_45, e99_59, Bool.false_eq_true, Bool.true_eq_false, if_true, if_false, not_true_eq_false, not_false_eq_true, zle, eq_self]
theorem k99x {ls : List (Option Value)} : rf_k (d + 1) 99 42 ls [] (some (.inl (some (.int 0)), h')) = some (.inr "java/lang/IllegalStateException", ip_hx h') := by
  simp only [rk_v, Nat.reduceAdd, e99_45, e99_48, Bool.false_eq_true, Bool.true_eq_false, if_true, if_false, not_true_eq_false, not_false_eq_true, zle, eq_self]
/-- what an appeal from now is about -/
theorem APPs (X : REL T c N w t p I L R) : ∃ q B, q < 40 ∧ isN B ∧ 65 ≤ B ∧ ND c q I ∧ ((I (65 + 5 * w) 1 = -1 ∧ B = 65 + 5 * w) ∨ (I (65 + 5 * w) 1 = Int32.ofNat q ∧ B = 65 + 5 * q)) ∧ (∀ lev, lev = 1 ∨ (lev = 2 ∧ ¬ I 289 w = 0) → CNd (65 + 5 * w) B c lev (VI I w q) (flI I w) I ∧ MNd w q lev (VI I w q) (flI I w) I) := by
  obtain ⟨x1, x2, ⟨⟨n1, n2, n3⟩, ⟨y1, y2⟩, ⟨y3, y4⟩, y5⟩, x4, x5, x6, x7⟩ := X
  have hc8 : c ≤ 8 := x2.2.2.2.1
  have W := y5 w n3
  obtain ⟨h1, h2, h3⟩ := W.2.1
  by_cases w0 : w = 0
  · refine ⟨w, 65 + 5 * w, by omega, isN_nd (by omega), by omega, W, Or.inl ⟨h1.trans (h2 w0).1, rfl⟩, ?_⟩
    intro lev hl
    have l1 : lev = 1 := by
      rcases hl with hl | hl
      · exact hl
      · exact absurd (h2 w0).2.2 hl.2
    exact ⟨ND_C hc8 (by omega) (by omega) (isN_nd (by omega)) W W (fun e => by omega), ND_M hc8 (by omega) (by omega) W W y4 (fun e => by omega)⟩
  · obtain ⟨q, hq, e1, -⟩ := h3 (by omega)
    refine ⟨q, 65 + 5 * q, by omega, isN_nd (by omega), by omega, y5 q (by omega), Or.inr ⟨h1.trans e1, rfl⟩, ?_⟩
    intro lev hl
    exact ⟨ND_C hc8 (by omega) (by omega) (isN_nd (by omega)) W (y5 q (by omega)) (fun _ => rfl), ND_M hc8 (by omega) (by omega) W (y5 q (by omega)) y4 (fun _ => e1)⟩
/-- either one can be made, or none, in both -/
theorem APP (X : REL T c N w t p I L R) (n nc ns : Nat) (nx : Bool)   : ∃ q B, q < 40 ∧ isN B ∧ 65 ≤ B ∧ ND c q I ∧
    ((∃ lev ap J, (lev = 1 ∨ lev = 2) ∧ ap < 2 ∧ (lev = 1 ↔ I 289 w = 0) ∧ sureI (winL L T) (VI I w q 4) (VI I w q 6) = Int32.ofNat (1 - ap) ∧ (∀ j, VI I w q j < 2 ^ c) ∧
        (∀ d, cf (d + 4) 99 [.ref 2] (SH n, I, L, R, nc, ns, nx) = some (.inl none, (SH n, J, L, sitR R 24 T (65 + 5 * w) B, nc, ns, nx))) ∧ onlyP (atS 24) I J ∧
        CNd (65 + 5 * w) B c lev (VI I w q) (flI I w) J ∧ CTx T c (stdI I) (rstI I) (I 277) (winL L T) J L ∧ SIT 24 T (65 + 5 * w) B c (stdI I) (rstI I) (I 277) (winL L T) (VI I w q) (flI I w) lev ap J (sitR R 24 T (65 + 5 * w) B) ∧
        (∀ K L' R' nc' ns' nx', LYR R' → (∀ a k, 265 ≤ a → ¬ (a = 265 ∧ k = 0) → K a k = I a k) → MTx c (stdI I) (rstI I) (I 277) (winL L T) K ∧ MNd w q lev (VI I w q) (flI I w) K ∧ (∀ d, cf (d + 4) 232 [.ref 265] (SH n, K, L', R', nc', ns', nx') = some (.inl (some (.int 1)), (SH n, layI K lev ap (heardN c (stdI I) (rstI I) (I 277) (winL L T) (VI I w q) (flI I w) lev 0) (heardN c (stdI I) (rstI I) (I 277) (winL L T) (VI I w q) (flI I w) lev 1), L', R', nc', ns', nx')))))
    ∨ ((∀ d, cf (d + 4) 99 [.ref 2] (SH n, I, L, R, nc, ns, nx) = some (.inr "java/lang/IllegalStateException", ip_hx (SH n, I, L, sitR R 24 T (65 + 5 * w) B, nc, ns, nx))) ∧
        (∀ K L' R' nc' ns' nx', LYR R' → (∀ a k, 265 ≤ a → ¬ (a = 265 ∧ k = 0) → K a k = I a k) → ∀ d, cf (d + 4) 232 [.ref 265] (SH n, K, L', R', nc', ns', nx') = some (.inl (some (.int 0)), (SH n, ip_up K 265 58 (-1), L', R', nc', ns', nx'))))) := by
  obtain ⟨q, B, hq, nB, hB, Q, ha, PI⟩ := APPs X
  have X0 := X
  have XC := REL_C X
  have XM := REL_M X
  obtain ⟨x1, x2, ⟨⟨n1, n2, n3⟩, ⟨y1, y2⟩, ⟨y3, y4⟩, y5⟩, x4, x5, x6, x7⟩ := X
  have hc8 : c ≤ 8 := x2.2.2.2.1
  have P8 := p2le hc8
  have W := y5 w n3
  have Wl := W.1
  have Wh := W.2.2.1
  have Wm := W.2.2.2.1
  have md := inb_sN Wm.2.1
  have md8 : sN (I 292 w) < 256 := by omega
  have vlt := VI_lt hc8 W Q
  have E99 := fun d => e99 (d := d) (n := n) (L := L) (nc := nc) (ns := ns) (nx := nx) x1 x2.2.1 (show w < 40 by omega) hq y3 ha
  have hC : isC 24 := Or.inl rfl
  have MT : ∀ K, (∀ a k, 265 ≤ a → ¬ (a = 265 ∧ k = 0) → K a k = I a k) → MTx c (stdI I) (rstI I) (I 277) (winL L T) K := by
    intro K hK
    obtain ⟨z1, z2, z3, z4, z5, z6⟩ := XM
    refine ⟨z1, by rw [hK 265 17 (by omega) (by omega)]; exact z2, ?_, ?_, ?_, ?_⟩
    · intro k hk; rw [hK 275 k (by omega) (by omega)]; exact z3 k hk
    · intro k hk; rw [hK 276 k (by omega) (by omega)]; exact z4 k hk
    · intro k hk; rw [hK 277 k (by omega) (by omega)]
    · intro k hk; rw [hK 287 k (by omega) (by omega)]; exact z6 k hk
  have MN : ∀ lev K, (lev = 1 ∨ (lev = 2 ∧ ¬ I 289 w = 0)) → (∀ a k, 265 ≤ a → ¬ (a = 265 ∧ k = 0) → K a k = I a k) → MNd w q lev (VI I w q) (flI I w) K := by
    intro lev K hl hK
    obtain ⟨h1, h2, h3, h4, h5, h6, h7, h8, h9, h10, h11⟩ := (PI lev hl).2
    refine ⟨h1, ?_, h3, ?_, ?_, ?_, ?_, ?_, ?_, ?_, ?_⟩
    · rw [hK _ _ (by omega) (by omega)]; exact h2
    · rw [hK _ _ (by omega) (by omega)]; exact h4
    · rw [hK _ _ (by omega) (by omega)]; exact h5
    · rw [hK _ _ (by omega) (by omega)]; exact h6
    · rw [hK _ _ (by omega) (by omega)]; exact h7
    · rw [hK _ _ (by omega) (by omega)]; exact h8
    · intro s hs; rw [hK _ _ (by omega) (by omega), hK _ _ (by omega) (by omega)]; exact h9 s hs
    · intro k hk; rw [hK _ _ (by omega) (by omega)]; exact h10 k hk
    · intro e; rw [hK _ _ (by omega) (by omega), hK _ _ (by omega) (by omega)]; exact h11 e
  have V6 : VI I w q 6 = sN (I 293 w) := rfl
  refine ⟨q, B, hq, nB, hB, Q, ?_⟩
  have S3 : sureI (winL L T) (VI I w q 4) (VI I w q 6) = 0 ∨ sureI (winL L T) (VI I w q 4) (VI I w q 6) = 1 ∨ sureI (winL L T) (VI I w q 4) (VI I w q 6) = -1 := sure_3
  have LV : levI (I 289 w) (I 291 w) (VI I w q 6) (sN (I 292 w)) = -1 ∨ (levI (I 289 w) (I 291 w) (VI I w q 6) (sN (I 292 w)) = Int32.ofNat 1 ∧ I 289 w = 0) ∨ (levI (I 289 w) (I 291 w) (VI I w q 6) (sN (I 292 w)) = Int32.ofNat 2 ∧ ¬ I 289 w = 0) := by
    unfold levI
    by_cases g : I 289 w = 0
    · rw [if_pos g]
      split
      · exact Or.inr (Or.inl ⟨rfl, g⟩)
      · exact Or.inl rfl
    · rw [if_neg g]
      split
      · exact Or.inr (Or.inr ⟨rfl, g⟩)
      · exact Or.inl rfl
  by_cases neg : levI (I 289 w) (I 291 w) (VI I w q 6) (sN (I 292 w)) = -1 ∨ sureI (winL L T) (VI I w q 4) (VI I w q 6) = -1
  · right
    obtain ⟨N1, M1⟩ := PI 1 (Or.inl rfl)
    refine ⟨fun d => ?_, fun K L' R' nc' ns' nx' hR' hK d => ?_⟩
    · rw [E99 (d + 3), b100 (d := d + 2) x1 hC XC N1 Wl.1 Wh.1 (Wm.1.trans md.1) md8 neg, k99x]
    · refine b232 (d := d + 2) hR' (MT K hK) (MN 1 K (Or.inl rfl) hK) (by rw [hK _ _ (by omega) (by omega)]) (by rw [hK _ _ (by omega) (by omega)]) (by rw [hK _ _ (by omega) (by omega)]; exact md.1) md8 ?_
      unfold levS
      rcases neg with e | e
      · rw [e]; split <;> rfl
      · rw [if_pos e]
  · left
    have nS : ¬ sureI (winL L T) (VI I w q 4) (VI I w q 6) = -1 := fun e => neg (Or.inr e)
    have nL : ¬ levI (I 289 w) (I 291 w) (VI I w q 6) (sN (I 292 w)) = -1 := fun e => neg (Or.inl e)
    obtain ⟨ap, a2, hS⟩ : ∃ ap, ap < 2 ∧ sureI (winL L T) (VI I w q 4) (VI I w q 6) = Int32.ofNat (1 - ap) := by
      rcases S3 with e | e | e
      · exact ⟨1, by omega, e⟩
      · exact ⟨0, by omega, e⟩
      · exact absurd e nS
    obtain ⟨lev, hl, hl2, hL, iff1⟩ : ∃ lev, (lev = 1 ∨ lev = 2) ∧ (lev = 1 ∨ (lev = 2 ∧ ¬ I 289 w = 0)) ∧ levI (I 289 w) (I 291 w) (VI I w q 6) (sN (I 292 w)) = Int32.ofNat lev ∧ (lev = 1 ↔ I 289 w = 0) := by
      rcases LV with e | ⟨e, g⟩ | ⟨e, g⟩
      · exact absurd e nL
      · exact ⟨1, Or.inl rfl, Or.inl rfl, e, by simp [g]⟩
      · exact ⟨2, Or.inr rfl, Or.inr ⟨rfl, g⟩, e, by simp [g]⟩
    obtain ⟨N1, M1⟩ := PI lev hl2
    obtain ⟨J, hJ, oJ, SJ⟩ := c100 (d := 0) (n := n) (nc := nc) (ns := ns) (nx := nx) (ap := ap) x1 hC XC N1 hl Wl.1 Wh.1 (Wm.1.trans md.1) md8 hL hS
    refine ⟨lev, ap, J, hl, a2, iff1, hS, vlt, fun d => ?_, oJ, CNd_P oJ (fun i hi => atS_N hC N1.1 i (by omega)) (atS_N hC nB 0 (by omega) 7) N1, CTx_P oJ (atS_T hC XC.1) XC, SJ, fun K L' R' nc' ns' nx' hR' hK => ⟨MT K hK, MN lev K hl2 hK, fun d => ?_⟩⟩
    · rw [E99 (d + 3), cf_le hJ (show 3 ≤ d + 3 by omega), k99 rfl]
    · refine c232 (d := d) hR' (MT K hK) (MN lev K hl2 hK) (by rw [hK _ _ (by omega) (by omega)]) (by rw [hK _ _ (by omega) (by omega)]) (by rw [hK _ _ (by omega) (by omega)]; exact md.1) md8 hl ?_ a2 hS
      unfold levS
      rw [if_neg nS]
      exact hL
end AP
