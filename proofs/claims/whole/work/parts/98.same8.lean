/-! CALL BY CALL: leak, keep, rule: the node at hand changes -/
section S8
variable {n d a b T c s t z o w m p lev k side ap b0 b1 N q B C F A : Nat} {I J K M I1 I2 : Nat → Nat → Int32} {L L' : Nat → Nat → Int64} {R R' : Nat → Nat → Option Nat} {nc ns : Nat} {nx : Bool} {x y j v u code x1 x2 x3 : Int32} {P : Nat → Nat → Prop} {h' h : ip_H}
def atW (w a k : Nat) : Prop := (65 + 5 * w ≤ a ∧ a ≤ 65 + 5 * w + 4) ∨ atQ w a k ∨ (a = 265 ∧ k = 0)
theorem ND_ne (c8 : c ≤ 8) (hk : k < 40) (hw : w < 40) (hne : ¬ k = w) (X : ND c k I) (H : onlyP (atW w) I J) (h11 : J (65 + 5 * w) 11 = I (65 + 5 * w) 11) (h289 : J 289 w = I 289 w) : ND c k J := by
  have A11 : ∀ i, i < 40 → J (65 + 5 * i) 11 = I (65 + 5 * i) 11 := by
    intro i hi
    by_cases e : i = w
    · subst e; exact h11
    · exact H _ _ (by unfold atW atQ; omega)
  have C9 : ∀ i, J 289 i = I 289 i := by
    intro i
    by_cases e : i = w
    · subst e; exact h289
    · exact H _ _ (by unfold atW atQ; omega)
  have Ak : ∀ j, J (65 + 5 * k) j = I (65 + 5 * k) j := fun j => H _ _ (by unfold atW atQ; omega)
  have B1 : ∀ j, J (65 + 5 * k + 1) j = I (65 + 5 * k + 1) j := fun j => H _ _ (by unfold atW atQ; omega)
  have B2 : ∀ j, J (65 + 5 * k + 2) j = I (65 + 5 * k + 2) j := fun j => H _ _ (by unfold atW atQ; omega)
  have B3 : ∀ j, J (65 + 5 * k + 3) j = I (65 + 5 * k + 3) j := fun j => H _ _ (by unfold atW atQ; omega)
  have B4 : ∀ j, J (65 + 5 * k + 4) j = I (65 + 5 * k + 4) j := fun j => H _ _ (by unfold atW atQ; omega)
  have C : ∀ e, 289 ≤ e → e ≤ 299 → J e k = I e k := fun e h1 h2 => H _ _ (by unfold atW atQ; omega)
  have E0 : ∀ s, s < 2 → J 300 (2 * k + s) = I 300 (2 * k + s) ∧ J 301 (2 * k + s) = I 301 (2 * k + s) := fun s hs => ⟨H _ _ (by unfold atW atQ; omega), H _ _ (by unfold atW atQ; omega)⟩
  have E2 : ∀ i, i < c → J 302 (8 * k + i) = I 302 (8 * k + i) ∧ J 303 (8 * k + i) = I 303 (8 * k + i) ∧ J 304 (8 * k + i) = I 304 (8 * k + i) := fun i hi => ⟨H _ _ (by unfold atW atQ; omega), H _ _ (by unfold atW atQ; omega), H _ _ (by unfold atW atQ; omega)⟩
  unfold ND at X ⊢
  rw [C9, Ak, Ak, Ak, Ak, Ak, Ak, Ak, Ak, Ak, Ak, Ak, Ak, C 290 (by omega) (by omega), C 291 (by omega) (by omega), C 292 (by omega) (by omega), C 293 (by omega) (by omega), C 294 (by omega) (by omega), C 295 (by omega) (by omega), C 296 (by omega) (by omega), C 297 (by omega) (by omega), C 298 (by omega) (by omega), C 299 (by omega) (by omega)]
  obtain ⟨x1, ⟨x2, x3, x4⟩, x5, x6, x7, x8, x9, x10, x11, x12, x13, x14, x15, x16, x17⟩ := X
  refine ⟨x1, ⟨x2, x3, ?_⟩, x5, x6, x7, x8, x9, x10, x11, x12, x13, x14, x15, ?_, ?_⟩
  · intro h0
    obtain ⟨q, h1, h2, h3⟩ := x4 h0
    exact ⟨q, h1, h2, by rw [A11 q (by omega)]; exact h3⟩
  · intro s hs
    rw [B1, B2, (E0 s hs).1, (E0 s hs).2]
    exact x16 s hs
  · intro i hi
    rw [(E2 i hi).1, (E2 i hi).2.1, (E2 i hi).2.2, B3, B4]
    refine ⟨(x17 i hi).1, fun h => ?_⟩
    obtain ⟨h1, q, h2, h3, h4, h5⟩ := (x17 i hi).2 h
    exact ⟨h1, q, h2, h3, h4, by rw [C9]; exact h5⟩
theorem REL_N (X : REL T c N w t p I L R) (H : onlyP (atW w) I J) (h11 : J (65 + 5 * w) 11 = I (65 + 5 * w) 11) (h289 : J 289 w = I 289 w) (NW : ND c w J) (HL : ∀ a k, ¬ a = 307 → L' a k = L a k) : REL T c N w t p J L' R := by
  obtain ⟨x1, x2, ⟨⟨n1, n2, n3⟩, ⟨y1, y2⟩, ⟨y3, y4⟩, y5⟩, x4, x5, x6, x7⟩ := X
  have tt := x2.1
  have hc8 : c ≤ 8 := x2.2.2.2.1
  refine ⟨x1, RTx_P x2 H (fun a k h e => by unfold atW atQ at e; omega) (fun a k h => HL a k (by omega)) rfl rfl, ⟨⟨n1, n2, n3⟩, ⟨?_, ?_⟩, ⟨?_, ?_⟩, ?_⟩, RTa_P x4 H (fun a k h e => by unfold atW atQ at e; omega), RPa_P x5 H (fun a k h e => by unfold atW atQ at e; omega), ?_, fun k hk => by rw [HL 1 k (by omega)]; exact x7 k hk⟩
  · rw [H 2 6 (by unfold atW atQ; omega)]; exact y1
  · rw [H 265 37 (by unfold atW atQ; omega)]; exact y2
  · rw [H 2 7 (by unfold atW atQ; omega)]; exact y3
  · rw [H 265 38 (by unfold atW atQ; omega)]; exact y4
  · intro k hk
    by_cases e : k = w
    · subst e; exact NW
    · exact ND_ne hc8 (by omega) (by omega) e (y5 k hk) H h11 h289
  · rw [H 2 2 (by unfold atW atQ; omega), H 265 5 (by unfold atW atQ; omega)]; exact x6
def zb (b : Int32) : Int64 := if b = 0 then 0 else 1
/-- an issue, in both -/
theorem issC (X : REL T c N w t p I L R) : (∃ k, k < c ∧ x = Int32.ofNat k ∧ (∀ d n nc ns nx, cf d 75 [.ref 2, .int x] (SH n, I, L, R, nc, ns, nx) = some (.inl none, (SH n, I, L, R, nc, ns, nx))) ∧ (∀ d n K L' R' nc' ns' nx', K 265 17 = I 265 17 → cf (d + 1) 216 [.ref 265, .int x] (SH n, K, L', R', nc', ns', nx') = some (.inl (some (.int 1)), (SH n, K, L', R', nc', ns', nx')))) ∨ ((∀ d n nc ns nx, cf d 75 [.ref 2, .int x] (SH n, I, L, R, nc, ns, nx) = some (.inr "java/lang/IndexOutOfBoundsException", ip_hx (SH n, I, L, R, nc, ns, nx))) ∧ (∀ d n K L' R' nc' ns' nx', K 265 17 = I 265 17 → cf (d + 1) 216 [.ref 265, .int x] (SH n, K, L', R', nc', ns', nx') = some (.inl (some (.int 0)), (SH n, K, L', R', nc', ns', nx')))) := by
  have hT : isT T := (REL_C X).1
  obtain ⟨hR, ⟨tt, rT, -, hc8, i6, i17, -⟩, -⟩ := X
  by_cases g : ¬ x < 0 ∧ x < Int32.ofNat c
  · left
    obtain ⟨k, h1, h2⟩ := (is_k (by omega)).mp g
    refine ⟨k, h1, h2, fun d n nc ns nx => c75 rT hT g.1 (by rw [i6]; exact g.2), fun d n K L' R' nc' ns' nx' hK => c216 g.1 (by rw [hK, i17, pr_n (by omega)]; exact fun e => e g.2)⟩
  · right
    have g' := no_k g
    exact ⟨fun d n nc ns nx => x75 rT hT (by rw [i6]; exact g'), fun d n K L' R' nc' ns' nx' hK => b216 (by rw [hK, i17, pr_n (by omega)]; exact g')⟩
/-- a node, in both -/
theorem nodC (X : REL T c N w t p I L R) : (∃ k, k < N ∧ x = Int32.ofNat k ∧ (∀ d n nc ns nx, cf d 124 [.ref 2, .int x] (SH n, I, L, R, nc, ns, nx) = some (.inl none, (SH n, I, L, R, nc, ns, nx))) ∧ (∀ d n K L' R' nc' ns' nx', K 265 37 = I 265 37 → cf (d + 1) 244 [.ref 265, .int x] (SH n, K, L', R', nc', ns', nx') = some (.inl (some (.int 1)), (SH n, K, L', R', nc', ns', nx')))) ∨ ((∀ d n nc ns nx, cf d 124 [.ref 2, .int x] (SH n, I, L, R, nc, ns, nx) = some (.inr "java/lang/IndexOutOfBoundsException", ip_hx (SH n, I, L, R, nc, ns, nx))) ∧ (∀ d n K L' R' nc' ns' nx', K 265 37 = I 265 37 → cf (d + 1) 244 [.ref 265, .int x] (SH n, K, L', R', nc', ns', nx') = some (.inl (some (.int 0)), (SH n, K, L', R', nc', ns', nx')))) := by
  obtain ⟨x1, x2, ⟨⟨n1, n2, n3⟩, ⟨y1, y2⟩, ⟨y3, y4⟩, y5⟩, x4, x5, x6, x7⟩ := X
  by_cases g : ¬ x < 0 ∧ x < Int32.ofNat N
  · left
    obtain ⟨k, h1, h2⟩ := (is_k (by omega)).mp g
    refine ⟨k, h1, h2, fun d n nc ns nx => c124 g.1 (by rw [y1]; exact g.2), fun d n K L' R' nc' ns' nx' hK => c244 g.1 (by rw [hK, y2, pr_n (by omega)]; exact fun e => e g.2)⟩
  · right
    have g' := no_k g
    exact ⟨fun d n nc ns nx => x124 (by rw [y1]; exact g'), fun d n K L' R' nc' ns' nx' hK => b244 (by rw [hK, y2, pr_n (by omega)]; exact g')⟩
/-- LEAK -/
theorem S10 : SAMEX 94 229 [.int x1] zb := by
  intro n I L R nc ns nx T c N w t p X
  have X0 := X
  have hR := X.1
  have hc8 : c ≤ 8 := X.2.1.2.2.2.1
  have P8 := p2le hc8
  obtain ⟨⟨n1, n2, n3⟩, ⟨y1, y2⟩, ⟨y3, y4⟩, y5⟩ := X.2.2.1
  have W := y5 w n3
  have b0 := (nu_inb (t := w) (k := 40) (by omega)).mpr (by omega)
  have e1 := nd_of (k := w) (by omega)
  have iw := isN_nd (k := w) (by omega)
  have lw : w < 2147483648 := by omega
  have w40 : w < 40 := by omega
  obtain ⟨q1, q2, q3, q4, q5, q6, q7, q8, q9, q10, q11, q12, q13, q14, q15⟩ := W
  obtain ⟨s7, l7⟩ := inb_sN q9.2
  obtain ⟨s8, l8⟩ := inb_sN q10.2
  have i7 : I (65 + 5 * w) 7 = Int32.ofNat (sN (I 294 w)) := q9.1.trans s7
  have i8 : I (65 + 5 * w) 8 = Int32.ofNat (sN (I 295 w)) := q10.1.trans s8
  generalize hS7 : sN (I 294 w) = S7 at s7 l7 i7
  generalize hS8 : sN (I 295 w) = S8 at s8 l8 i8
  rcases issC (x := x1) X with ⟨k, hk, rfl, C1, M1⟩ | ⟨C1, M1⟩
  · have k8 : k < 8 := by omega
    have bt7 := bit_2 (s := S7) (k := k) (by omega) k8
    have bt8 := bit_2 (s := S8) (k := k) (by omega) k8
    have hb7 := fun d h => hasB (d := d) (h := h) (s := S7) (k := k) (by omega) k8
    have hb8 := fun d h => hasB (d := d) (h := h) (s := S8) (k := k) (by omega) k8
    by_cases g : I 289 w = 0 ∧ (S7).testBit k = true
    · obtain ⟨g1, g2⟩ := g
      have p2k : 2 ^ k < 2 ^ c := Nat.pow_lt_pow_right (by omega) hk
      generalize hI1 : ip_up I (65 + 5 * w) 8 (Int32.ofNat (S8 ||| 2 ^ k)) = I1
      generalize hI2 : ip_up (ip_up I1 265 0 0) 295 w (Int32.ofNat (S8 ||| 2 ^ k)) = I2
      have ag : ∀ a j, 265 ≤ a → I1 a j = I a j := by intro a j h; rw [← hI1, up_a (by omega)]
      have FIN : onlyP (atW w) I I2 := by
        rw [← hI2, ← hI1]
        exact onlyP_up (onlyP_up (onlyP_up onlyP_refl (by unfold atW; omega)) (by unfold atW; omega)) (by unfold atW atQ; omega)
      have cl : ∀ a j, ¬ (a = 65 + 5 * w ∧ j = 8) → ¬ (a = 295 ∧ j = w) → ¬ (a = 265 ∧ j = 0) → I2 a j = I a j := by
        intro a j h1 h2 h3
        have u1 : I2 a j = ip_up I1 265 0 0 a j := by
          rw [← hI2]
          by_cases e : a = 295
          · subst e; exact up_k (fun e => h2 ⟨rfl, e⟩)
          · exact up_a e
        have u2 : ip_up I1 265 0 0 a j = I1 a j := by
          by_cases e : a = 265
          · subst e; exact up_k (fun e => h3 ⟨rfl, e⟩)
          · exact up_a e
        rw [u1, u2, ← hI1]
        by_cases e : a = 65 + 5 * w
        · subst e; exact up_k (fun e => h1 ⟨rfl, e⟩)
        · exact up_a e
      have v8 : I2 (65 + 5 * w) 8 = Int32.ofNat (S8 ||| 2 ^ k) := by rw [← hI2, up_a (by omega), up_a (by omega), ← hI1, up_eq]
      have m8 : I2 295 w = Int32.ofNat (S8 ||| 2 ^ k) := by rw [← hI2, up_eq]
      have NEW : ND c w I2 := by
        have C := fun a (h1 : 289 ≤ a) (h2 : a ≤ 299) (h3 : ¬ a = 295) => cl a w (by omega) (by omega) (by omega)
        have D := fun j (h : ¬ j = 8) => cl (65 + 5 * w) j (by omega) (by omega) (by omega)
        unfold ND
        rw [C 289 (by omega) (by omega) (by omega), D 0 (by omega), D 1 (by omega), D 2 (by omega), D 3 (by omega), D 4 (by omega), D 5 (by omega), D 6 (by omega), D 7 (by omega), D 9 (by omega), D 10 (by omega), D 11 (by omega), C 290 (by omega) (by omega) (by omega), C 291 (by omega) (by omega) (by omega), C 292 (by omega) (by omega) (by omega), C 293 (by omega) (by omega) (by omega), C 294 (by omega) (by omega) (by omega), C 296 (by omega) (by omega) (by omega), C 297 (by omega) (by omega) (by omega), C 298 (by omega) (by omega) (by omega), C 299 (by omega) (by omega) (by omega), v8, m8]
        refine ⟨q1, ⟨q2.1, q2.2.1, ?_⟩, q3, q4, q5, q6, q7, q8, q9, ⟨rfl, inb_of (Nat.or_lt_two_pow l8 p2k) P8⟩, q11, q12, q13, ?_, ?_⟩
        · intro h0
          obtain ⟨q, h1, h2, h3⟩ := q2.2.2 h0
          exact ⟨q, h1, h2, by rw [cl (65 + 5 * q) 11 (by omega) (by omega) (by omega)]; exact h3⟩
        · intro s hs
          rw [cl _ _ (by omega) (by omega) (by omega), cl _ _ (by omega) (by omega) (by omega), cl _ _ (by omega) (by omega) (by omega), cl _ _ (by omega) (by omega) (by omega)]
          exact q14 s hs
        · intro i hi
          rw [cl 302 _ (by omega) (by omega) (by omega), cl 303 _ (by omega) (by omega) (by omega), cl 304 _ (by omega) (by omega) (by omega), cl (65 + 5 * w + 3) _ (by omega) (by omega) (by omega), cl (65 + 5 * w + 4) _ (by omega) (by omega) (by omega)]
          refine ⟨(q15 i hi).1, fun h => ?_⟩
          obtain ⟨h1, q, h2, h3, h4, h5⟩ := (q15 i hi).2 h
          exact ⟨h1, q, h2, h3, h4, by rw [cl 289 q (by omega) (by omega) (by omega)]; exact h5⟩
      obtain ⟨u0, hu⟩ : ∃ u0 : Int32, u0 = (if (S8).testBit k = true then 0 else 1) := ⟨_, rfl⟩
      refine ⟨0, u0, I1, I2, ip_up L 307 0 (zb u0), ip_up L 307 0 (zb u0), R, nc, ns, nx, T, c, N, w, t, p, fun d => ?_, fun d => ?_, ?_, fun _ => by rw [up_eq], REL_N X0 FIN (cl _ _ (by omega) (by omega) (by omega)) (cl _ _ (by omega) (by omega) (by omega)) NEW L307, by omega, by omega, fun i => cl 0 i (by omega) (by omega) (by omega)⟩
      · refine w94 (d := d + 13) ?_
        rw [hu, ← hI1]
        by_cases g3 : (S8).testBit k = true
        · simp only [en95, e95_0, e95_1, e95_2, e95_5, e95_6, e95_9, e95_10, e95_13, e95_14, e95_15, e95_16, e95_17, e95_18, e95_19, e95_20, e95_23, e95_26, e95_27, e95_30, e95_31, e95_32, e95_35, e95_45, e95_46, e95_49, e95_50, e95_51, e95_54, e95_55, e95_58, e95_59, e95_61, e95_62, e95_62r, e95_63, e95_66, e95_67, e95_68, e95_71, e95_73, rk_n, rk_v, nl_n, nl_i, nl_r, cat_n, ip_cat_int, ip_cat_ref, ip_cat_long, ip_rf_some, Nat.reduceAdd, Nat.reduceLeDiff, Nat.reduceLT, Nat.le_refl, Nat.zero_le, hR, C1, y3, b0, e1, iw, q1.1, g1, k8, sh1, i7, i8, bt7, bt8, g2, g3, of_or, true_or, or_true, Bool.false_eq_true, Bool.true_eq_false, if_true, if_false, not_true_eq_false, not_false_eq_true, zle, eq_self]
        · simp only [en95, e95_0, e95_1, e95_2, e95_5, e95_6, e95_9, e95_10, e95_13, e95_14, e95_15, e95_16, e95_17, e95_18, e95_19, e95_20, e95_23, e95_26, e95_27, e95_30, e95_31, e95_32, e95_35, e95_45, e95_46, e95_49, e95_50, e95_51, e95_54, e95_55, e95_58, e95_59, e95_61, e95_62, e95_62r, e95_63, e95_66, e95_67, e95_68, e95_71, e95_73, rk_n, rk_v, nl_n, nl_i, nl_r, cat_n, ip_cat_int, ip_cat_ref, ip_cat_long, ip_rf_some, Nat.reduceAdd, Nat.reduceLeDiff, Nat.reduceLT, Nat.le_refl, Nat.zero_le, hR, C1, y3, b0, e1, iw, q1.1, g1, k8, sh1, i7, i8, bt7, bt8, g2, g3, of_or, true_or, or_true, Bool.false_eq_true, Bool.true_eq_false, if_true, if_false, not_true_eq_false, not_false_eq_true, zle, eq_self]
      · have a38 : I1 265 38 = Int32.ofNat w := (ag _ _ (by omega)).trans y4
        have a289 : I1 289 w = 0 := (ag _ _ (by omega)).trans g1
        have a294 : I1 294 w = Int32.ofNat (S7) := (ag _ _ (by omega)).trans s7
        have a295 : I1 295 w = Int32.ofNat (S8) := (ag _ _ (by omega)).trans s8
        have k17 : I1 265 17 = I 265 17 := ag _ _ (by omega)
        by_cases g3 : (S8).testBit k = true
        · simp only [en229, e229_0, e229_1, e229_2, e229_3, e229_6, e229_9, e229_10, e229_13, e229_14, e229_17, e229_18, e229_21, e229_22, e229_25, e229_26, e229_29, e229_30, e229_33, e229_34, e229_35, e229_38, e229_41, e229_42, e229_45, e229_46, e229_49, e229_50, e229_53, e229_56, e229_57, e229_58, e229_59, e229_62, e229_63, e229_66, e229_67, e229_68, e229_71, e229_74, e229_75, e229_78, e229_79, e229_80, e229_81, e229_84, e229_85, e229_88, e229_89, e229_90, e229_91, e229_92, e229_93, e229_94, e229_95, e229_96, rk_n, rk_v, nl_n, nl_i, nl_r, cat_n, ip_cat_int, ip_cat_ref, ip_cat_long, ip_rf_some, Nat.reduceAdd, Nat.reduceLeDiff, Nat.reduceLT, Nat.le_refl, Nat.zero_le, hR, ia_lit, nu_i, nu_tn, lw, w40, M1 _ _ _ _ _ _ _ _ k17, a38, a289, a294, a295, hb7, hb8, ite_0, g2, g3, up_eq, up_a, up_k, Nat.reduceEqDiff, k8, sh1, of_or, true_or, or_true, Bool.false_eq_true, Bool.true_eq_false, if_true, if_false, not_true_eq_false, not_false_eq_true, zle, eq_self]
          rw [← hI2, hu, if_pos g3]
        · simp only [en229, e229_0, e229_1, e229_2, e229_3, e229_6, e229_9, e229_10, e229_13, e229_14, e229_17, e229_18, e229_21, e229_22, e229_25, e229_26, e229_29, e229_30, e229_33, e229_34, e229_35, e229_38, e229_41, e229_42, e229_45, e229_46, e229_49, e229_50, e229_53, e229_56, e229_57, e229_58, e229_59, e229_62, e229_63, e229_66, e229_67, e229_68, e229_71, e229_74, e229_75, e229_78, e229_79, e229_80, e229_81, e229_84, e229_85, e229_88, e229_89, e229_90, e229_91, e229_92, e229_93, e229_94, e229_95, e229_96, rk_n, rk_v, nl_n, nl_i, nl_r, cat_n, ip_cat_int, ip_cat_ref, ip_cat_long, ip_rf_some, Nat.reduceAdd, Nat.reduceLeDiff, Nat.reduceLT, Nat.le_refl, Nat.zero_le, hR, ia_lit, nu_i, nu_tn, lw, w40, M1 _ _ _ _ _ _ _ _ k17, a38, a289, a294, a295, hb7, hb8, ite_0, g2, g3, up_eq, up_a, up_k, Nat.reduceEqDiff, k8, sh1, of_or, true_or, or_true, Bool.false_eq_true, Bool.true_eq_false, if_true, if_false, not_true_eq_false, not_false_eq_true, zle, eq_self]
          rw [← hI2, hu, if_neg g3]
      · rw [← hI2, up_a (by decide), up_eq]
    · refine same_x (I1 := I) (I2 := ip_up I 265 0 2) (u := 0) (R1 := R) (code := 2) X0 (by decide) (fun d => ?_) onlyP_refl (fun _ _ _ => rfl) (fun d => ?_) scM_0 up_eq
      · refine w94x2 (d := d + 13) ?_
        by_cases g1 : I 289 w = 0
        · have g2 : ¬ (S7).testBit k = true := fun e => g ⟨g1, e⟩
          simp only [en95, e95_0, e95_1, e95_2, e95_5, e95_6, e95_9, e95_10, e95_13, e95_14, e95_15, e95_16, e95_17, e95_18, e95_19, e95_20, e95_23, e95_26, e95_27, e95_30, e95_31, e95_32, e95_35, e95_45, e95_46, e95_49, e95_50, e95_51, e95_54, e95_55, e95_58, e95_59, e95_61, e95_62, e95_62r, e95_63, e95_66, e95_67, e95_68, e95_71, e95_73, rk_n, rk_v, nl_n, nl_i, nl_r, cat_n, ip_cat_int, ip_cat_ref, ip_cat_long, ip_rf_some, Nat.reduceAdd, Nat.reduceLeDiff, Nat.reduceLT, Nat.le_refl, Nat.zero_le, hR, C1, y3, b0, e1, iw, q1.1, g1, k8, sh1, i7, bt7, g2, Bool.false_eq_true, Bool.true_eq_false, if_true, if_false, not_true_eq_false, not_false_eq_true, zle, eq_self]
          rfl
        · simp only [en95, e95_0, e95_1, e95_2, e95_5, e95_6, e95_9, e95_10, e95_13, e95_14, e95_15, e95_16, e95_17, e95_18, e95_19, e95_20, e95_23, e95_26, e95_27, e95_30, e95_31, e95_32, e95_35, e95_45, e95_46, e95_49, e95_50, e95_51, e95_54, e95_55, e95_58, e95_59, e95_61, e95_62, e95_62r, e95_63, e95_66, e95_67, e95_68, e95_71, e95_73, rk_n, rk_v, nl_n, nl_i, nl_r, cat_n, ip_cat_int, ip_cat_ref, ip_cat_long, ip_rf_some, Nat.reduceAdd, Nat.reduceLeDiff, Nat.reduceLT, Nat.le_refl, Nat.zero_le, hR, C1, y3, b0, e1, iw, q1.1, g1, Bool.false_eq_true, Bool.true_eq_false, if_true, if_false, not_true_eq_false, not_false_eq_true, zle, eq_self]
          rfl
      · by_cases g1 : I 289 w = 0
        · have g2 : ¬ (S7).testBit k = true := fun e => g ⟨g1, e⟩
          simp only [en229, e229_0, e229_1, e229_2, e229_3, e229_6, e229_9, e229_10, e229_13, e229_14, e229_17, e229_18, e229_21, e229_22, e229_25, e229_26, e229_29, e229_30, e229_33, e229_34, e229_35, e229_38, e229_41, e229_42, e229_45, e229_46, e229_49, e229_50, e229_53, e229_56, e229_57, e229_58, e229_59, e229_62, e229_63, e229_66, e229_67, e229_68, e229_71, e229_74, e229_75, e229_78, e229_79, e229_80, e229_81, e229_84, e229_85, e229_88, e229_89, e229_90, e229_91, e229_92, e229_93, e229_94, e229_95, e229_96, rk_n, rk_v, nl_n, nl_i, nl_r, cat_n, ip_cat_int, ip_cat_ref, ip_cat_long, ip_rf_some, Nat.reduceAdd, Nat.reduceLeDiff, Nat.reduceLT, Nat.le_refl, Nat.zero_le, hR, ia_lit, nu_i, nu_tn, lw, w40, M1 _ _ _ _ _ _ _ _ rfl, y4, g1, s7, hb7, ite_0, g2, up_eq, true_or, Bool.false_eq_true, Bool.true_eq_false, if_true, if_false, not_true_eq_false, not_false_eq_true, zle, eq_self]
        · simp only [en229, e229_0, e229_1, e229_2, e229_3, e229_6, e229_9, e229_10, e229_13, e229_14, e229_17, e229_18, e229_21, e229_22, e229_25, e229_26, e229_29, e229_30, e229_33, e229_34, e229_35, e229_38, e229_41, e229_42, e229_45, e229_46, e229_49, e229_50, e229_53, e229_56, e229_57, e229_58, e229_59, e229_62, e229_63, e229_66, e229_67, e229_68, e229_71, e229_74, e229_75, e229_78, e229_79, e229_80, e229_81, e229_84, e229_85, e229_88, e229_89, e229_90, e229_91, e229_92, e229_93, e229_94, e229_95, e229_96, rk_n, rk_v, nl_n, nl_i, nl_r, cat_n, ip_cat_int, ip_cat_ref, ip_cat_long, ip_rf_some, Nat.reduceAdd, Nat.reduceLeDiff, Nat.reduceLT, Nat.le_refl, Nat.zero_le, hR, ia_lit, nu_i, nu_tn, lw, w40, M1 _ _ _ _ _ _ _ _ rfl, y4, g1, up_eq, true_or, Bool.false_eq_true, Bool.true_eq_false, if_true, if_false, not_true_eq_false, not_false_eq_true, zle, eq_self]
  · refine same_x (I1 := I) (I2 := ip_up I 265 0 1) (u := 0) (R1 := R) (code := 1) X0 (by decide) (fun d => ?_) onlyP_refl (fun _ _ _ => rfl) (fun d => ?_) scM_0 up_eq
    · refine w94x1 (d := d + 13) ?_
      simp only [en95, e95_0, e95_1, e95_2, e95_5, e95_6, e95_9, e95_10, e95_13, e95_14, e95_15, e95_16, e95_17, e95_18, e95_19, e95_20, e95_23, e95_26, e95_27, e95_30, e95_31, e95_32, e95_35, e95_45, e95_46, e95_49, e95_50, e95_51, e95_54, e95_55, e95_58, e95_59, e95_61, e95_62, e95_62r, e95_63, e95_66, e95_67, e95_68, e95_71, e95_73, rk_n, rk_v, nl_n, nl_i, nl_r, cat_n, ip_cat_int, ip_cat_ref, ip_cat_long, ip_rf_some, Nat.reduceAdd, Nat.reduceLeDiff, Nat.reduceLT, Nat.le_refl, Nat.zero_le, C1, rk_x hh95, Bool.false_eq_true, Bool.true_eq_false, if_true, if_false, not_true_eq_false, not_false_eq_true, zle, eq_self]
      rfl
    · simp only [en229, e229_0, e229_1, e229_2, e229_3, e229_6, e229_9, e229_10, e229_13, e229_14, e229_17, e229_18, e229_21, e229_22, e229_25, e229_26, e229_29, e229_30, e229_33, e229_34, e229_35, e229_38, e229_41, e229_42, e229_45, e229_46, e229_49, e229_50, e229_53, e229_56, e229_57, e229_58, e229_59, e229_62, e229_63, e229_66, e229_67, e229_68, e229_71, e229_74, e229_75, e229_78, e229_79, e229_80, e229_81, e229_84, e229_85, e229_88, e229_89, e229_90, e229_91, e229_92, e229_93, e229_94, e229_95, e229_96, rk_n, rk_v, nl_n, nl_i, nl_r, cat_n, ip_cat_int, ip_cat_ref, ip_cat_long, ip_rf_some, Nat.reduceAdd, Nat.reduceLeDiff, Nat.reduceLT, Nat.le_refl, Nat.zero_le, M1 _ _ _ _ _ _ _ _ rfl, up_eq, true_or, Bool.false_eq_true, Bool.true_eq_false, if_true, if_false, not_true_eq_false, not_false_eq_true, zle, eq_self]
end S8
