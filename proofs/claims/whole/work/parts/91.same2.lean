/-! CALL BY CALL: why, due, fates -/
section S2
variable {n d a b T c s t z o w m p lev k side ap b0 b1 N q B : Nat} {I J K I1 I2 : Nat → Nat → Int32} {L L' : Nat → Nat → Int64} {R R' : Nat → Nat → Option Nat} {nc ns : Nat} {nx : Bool} {x y j v u code x1 x2 x3 : Int32} {P : Nat → Nat → Prop} {h' h : ip_H} {std rst V : Nat → Nat} {win : Nat → Bool} {br fl : Nat → Int32}
/-! sides -/
theorem sd_k : (¬ x < 0 ∧ x < 2) ↔ ∃ k, k < 2 ∧ x = Int32.ofNat k := is_k (K := 2) (by omega)
theorem one_lt : (1 < x) = ¬ x < 2 := propext (pred_lt (i := 2) (by decide))
theorem p99 : (99 < x) = ¬ x ≤ 99 := by rw [Int32.not_le]
theorem pg_k : (¬ x < 0 ∧ x ≤ 99) ↔ ∃ k, k ≤ 99 ∧ x = Int32.ofNat k := by
  constructor
  · rintro ⟨h1, h2⟩
    obtain ⟨t, h3, rfl⟩ := nu_of h1
    exact ⟨t, (nu_le (s := 99) h3 (by omega)).mp h2, rfl⟩
  · rintro ⟨k, h1, rfl⟩
    exact ⟨nu_nn (by omega), (nu_le (s := 99) (by omega) (by omega)).mpr h1⟩
theorem no_p (h : ¬ (¬ x < 0 ∧ x ≤ 99)) : x < 0 ∨ ¬ x ≤ 99 := by
  by_cases g : x < 0
  · exact Or.inl g
  · exact Or.inr (fun e => h ⟨g, e⟩)
theorem atS_C {a k : Nat} (h : atS 24 a k) : scC a k := by unfold atS at h; unfold scC; omega
theorem sit_R (a k : Nat) (h : ¬ (isC a ∧ k < 3)) : sitR R 24 T s B a k = R a k := sitR_on (Or.inl rfl) a k (fun e => h ⟨Or.inl e.1, e.2⟩)
theorem J265 (h : onlyP scC I J) : ∀ a k, 265 ≤ a → ¬ (a = 265 ∧ k = 0) → J a k = I a k := fun a k h1 _ => h a k (by unfold scC; omega)
/-- the model's memory behind laysAppeal and thrown -/
def lyI (K : Nat → Nat → Int32) (lev ap h0 h1 : Nat) (v : Int32) : Nat → Nat → Int32 := ip_up (layI K lev ap h0 h1) 265 0 v
theorem ly_on {h0 h1 : Nat} : onlyM scr K (lyI K lev ap h0 h1 v) := by
  unfold lyI layI
  refine onlyM_up (onlyM_up (onlyM_up (onlyM_up (onlyM_up onlyM_refl ?_) ?_) ?_) ?_) ?_ <;> unfold scr <;> omega
theorem ly_0 {h0 h1 : Nat} : lyI K lev ap h0 h1 v 265 0 = v := by unfold lyI; rw [up_eq]
theorem ly_sit : MSIT c std rst br win V fl lev ap (lyI K lev ap (heardN c std rst br win V fl lev 0) (heardN c std rst br win V fl lev 1) v) := by
  unfold lyI layI
  refine ⟨?_, ?_, ?_, ?_⟩
  · rw [up_k (by decide), up_k (by decide), up_k (by decide), up_k (by decide), up_eq]
  · rw [up_k (by decide), up_k (by decide), up_k (by decide), up_eq]
  · rw [up_k (by decide), up_k (by decide), up_eq]
  · rw [up_k (by decide), up_eq]
theorem on_scM (h : onlyM scr I J) : onlyP scM I J := fun a k e => h a k (fun g => e (Or.inr g))
theorem f5_on (h : onlyM f5 I J) : onlyM scr I J := onlyM_mono h (fun _ => f5_scr)
/-- the same, data by short names -/
theorem APP2 (X : REL T c N w t p I L R) (n nc ns : Nat) (nx : Bool) : ∃ (std rst : Nat → Nat) (br : Nat → Int32) (win : Nat → Bool) (V : Nat → Nat) (fl : Nat → Int32) (F B q : Nat), 65 ≤ F ∧ 65 ≤ B ∧ LYR (sitR R 24 T F B) ∧
    ((∃ lev ap J, (lev = 1 ∨ lev = 2) ∧ ap < 2 ∧ (lev = 1 ↔ I 289 w = 0) ∧ sureI win (V 4) (V 6) = Int32.ofNat (1 - ap) ∧ (∀ j, V j < 2 ^ c) ∧
        (∀ d, cf (d + 4) 99 [.ref 2] (SH n, I, L, R, nc, ns, nx) = some (.inl none, (SH n, J, L, sitR R 24 T F B, nc, ns, nx))) ∧ onlyP scC I J ∧ CNd F B c lev V fl J ∧ CTx T c std rst br win J L ∧ SIT 24 T F B c std rst br win V fl lev ap J (sitR R 24 T F B) ∧
        (∀ K L' R' nc' ns' nx', LYR R' → (∀ a k, 265 ≤ a → ¬ (a = 265 ∧ k = 0) → K a k = I a k) → ∃ K', (∀ d, cf (d + 4) 232 [.ref 265] (SH n, K, L', R', nc', ns', nx') = some (.inl (some (.int 1)), (SH n, K', L', R', nc', ns', nx'))) ∧ onlyM scr K K' ∧ ∀ v, MTx c std rst br win (ip_up K' 265 0 v) ∧ MNd w q lev V fl (ip_up K' 265 0 v) ∧ MSIT c std rst br win V fl lev ap (ip_up K' 265 0 v)))
    ∨ ((∀ d, cf (d + 4) 99 [.ref 2] (SH n, I, L, R, nc, ns, nx) = some (.inr "java/lang/IllegalStateException", (SH n, I, L, sitR R 24 T F B, nc + 1, ns + 6, true))) ∧
        (∀ K L' R' nc' ns' nx', LYR R' → (∀ a k, 265 ≤ a → ¬ (a = 265 ∧ k = 0) → K a k = I a k) → ∃ K', (∀ d, cf (d + 4) 232 [.ref 265] (SH n, K, L', R', nc', ns', nx') = some (.inl (some (.int 0)), (SH n, K', L', R', nc', ns', nx'))) ∧ onlyM scr K K'))) := by
  have hR := X.1
  obtain ⟨q, B, hq, nB, hB, QQ, AA⟩ := APP X n nc ns nx
  refine ⟨stdI I, rstI I, I 277, winL L T, VI I w q, flI I w, 65 + 5 * w, B, q, by omega, hB, sitR_ly (Or.inl rfl) hR, ?_⟩
  rcases AA with ⟨lev, ap, J, hl, a2, il, hS, vlt, A1, oJ, CN, CT, SJ, MO⟩ | ⟨A1, MO⟩
  · left
    refine ⟨lev, ap, J, hl, a2, il, hS, vlt, A1, onlyP_mono oJ (fun _ _ => atS_C), CN, CT, SJ, ?_⟩
    intro K L' R' nc' ns' nx' hR' hK
    obtain ⟨MT, MN, LA⟩ := MO K L' R' nc' ns' nx' hR' hK
    refine ⟨_, LA, ?_, fun v => ?_⟩
    · unfold layI
      refine onlyM_up (onlyM_up (onlyM_up (onlyM_up onlyM_refl ?_) ?_) ?_) ?_ <;> unfold scr <;> omega
    · exact ⟨MTx_on (ly_on (ap := ap) (lev := lev) (v := v)) MT, MNd_on (ly_on (ap := ap) (lev := lev) (v := v)) MN, ly_sit⟩
  · right
    refine ⟨A1, ?_⟩
    intro K L' R' nc' ns' nx' hR' hK
    exact ⟨_, MO K L' R' nc' ns' nx' hR' hK, onlyM_up onlyM_refl (by unfold scr; omega)⟩
theorem on_0 (h : onlyM scr I J) : onlyM scr I (ip_up J 265 0 v) := onlyM_up h (Or.inl rfl)
theorem C24 : isC 24 := Or.inl rfl
/-- WHY -/
theorem S16 : SAMEX 134 251 [.int x1, .int x2] Int32.toInt64 := by
  intro n I L R nc ns nx T c N w t p X
  have X0 := X
  have hT : isT T := (REL_C X).1
  obtain ⟨std, rst, br, win, V, fl, F, B, q, hF, hB, hR2, AA⟩ := APP2 X n nc ns nx
  obtain ⟨hR, ⟨tt, rT, -, hc8, i6, i17, -⟩, -⟩ := X
  by_cases g1 : ¬ x1 < 0 ∧ x1 < Int32.ofNat c
  · obtain ⟨k, hk, rfl⟩ := (is_k (by omega)).mp g1
    have N1 := fun d => c75 (d := d) (n := n) (I := I) (L := L) (R := R) (nc := nc) (ns := ns) (nx := nx) rT hT g1.1 (by rw [i6]; exact g1.2)
    have M1 : ∀ d K L' R' nc' ns' nx', (∀ a k, 265 ≤ a → ¬ (a = 265 ∧ k = 0) → K a k = I a k) → cf (d + 1) 216 [.ref 265, .int (Int32.ofNat k)] (SH n, K, L', R', nc', ns', nx') = some (.inl (some (.int 1)), (SH n, K, L', R', nc', ns', nx')) := fun d K L' R' nc' ns' nx' hK => c216 g1.1 (by rw [hK 265 17 (by omega) (by omega), i17, pr_n (by omega)]; exact fun e => e g1.2)
    by_cases g2 : ¬ x2 < 0 ∧ x2 < 2
    · obtain ⟨side, hs, rfl⟩ := sd_k.mp g2
      have N2 := fun d h => c86 (d := d) (h := h) g2.1 g2.2
      have M2 := fun d h => c225 (d := d) (x := Int32.ofNat side) (h := h) g2.1 (by rw [one_lt]; exact fun e => e g2.2)
      rcases AA with ⟨lev, ap, J, hl, a2, il, hS, vlt, A1, oC, CN, CT, SJ, MO⟩ | ⟨A1, MO⟩
      · have W := fun d => c104 (d := d) (n := n) (L := L) (nc := nc) (ns := ns) (nx := nx) hR2 C24 CN hl SJ.2.1 SJ.2.2.1 SJ.2.2.2.1 hc8 hk hs
        obtain ⟨K, LA, oK, PK⟩ := MO J (ip_up L 307 0 (whyI V fl lev k side).toInt64) (sitR R 24 T F B) nc ns nx hR2 (J265 oC)
        obtain ⟨MT, MN, Z⟩ := PK 0
        refine same_ok (I1 := J) (I2 := ip_up K 265 0 0) (u := whyI V fl lev k side) (R1 := sitR R 24 T F B) (nx1 := nx) X0 _ rfl (fun d => ?_) oC sit_R (fun d => ?_) (on_scM (on_0 oK)) up_eq
        · refine w134 (d := d + 13) ?_
          simp only [en135, e135_0, e135_1, e135_2, e135_5, e135_6, e135_9, e135_10, e135_13, e135_14, e135_17, e135_18, e135_19, e135_22, rk_n, rk_v, nl_n, nl_i, nl_r, cat_n, ip_cat_int, ip_cat_ref, ip_cat_long, ip_rf_some, Nat.reduceAdd, Nat.reduceLeDiff, Nat.reduceLT, Nat.le_refl, Nat.zero_le, hR2, N1, N2, A1, W, C24, Bool.false_eq_true, Bool.true_eq_false, if_true, if_false, not_true_eq_false, not_false_eq_true, zle, eq_self]
        · have WN := fun d => c236 (d := d) (n := n) (L := ip_up L 307 0 (whyI V fl lev k side).toInt64) (nc := nc) (ns := ns) (nx := nx) hR2 MN hl (show k < 8 by omega) hs
          simp only [en251, e251_0, e251_1, e251_2, e251_3, e251_6, e251_9, e251_10, e251_13, e251_14, e251_17, e251_20, e251_21, e251_24, e251_25, e251_28, e251_31, e251_32, e251_35, e251_36, e251_39, e251_40, e251_43, e251_46, e251_47, e251_50, e251_51, e251_52, e251_53, e251_54, e251_57, e251_60, rk_n, rk_v, nl_n, nl_i, nl_r, cat_n, ip_cat_int, ip_cat_ref, ip_cat_long, ip_rf_some, Nat.reduceAdd, Nat.reduceLeDiff, Nat.reduceLT, Nat.le_refl, Nat.zero_le, M1 _ _ _ _ _ _ _ (J265 oC), M2, LA, up_eq, Z.1, WN, Bool.false_eq_true, Bool.true_eq_false, if_true, if_false, not_true_eq_false, not_false_eq_true, zle, eq_self]
      · obtain ⟨K, LA, oK⟩ := MO I L (sitR R 24 T F B) (nc + 1) (ns + 6) true hR2 (fun _ _ _ _ => rfl)
        refine same_x (I1 := I) (I2 := ip_up K 265 0 3) (u := 0) (R1 := sitR R 24 T F B) (code := 3) X0 (by decide) (fun d => ?_) onlyP_refl sit_R (fun d => ?_) (on_scM (on_0 oK)) up_eq
        · refine w134x3 (d := d + 13) ?_
          simp only [en135, e135_0, e135_1, e135_2, e135_5, e135_6, e135_9, e135_10, e135_13, e135_14, e135_17, e135_18, e135_19, e135_22, rk_n, rk_v, nl_n, nl_i, nl_r, cat_n, ip_cat_int, ip_cat_ref, ip_cat_long, ip_rf_some, Nat.reduceAdd, Nat.reduceLeDiff, Nat.reduceLT, Nat.le_refl, Nat.zero_le, hR, N1, N2, A1, rk_x hh135, Bool.false_eq_true, Bool.true_eq_false, if_true, if_false, not_true_eq_false, not_false_eq_true, zle, eq_self]
        · simp only [en251, e251_0, e251_1, e251_2, e251_3, e251_6, e251_9, e251_10, e251_13, e251_14, e251_17, e251_20, e251_21, e251_24, e251_25, e251_28, e251_31, e251_32, e251_35, e251_36, e251_39, e251_40, e251_43, e251_46, e251_47, e251_50, e251_51, e251_52, e251_53, e251_54, e251_57, e251_60, rk_n, rk_v, nl_n, nl_i, nl_r, cat_n, ip_cat_int, ip_cat_ref, ip_cat_long, ip_rf_some, Nat.reduceAdd, Nat.reduceLeDiff, Nat.reduceLT, Nat.le_refl, Nat.zero_le, M1 _ _ _ _ _ _ _ (fun _ _ _ _ => rfl), M2, LA, up_eq, Bool.false_eq_true, Bool.true_eq_false, if_true, if_false, not_true_eq_false, not_false_eq_true, zle, eq_self]
    · have g2' := no_k (K := 2) g2
      refine same_x (I1 := I) (I2 := ip_up I 265 0 2) (u := 0) (R1 := R) (code := 2) X0 (by decide) (fun d => ?_) onlyP_refl (fun _ _ _ => rfl) (fun d => ?_) scM_0 up_eq
      · refine w134x2 (d := d + 13) ?_
        have N2 := fun d h => x86 (d := d) (h := h) g2'
        simp only [en135, e135_0, e135_1, e135_2, e135_5, e135_6, e135_9, e135_10, e135_13, e135_14, e135_17, e135_18, e135_19, e135_22, rk_n, rk_v, nl_n, nl_i, nl_r, cat_n, ip_cat_int, ip_cat_ref, ip_cat_long, ip_rf_some, Nat.reduceAdd, Nat.reduceLeDiff, Nat.reduceLT, Nat.le_refl, Nat.zero_le, hR, N1, N2, rk_x hh135, Bool.false_eq_true, Bool.true_eq_false, if_true, if_false, not_true_eq_false, not_false_eq_true, zle, eq_self]
        rfl
      · have M2 := fun d h => b225 (d := d) (x := x2) (h := h) (by rw [one_lt]; exact g2')
        simp only [en251, e251_0, e251_1, e251_2, e251_3, e251_6, e251_9, e251_10, e251_13, e251_14, e251_17, e251_20, e251_21, e251_24, e251_25, e251_28, e251_31, e251_32, e251_35, e251_36, e251_39, e251_40, e251_43, e251_46, e251_47, e251_50, e251_51, e251_52, e251_53, e251_54, e251_57, e251_60, rk_n, rk_v, nl_n, nl_i, nl_r, cat_n, ip_cat_int, ip_cat_ref, ip_cat_long, ip_rf_some, Nat.reduceAdd, Nat.reduceLeDiff, Nat.reduceLT, Nat.le_refl, Nat.zero_le, M1 _ _ _ _ _ _ _ (fun _ _ _ _ => rfl), M2, up_eq, Bool.false_eq_true, Bool.true_eq_false, if_true, if_false, not_true_eq_false, not_false_eq_true, zle, eq_self]
  · have g1' := no_k g1
    refine same_x (I1 := I) (I2 := ip_up I 265 0 1) (u := 0) (R1 := R) (code := 1) X0 (by decide) (fun d => ?_) onlyP_refl (fun _ _ _ => rfl) (fun d => ?_) scM_0 up_eq
    · refine w134x1 (d := d + 13) ?_
      have N1 := fun d => x75 (d := d) (n := n) (I := I) (L := L) (R := R) (nc := nc) (ns := ns) (nx := nx) rT hT (x := x1) (by rw [i6]; exact g1')
      simp only [en135, e135_0, e135_1, e135_2, e135_5, e135_6, e135_9, e135_10, e135_13, e135_14, e135_17, e135_18, e135_19, e135_22, rk_n, rk_v, nl_n, nl_i, nl_r, cat_n, ip_cat_int, ip_cat_ref, ip_cat_long, ip_rf_some, Nat.reduceAdd, Nat.reduceLeDiff, Nat.reduceLT, Nat.le_refl, Nat.zero_le, hR, N1, rk_x hh135, Bool.false_eq_true, Bool.true_eq_false, if_true, if_false, not_true_eq_false, not_false_eq_true, zle, eq_self]
      rfl
    · have M1 := fun d => b216 (d := d) (x := x1) (n := n) (I := I) (L := L) (R := R) (nc := nc + 1) (ns := ns + 6) (nx := true) (by rw [i17, pr_n (by omega)]; exact g1')
      simp only [en251, e251_0, e251_1, e251_2, e251_3, e251_6, e251_9, e251_10, e251_13, e251_14, e251_17, e251_20, e251_21, e251_24, e251_25, e251_28, e251_31, e251_32, e251_35, e251_36, e251_39, e251_40, e251_43, e251_46, e251_47, e251_50, e251_51, e251_52, e251_53, e251_54, e251_57, e251_60, rk_n, rk_v, nl_n, nl_i, nl_r, cat_n, ip_cat_int, ip_cat_ref, ip_cat_long, ip_rf_some, Nat.reduceAdd, Nat.reduceLeDiff, Nat.reduceLT, Nat.le_refl, Nat.zero_le, M1, up_eq, Bool.false_eq_true, Bool.true_eq_false, if_true, if_false, not_true_eq_false, not_false_eq_true, zle, eq_self]
end S2
