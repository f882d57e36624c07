/-! APPEAL: the model, from its check on -/
section MQ
variable {n d a b T c s t z o w m p lev k side ap b0 b1 h0 h1 md C F B pg po u q N : Nat} {I J K M : Nat → Nat → Int32} {L : Nat → Nat → Int64} {R : Nat → Nat → Option Nat} {nc ns : Nat} {nx : Bool} {x y j v lv hw0 what ah num hw l : Int32} {h : ip_H} {f g std rst V W : Nat → Nat} {win : Nat → Bool} {br fl : Nat → Int32}
theorem fst_and (a2 : ap < 2) : fstN ap (b0 &&& heardN c std rst br win V fl lev 0) (b1 &&& heardN c std rst br win V fl lev 1) = fstN ap b0 b1 &&& heardN c std rst br win V fl lev ap := by rcases lt2 a2 with rfl | rfl <;> rfl
theorem or_hrd (a2 : ap < 2) : (b0 &&& heardN c std rst br win V fl lev 0) ||| (b1 &&& heardN c std rst br win V fl lev 1) = (fstN ap b0 b1 &&& heardN c std rst br win V fl lev ap) ||| (fstN ap b1 b0 &&& heardN c std rst br win V fl lev (1 - ap)) := by
  rcases lt2 a2 with rfl | rfl
  · rfl
  · show _ = (b1 &&& heardN c std rst br win V fl lev 1) ||| (b0 &&& heardN c std rst br win V fl lev 0)
    rw [Nat.or_comm]
theorem c237j (hR : LYR R) (X : MTx c std rst br win I) (M : MNd w p lev V fl I) (hl : lev = 1 ∨ lev = 2) (Z : MSIT c std rst br win V fl lev ap I) (a2 : ap < 2) (q0 : b0 < 256) (q1 : b1 < 256) :
    ∃ J, cf (d + 2) 237 [.ref 265, .int (Int32.ofNat (b0 &&& heardN c std rst br win V fl lev 0)), .int (Int32.ofNat (b1 &&& heardN c std rst br win V fl lev 1))] (SH n, I, L, R, nc, ns, nx) = some (.inl (some (.int (jO c std rst br win V fl lev ap b0 b1))), (SH n, J, L, R, nc, ns, nx)) ∧ onlyM f5 I J ∧ J 265 62 = Int32.ofNat (jS c std rst br win V fl lev ap b0 b1) ∧ J 265 63 = Int32.ofNat (errN c std rst br win V fl lev (jS c std rst br win V fl lev ap b0 b1)) ∧ J 265 55 = Int32.ofNat (opnN c std rst br win V fl lev (errN c std rst br win V fl lev (jS c std rst br win V fl lev ap b0 b1))) ∧ J 265 56 = Int32.ofNat (trnN c std rst br win V fl lev (errN c std rst br win V fl lev (jS c std rst br win V fl lev ap b0 b1))) ∧ J 265 57 = Int32.ofNat (zrnN c std rst br win V fl lev (errN c std rst br win V fl lev (jS c std rst br win V fl lev ap b0 b1))) := by
  obtain ⟨J, e, o, S, hS, h2, h3, h4, h5, h6⟩ := c237 (d := d) (n := n) (L := L) (nc := nc) (ns := ns) (nx := nx) hR X M hl Z.2.1 a2 Z.1 (Nat.lt_of_le_of_lt (Nat.and_le_left (n := b0) (m := heardN c std rst br win V fl lev 0)) q0) (Nat.lt_of_le_of_lt (Nat.and_le_left (n := b1) (m := heardN c std rst br win V fl lev 1)) q1)
  rw [fst_and a2, or_hrd a2] at hS e
  rw [errN_or, errN_heard, errN_heard] at e
  have hj : jO c std rst br win V fl lev ap b0 b1 = 0 ↔ aftN c std rst br win V fl lev (errN c std rst br win V fl lev (fstN ap b0 b1 &&& heardN c std rst br win V fl lev ap)) = Int32.ofNat (1 - ap) := by
    rw [errN_heard]
    unfold jO outE
    constructor
    · intro e
      by_cases g : aftN c std rst br win V fl lev (fstN ap b0 b1 &&& errS c std rst br win V fl lev ap) = Int32.ofNat (1 - ap)
      · exact g
      · rw [if_neg g] at e
        split at e
        · exact absurd e (by decide)
        · split at e <;> exact absurd e (by decide)
    · intro g; rw [if_pos g]
  have hS' : S = jS c std rst br win V fl lev ap b0 b1 := by
    rw [hS]
    unfold jS
    by_cases g : jO c std rst br win V fl lev ap b0 b1 = 0
    · rw [if_pos g, if_pos (hj.mp g)]
    · rw [if_neg g, if_neg (fun e => g (hj.mpr e))]
  subst hS'
  exact ⟨J, e, o, h2, h3, h4, h5, h6⟩
def jZ (c : Nat) (std rst : Nat → Nat) (br : Nat → Int32) (win : Nat → Bool) (V : Nat → Nat) (fl : Nat → Int32) (lev ap b0 b1 : Nat) : Nat := if jO c std rst br win V fl lev ap b0 b1 = 0 ∨ jO c std rst br win V fl lev ap b0 b1 = 1 then V 4 else zrnN c std rst br win V fl lev (errN c std rst br win V fl lev (jS c std rst br win V fl lev ap b0 b1))
def lostM (V : Nat → Nat) (lev ap c : Nat) : Nat := if lev = 1 then agsN V ap c else 0
theorem c188 (hR : LYR R) (hq : q < 40) (hk : k < 8) : cf d 188 [.ref 265, .int (Int32.ofNat q), .int (Int32.ofNat k)] (SH n, I, L, R, nc, ns, nx) = some (.inl none, (SH n, ip_up (ip_up (ip_up I 302 (8 * q + k) (-1)) 303 (8 * q + k) (-1)) 304 (8 * q + k) (-1), L, R, nc, ns, nx)) := by
  have l1 : 8 * q + k < 2147483648 := by omega
  have b1 : 8 * q + k < 320 := by omega
  simp only [en188, e188_0, e188_1, e188_4, e188_6, e188_7, e188_8, e188_9, e188_10, e188_11, e188_12, e188_13, e188_16, e188_18, e188_19, e188_20, e188_21, e188_22, e188_23, e188_24, e188_25, e188_28, e188_30, e188_31, e188_32, e188_33, e188_34, e188_35, e188_36, rk_n, rk_v, nl_n, nl_i, nl_r, cat_n, ip_cat_int, ip_cat_ref, ip_cat_long, ip_rf_some, Nat.reduceAdd, Nat.reduceLeDiff, Nat.reduceLT, Nat.le_refl, Nat.zero_le, hR, ia_lit, nu_i, nu_tn, l1, b1, mu8, nu_add]
theorem stands_le {x : Int32} (h : x = 0 ∨ x = 1 ∨ x = 2 ∨ x = 3) : (x ≤ 1) = (x = 0 ∨ x = 1) := by
  rcases h with rfl | rfl | rfl | rfl <;> exact propext (by decide)
theorem l230 (hR : LYR R) (X : MTx c std rst br win I) (M : MNd w p lev V fl I) (hl : lev = 1 ∨ lev = 2) (Z : MSIT c std rst br win V fl lev ap I) (a2 : ap < 2) (e37 : I 265 37 = Int32.ofNat N) (hN : N < 40) (hw : w < N) (q0 : b0 < 256) (q1 : b1 < 256) :
    ∃ K, rf (d + 3) 230 54 [some (.ref 265), some (.int (Int32.ofNat b0)), some (.int (Int32.ofNat b1)), none, none, none, none] [] (SH n, I, L, R, nc, ns, nx) = some (.inl (some (.int (Int32.ofNat N))), (SH n, K, L, R, nc, ns, nx)) ∧ onlyP (fun a k => (a = 265 ∧ (f5 k ∨ k = 37 ∨ k = 38)) ∨ atQ N a k) I K ∧ K 265 37 = Int32.ofNat (N + 1) ∧ K 265 38 = Int32.ofNat N ∧
      K 289 N = Int32.ofNat lev ∧ K 290 N = Int32.ofNat w ∧ K 291 N = jO c std rst br win V fl lev ap b0 b1 ∧ K 292 N = Int32.ofNat (jP c std rst br win V fl lev ap b0 b1) ∧ K 293 N = Int32.ofNat (jP c std rst br win V fl lev ap b0 b1) ∧ K 294 N = Int32.ofNat ((V 7 ||| jS c std rst br win V fl lev ap b0 b1 ||| lostM V lev ap c) &&& (255 ^^^ jP c std rst br win V fl lev ap b0 b1)) ∧ K 295 N = Int32.ofNat (V 8 &&& (255 ^^^ jS c std rst br win V fl lev ap b0 b1)) ∧ K 296 N = Int32.ofNat (jZ c std rst br win V fl lev ap b0 b1) ∧ K 297 N = Int32.ofNat ap ∧ K 298 N = Int32.ofNat (jT c std rst br win V fl lev ap b0 b1) ∧ K 299 N = 0 ∧ K 300 (2 * N) = Int32.ofNat b0 ∧ K 300 (2 * N + 1) = Int32.ofNat b1 ∧
      (∀ s, s < 2 → K 301 (2 * N + s) = Int32.ofNat (V (14 + s) &&& (255 ^^^ (jP c std rst br win V fl lev ap b0 b1 ||| jT c std rst br win V fl lev ap b0 b1)))) ∧
      (∀ k, k < 8 → (K 302 (8 * N + k) = (if ¬ (jO c std rst br win V fl lev ap b0 b1 = 0 ∨ jO c std rst br win V fl lev ap b0 b1 = 1) ∧ k < c ∧ (jP c std rst br win V fl lev ap b0 b1).testBit k = true then -1 else if (jT c std rst br win V fl lev ap b0 b1).testBit k = true ∧ k < c then 9 - I 302 (8 * w + k) else I 302 (8 * w + k))) ∧ (K 303 (8 * N + k) = (if ¬ (jO c std rst br win V fl lev ap b0 b1 = 0 ∨ jO c std rst br win V fl lev ap b0 b1 = 1) ∧ k < c ∧ (jP c std rst br win V fl lev ap b0 b1).testBit k = true then -1 else if (jT c std rst br win V fl lev ap b0 b1).testBit k = true ∧ k < c then Int32.ofNat lev else I 303 (8 * w + k))) ∧ (K 304 (8 * N + k) = (if ¬ (jO c std rst br win V fl lev ap b0 b1 = 0 ∨ jO c std rst br win V fl lev ap b0 b1 = 1) ∧ k < c ∧ (jP c std rst br win V fl lev ap b0 b1).testBit k = true then -1 else if (jT c std rst br win V fl lev ap b0 b1).testBit k = true ∧ k < c then Int32.ofNat N else I 304 (8 * w + k)))) := by
  have hc8 := X.1
  have v8 := M.2.2.1
  have e38 := M.2.1
  obtain ⟨J1, OC, o1, h62, h63, h55, h56, h57⟩ := c237j (d := d) (n := n) (L := L) (nc := nc) (ns := ns) (nx := nx) hR X M hl Z a2 q0 q1
  have hO : jO c std rst br win V fl lev ap b0 b1 = 0 ∨ jO c std rst br win V fl lev ap b0 b1 = 1 ∨ jO c std rst br win V fl lev ap b0 b1 = 2 ∨ jO c std rst br win V fl lev ap b0 b1 = 3 := outE_4
  have k38 : J1 265 38 = Int32.ofNat w := (onlyM_get o1 (by unfold f5; omega)).trans e38
  have k37 : J1 265 37 = Int32.ofNat N := (onlyM_get o1 (by unfold f5; omega)).trans e37
  have Z1 := MSIT_on o1 Z
  obtain ⟨J2, CP, o2, c289, c290, c291, c292, c293, c294, c295, c296, c297, c298, c299, ck, cf8⟩ := c240 (d := d + 2) (n := n) (L := L) (nc := nc) (ns := ns) (nx := nx) (l := Int32.ofNat lev) hR k38 (show w < 40 by omega) hN (by omega)
  have r265 : ∀ k, J2 265 k = J1 265 k := fun k => o2 265 k (by unfold atQ; omega)
  have rw1 : ∀ a k, ¬ a = 265 → J1 a k = I a k := fun a k h => onlyM_a o1 h
  have lN : N < 2147483648 := by omega
  have l2 : 2 * N < 2147483648 := by omega
  have l21 : 2 * N + 1 < 2147483648 := by omega
  have bN : 2 * N < 80 := by omega
  have bN1 : 2 * N + 1 < 80 := by omega
  generalize hJ3 : ip_up (ip_up (ip_up (ip_up J2 291 N (jO c std rst br win V fl lev ap b0 b1)) 297 N (Int32.ofNat ap)) 300 (2 * N) (Int32.ofNat b0)) 300 (2 * N + 1) (Int32.ofNat b1) = J3
  have y58 : J2 265 58 = Int32.ofNat lev := (r265 58).trans Z1.1
  have y59 : J2 265 59 = Int32.ofNat ap := (r265 59).trans Z1.2.1
  have y58' : J1 265 58 = Int32.ofNat lev := Z1.1
  have front : rf (d + 3) 230 54 [some (.ref 265), some (.int (Int32.ofNat b0)), some (.int (Int32.ofNat b1)), none, none, none, none] [] (SH n, I, L, R, nc, ns, nx) = rf (d + 3) 230 128 [some (.ref 265), some (.int (Int32.ofNat b0)), some (.int (Int32.ofNat b1)), some (.int (jO c std rst br win V fl lev ap b0 b1)), some (.int (Int32.ofNat N)), none, none] [] (SH n, J3, L, R, nc, ns, nx) := by
    rw [← hJ3]
    simp only [e230_54, e230_55, e230_56, e230_57, e230_60, e230_61, e230_62, e230_63, e230_66, e230_67, e230_70, e230_71, e230_72, e230_75, e230_77, e230_78, e230_80, e230_81, e230_84, e230_87, e230_88, e230_91, e230_93, e230_94, e230_95, e230_96, e230_99, e230_101, e230_102, e230_105, e230_106, e230_107, e230_110, e230_111, e230_113, e230_114, e230_115, e230_116, e230_117, e230_120, e230_121, e230_123, e230_124, e230_125, e230_126, e230_127, rk_n, rk_v, nl_n, nl_i, nl_r, cat_n, ip_cat_int, ip_cat_ref, ip_cat_long, ip_rf_some, Nat.reduceAdd, Nat.reduceLeDiff, Nat.reduceLT, Nat.le_refl, Nat.zero_le, hR, Z.2.2.1, Z.2.2.2, of_and, OC, k37, y58', CP, ia_lit, nu_i, nu_tn, lN, hN, l2, l21, bN, bN1, mu2, nu_1, up_a, y59, Nat.reduceEqDiff, Bool.false_eq_true, Bool.true_eq_false, if_true, if_false, not_true_eq_false, not_false_eq_true, zle, eq_self]
  have j3 : ∀ a k, ¬ a = 291 → ¬ a = 297 → ¬ a = 300 → J3 a k = J2 a k := by
    intro a k h1 h2 h3
    rw [← hJ3, up_a h3, up_a h3, up_a h2, up_a h1]
  have j265 : ∀ k, J3 265 k = J1 265 k := fun k => (j3 265 k (by decide) (by decide) (by decide)).trans (r265 k)
  have j291 : J3 291 N = jO c std rst br win V fl lev ap b0 b1 := by rw [← hJ3, up_a (by decide), up_a (by decide), up_a (by decide), up_eq]
  have j297 : J3 297 N = Int32.ofNat ap := by rw [← hJ3, up_a (by decide), up_a (by decide), up_eq]
  have j300 : J3 300 (2 * N) = Int32.ofNat b0 := by rw [← hJ3, up_k (by omega), up_eq]
  have j301 : J3 300 (2 * N + 1) = Int32.ofNat b1 := by rw [← hJ3, up_eq]
  have o3 : onlyP (fun a k => (a = 265 ∧ (f5 k ∨ k = 37 ∨ k = 38)) ∨ atQ N a k) I J3 := by
    have p1 : onlyP (fun a k => (a = 265 ∧ (f5 k ∨ k = 37 ∨ k = 38)) ∨ atQ N a k) I J2 := onlyP_tr (fun a k h => o1 a k (fun e => h (Or.inl ⟨e.1, Or.inl e.2⟩))) (onlyP_mono o2 (fun a k e => Or.inr e))
    rw [← hJ3]
    refine onlyP_up (onlyP_up (onlyP_up (onlyP_up p1 ?_) ?_) ?_) ?_ <;> (right; unfold atQ; omega)
  have e8 : errN c std rst br win V fl lev (jS c std rst br win V fl lev ap b0 b1) < 256 := errN_lt hc8
  have op8 : opnN c std rst br win V fl lev (errN c std rst br win V fl lev (jS c std rst br win V fl lev ap b0 b1)) < 256 := opnN_lt hc8 v8 e8
  have tr8 : trnN c std rst br win V fl lev (errN c std rst br win V fl lev (jS c std rst br win V fl lev ap b0 b1)) < 256 := trnN_lt hc8
  have jS8 : jS c std rst br win V fl lev ap b0 b1 < 256 := by
    unfold jS
    split
    · exact Nat.lt_of_le_of_lt Nat.and_le_left (fstN_lt q0 q1)
    · exact Nat.or_lt_two_pow (n := 8) (Nat.lt_of_le_of_lt Nat.and_le_left (fstN_lt q0 q1)) (Nat.lt_of_le_of_lt Nat.and_le_left (fstN_lt q1 q0))
  have P8 : jP c std rst br win V fl lev ap b0 b1 < 256 := by unfold jP; split; exact v8 6; exact op8
  have T8 : jT c std rst br win V fl lev ap b0 b1 < 256 := by unfold jT; split; omega; exact tr8
  -- behind the change: open, zero, turned, flaws
  obtain ⟨J4, l5, n5, o4, d293, d296, d298, dk, MID⟩ : ∃ J4 l5, ip_nl l5 = true ∧ onlyP (fun a k => (a = 293 ∨ a = 296 ∨ a = 298) ∧ k = N ∨ (a = 302 ∨ a = 303 ∨ a = 304) ∧ 8 * N ≤ k ∧ k < 8 * N + 8) J3 J4 ∧ J4 293 N = Int32.ofNat (jP c std rst br win V fl lev ap b0 b1) ∧ J4 296 N = Int32.ofNat (jZ c std rst br win V fl lev ap b0 b1) ∧ J4 298 N = Int32.ofNat (jT c std rst br win V fl lev ap b0 b1) ∧
      (∀ k, k < 8 → (J4 302 (8 * N + k) = (if ¬ (jO c std rst br win V fl lev ap b0 b1 = 0 ∨ jO c std rst br win V fl lev ap b0 b1 = 1) ∧ k < c ∧ (jP c std rst br win V fl lev ap b0 b1).testBit k = true then -1 else if (jT c std rst br win V fl lev ap b0 b1).testBit k = true ∧ k < c then 9 - I 302 (8 * w + k) else I 302 (8 * w + k))) ∧ (J4 303 (8 * N + k) = (if ¬ (jO c std rst br win V fl lev ap b0 b1 = 0 ∨ jO c std rst br win V fl lev ap b0 b1 = 1) ∧ k < c ∧ (jP c std rst br win V fl lev ap b0 b1).testBit k = true then -1 else if (jT c std rst br win V fl lev ap b0 b1).testBit k = true ∧ k < c then Int32.ofNat lev else I 303 (8 * w + k))) ∧ (J4 304 (8 * N + k) = (if ¬ (jO c std rst br win V fl lev ap b0 b1 = 0 ∨ jO c std rst br win V fl lev ap b0 b1 = 1) ∧ k < c ∧ (jP c std rst br win V fl lev ap b0 b1).testBit k = true then -1 else if (jT c std rst br win V fl lev ap b0 b1).testBit k = true ∧ k < c then Int32.ofNat N else I 304 (8 * w + k)))) ∧
      rf (d + 3) 230 128 [some (.ref 265), some (.int (Int32.ofNat b0)), some (.int (Int32.ofNat b1)), some (.int (jO c std rst br win V fl lev ap b0 b1)), some (.int (Int32.ofNat N)), none, none] [] (SH n, J3, L, R, nc, ns, nx) = rf (d + 3) 230 280 [some (.ref 265), some (.int (Int32.ofNat b0)), some (.int (Int32.ofNat b1)), some (.int (jO c std rst br win V fl lev ap b0 b1)), some (.int (Int32.ofNat N)), l5, none] [] (SH n, J4, L, R, nc, ns, nx) := by
    by_cases st : jO c std rst br win V fl lev ap b0 b1 = 0 ∨ jO c std rst br win V fl lev ap b0 b1 = 1
    · have s1 := (stands_le hO).trans (eq_true st)
      refine ⟨J3, none, nl_n, onlyP_refl, ?_, ?_, ?_, ?_, ?_⟩
      · rw [j3 293 N (by decide) (by decide) (by decide), c293, rw1 293 w (by decide)]
        unfold jP
        rw [if_pos st]
        exact M.2.2.2.1
      · rw [j3 296 N (by decide) (by decide) (by decide), c296, rw1 296 w (by decide)]
        unfold jZ
        rw [if_pos st]
        exact M.2.2.2.2.1
      · rw [j3 298 N (by decide) (by decide) (by decide), c298]
        unfold jT
        rw [if_pos st]
        rfl
      · intro k hk
        have tz : (jT c std rst br win V fl lev ap b0 b1).testBit k = false := by unfold jT; rw [if_pos st, Nat.zero_testBit]
        obtain ⟨x1, x2, x3⟩ := cf8 k hk
        rw [j3 302 _ (by decide) (by decide) (by decide), j3 303 _ (by decide) (by decide) (by decide), j3 304 _ (by decide) (by decide) (by decide), x1, x2, x3, rw1 302 _ (by decide), rw1 303 _ (by decide), rw1 304 _ (by decide)]
        simp only [st, not_true_eq_false, false_and, if_false, tz, Bool.false_eq_true]
        exact ⟨trivial, trivial, trivial⟩
      · simp only [e230_128, e230_129, e230_130, rk_n, rk_v, nl_n, nl_i, nl_r, cat_n, ip_cat_int, ip_cat_ref, ip_cat_long, ip_rf_some, Nat.reduceAdd, Nat.reduceLeDiff, Nat.reduceLT, Nat.le_refl, Nat.zero_le, s1, Bool.false_eq_true, Bool.true_eq_false, if_true, if_false, not_true_eq_false, not_false_eq_true, zle, eq_self]
    · have s1 := (stands_le hO).trans (eq_false st)
      have eP : jP c std rst br win V fl lev ap b0 b1 = opnN c std rst br win V fl lev (errN c std rst br win V fl lev (jS c std rst br win V fl lev ap b0 b1)) := by unfold jP; rw [if_neg st]
      have eT : jT c std rst br win V fl lev ap b0 b1 = trnN c std rst br win V fl lev (errN c std rst br win V fl lev (jS c std rst br win V fl lev ap b0 b1)) := by unfold jT; rw [if_neg st]
      have eZ : jZ c std rst br win V fl lev ap b0 b1 = zrnN c std rst br win V fl lev (errN c std rst br win V fl lev (jS c std rst br win V fl lev ap b0 b1)) := by unfold jZ; rw [if_neg st]
      rw [← eP] at h55
      rw [← eT] at h56
      rw [← eZ] at h57
      have g55 := (j265 55).trans h55
      have g56 := (j265 56).trans h56
      have g57 := (j265 57).trans h57
      have g17 : J3 265 17 = Int32.ofNat c := (j265 17).trans ((onlyM_get o1 (by unfold f5; omega)).trans X.2.1)
      have g58 : J3 265 58 = Int32.ofNat lev := (j265 58).trans Z1.1
      have dis : ∀ k, (jT c std rst br win V fl lev ap b0 b1).testBit k = true → (jP c std rst br win V fl lev ap b0 b1).testBit k = false := by
        intro k e
        rw [eT] at e
        rw [eP]
        unfold trnN at e
        rw [Nat.testBit_and, tbn, Bool.and_eq_true] at e
        cases q : (opnN c std rst br win V fl lev (errN c std rst br win V fl lev (jS c std rst br win V fl lev ap b0 b1))).testBit k with
        | false => rfl
        | true =>
          rw [q] at e
          have := e.2
          by_cases h8 : k < 8
          · simp [h8] at this
          · rw [tb_hi op8 (by omega)] at q; cases q
      refine Exists.elim (for_ex (c := c) (fun k (J : Nat → Nat → Int32) => rf (d + 3) 230 136 [some (.ref 265), some (.int (Int32.ofNat b0)), some (.int (Int32.ofNat b1)), some (.int (jO c std rst br win V fl lev ap b0 b1)), some (.int (Int32.ofNat N)), some (.int (Int32.ofNat k)), none] [] (SH n, J, L, R, nc, ns, nx)) (fun k J => onlyP (fun a k => (a = 302 ∨ a = 303 ∨ a = 304) ∧ 8 * N ≤ k ∧ k < 8 * N + 8) J3 J ∧ ∀ i, i < 8 → (J 302 (8 * N + i) = (if i < k ∧ (jP c std rst br win V fl lev ap b0 b1).testBit i = true then -1 else if (jT c std rst br win V fl lev ap b0 b1).testBit i = true ∧ i < k then 9 - I 302 (8 * w + i) else I 302 (8 * w + i))) ∧ (J 303 (8 * N + i) = (if i < k ∧ (jP c std rst br win V fl lev ap b0 b1).testBit i = true then -1 else if (jT c std rst br win V fl lev ap b0 b1).testBit i = true ∧ i < k then Int32.ofNat lev else I 303 (8 * w + i))) ∧ (J 304 (8 * N + i) = (if i < k ∧ (jP c std rst br win V fl lev ap b0 b1).testBit i = true then -1 else if (jT c std rst br win V fl lev ap b0 b1).testBit i = true ∧ i < k then Int32.ofNat N else I 304 (8 * w + i)))) ?_ J3 ⟨onlyP_refl, ?_⟩) ?_
      · rintro k J hk ⟨p1, H⟩
        have lk : k < 2147483648 := by omega
        have lc := lt8 hc8
        have g1 : ¬ c ≤ k := by omega
        have k8 : k < 8 := by omega
        have f1 : 8 * N + k < 2147483648 := by omega
        have f2 : 8 * N + k < 320 := by omega
        have q265 : ∀ j, J 265 j = J3 265 j := fun j => p1 265 j (by omega)
        have y17 := (q265 17).trans g17
        have y55 := (q265 55).trans g55
        have y56 := (q265 56).trans g56
        have y58 := (q265 58).trans g58
        have OA := c188 (d := d + 2) (n := n) (I := J) (L := L) (nc := nc) (ns := ns) (nx := nx) hR hN k8
        have keepH : ∀ (J' : Nat → Nat → Int32), (∀ a j, (a = 302 ∨ a = 303 ∨ a = 304) → ¬ j = 8 * N + k → J' a j = J a j) → ∀ i, i < 8 → ¬ i = k → (J' 302 (8 * N + i) = (if i < k + 1 ∧ (jP c std rst br win V fl lev ap b0 b1).testBit i = true then -1 else if (jT c std rst br win V fl lev ap b0 b1).testBit i = true ∧ i < k + 1 then 9 - I 302 (8 * w + i) else I 302 (8 * w + i))) ∧ (J' 303 (8 * N + i) = (if i < k + 1 ∧ (jP c std rst br win V fl lev ap b0 b1).testBit i = true then -1 else if (jT c std rst br win V fl lev ap b0 b1).testBit i = true ∧ i < k + 1 then Int32.ofNat lev else I 303 (8 * w + i))) ∧ (J' 304 (8 * N + i) = (if i < k + 1 ∧ (jP c std rst br win V fl lev ap b0 b1).testBit i = true then -1 else if (jT c std rst br win V fl lev ap b0 b1).testBit i = true ∧ i < k + 1 then Int32.ofNat N else I 304 (8 * w + i))) := by
          intro J' hJ i hi hne
          have e1 : (i < k + 1) = (i < k) := propext (by omega)
          rw [hJ 302 _ (by omega) (by omega), hJ 303 _ (by omega) (by omega), hJ 304 _ (by omega) (by omega)]
          simp only [e1]
          exact H i hi
        by_cases a1 : (jP c std rst br win V fl lev ap b0 b1).testBit k = true
        · have a2' : (jT c std rst br win V fl lev ap b0 b1).testBit k = false := by
            cases e : (jT c std rst br win V fl lev ap b0 b1).testBit k with
            | false => rfl
            | true => rw [dis k e] at a1; cases a1
          refine ⟨ip_up (ip_up (ip_up J 302 (8 * N + k) (-1)) 303 (8 * N + k) (-1)) 304 (8 * N + k) (-1), ⟨onlyP_up (onlyP_up (onlyP_up p1 ⟨by omega, by omega⟩) ⟨by omega, by omega⟩) ⟨by omega, by omega⟩, ?_⟩, ?_⟩
          · intro i hi
            by_cases e : i = k
            · subst e
              have u : i < i + 1 := by omega
              rw [if_pos ⟨u, a1⟩, if_pos ⟨u, a1⟩, if_pos ⟨u, a1⟩, up_a (by decide), up_a (by decide), up_eq, up_a (by decide), up_eq, up_eq]
              exact ⟨rfl, rfl, rfl⟩
            · exact keepH _ (fun a j ha hj => by
                rcases ha with rfl | rfl | rfl
                · rw [up_a (by decide), up_a (by decide), up_k hj]
                · rw [up_a (by decide), up_k hj, up_a (by decide)]
                · rw [up_k hj, up_a (by decide), up_a (by decide)]) i hi e
          · rw [e230_136]
            simp only [e230_138, e230_139, e230_142, e230_145, e230_146, e230_149, e230_151, e230_154, e230_157, e230_158, e230_160, e230_162, e230_165, e230_166, e230_169, e230_171, e230_174, e230_177, e230_241, e230_244, rk_n, rk_v, nl_n, nl_i, nl_r, cat_n, ip_cat_int, ip_cat_ref, ip_cat_long, ip_rf_some, Nat.reduceAdd, Nat.reduceLeDiff, Nat.reduceLT, Nat.le_refl, Nat.zero_le, y17, y55, y56, nu_ge, lk, lc, g1, k8, P8, T8, hasB, ite_0, a1, OA, up_a, Nat.reduceEqDiff, a2', nu_1, Bool.false_eq_true, Bool.true_eq_false, if_true, if_false, not_true_eq_false, not_false_eq_true, zle, eq_self]
        · by_cases a3 : (jT c std rst br win V fl lev ap b0 b1).testBit k = true
          · have rd : J 302 (8 * N + k) = I 302 (8 * w + k) := by
              have := (H k k8).1
              simpa [a1] using this
            refine ⟨ip_up (ip_up (ip_up J 302 (8 * N + k) (9 - I 302 (8 * w + k))) 303 (8 * N + k) (Int32.ofNat lev)) 304 (8 * N + k) (Int32.ofNat N), ⟨onlyP_up (onlyP_up (onlyP_up p1 ⟨by omega, by omega⟩) ⟨by omega, by omega⟩) ⟨by omega, by omega⟩, ?_⟩, ?_⟩
            · intro i hi
              by_cases e : i = k
              · subst e
                have u : i < i + 1 := by omega
                simp only [a1, a3, u, and_false, and_true, Bool.false_eq_true, if_true, if_false, up_a, up_eq, Nat.reduceEqDiff, not_false_eq_true, and_self]
              · exact keepH _ (fun a j ha hj => by
                  rcases ha with rfl | rfl | rfl
                  · rw [up_a (by decide), up_a (by decide), up_k hj]
                  · rw [up_a (by decide), up_k hj, up_a (by decide)]
                  · rw [up_k hj, up_a (by decide), up_a (by decide)]) i hi e
            · rw [e230_136]
              simp only [e230_0, e230_1, e230_2, e230_3, e230_6, e230_9, e230_10, e230_11, e230_14, e230_17, e230_18, e230_21, e230_22, e230_25, e230_28, e230_29, e230_32, e230_34, e230_37, e230_38, e230_41, e230_42, e230_45, e230_46, e230_49, e230_52, e230_53, e230_54, e230_55, e230_56, e230_57, e230_60, e230_61, e230_62, e230_63, e230_66, e230_67, e230_70, e230_71, e230_72, e230_75, e230_77, e230_78, e230_80, e230_81, e230_84, e230_87, e230_88, e230_91, e230_93, e230_94, e230_95, e230_96, e230_99, e230_101, e230_102, e230_105, e230_106, e230_107, e230_110, e230_111, e230_113, e230_114, e230_115, e230_116, e230_117, e230_120, e230_121, e230_123, e230_124, e230_125, e230_126, e230_127, e230_128, e230_129, e230_130, e230_133, e230_134, e230_138, e230_139, e230_142, e230_145, e230_146, e230_149, e230_151, e230_154, e230_157, e230_158, e230_160, e230_162, e230_165, e230_166, e230_169, e230_171, e230_174, e230_177, e230_180, e230_181, e230_184, e230_186, e230_188, e230_189, e230_191, e230_192, e230_194, e230_195, e230_198, e230_200, e230_202, e230_203, e230_205, e230_206, e230_207, e230_208, e230_209, e230_210, e230_213, e230_215, e230_217, e230_218, e230_220, e230_221, e230_222, e230_225, e230_226, e230_227, e230_230, e230_232, e230_234, e230_235, e230_237, e230_238, e230_240, e230_241, e230_244, e230_247, e230_248, e230_251, e230_253, e230_254, e230_257, e230_258, e230_259, e230_262, e230_264, e230_265, e230_268, e230_269, e230_270, e230_273, e230_275, e230_276, e230_279, e230_280, e230_281, e230_284, e230_285, e230_288, e230_289, e230_290, e230_293, e230_294, e230_295, e230_298, e230_299, e230_302, e230_303, e230_304, e230_307, e230_310, e230_313, e230_314, e230_315, e230_317, e230_318, e230_321, e230_323, e230_325, e230_326, e230_329, e230_331, e230_332, e230_333, e230_334, e230_335, e230_336, e230_337, e230_340, e230_342, e230_343, e230_344, e230_345, e230_348, e230_349, e230_350, e230_351, e230_352, e230_353, e230_357, e230_358, e230_361, e230_362, e230_365, e230_366, e230_368, e230_369, e230_371, e230_372, e230_373, e230_374, e230_375, e230_378, e230_380, e230_381, e230_382, e230_385, e230_387, e230_388, e230_389, e230_390, e230_391, e230_392, e230_393, e230_396, e230_399, e230_400, e230_403, e230_405, e230_406, e230_409, e230_411, e230_412, e230_413, e230_414, e230_414r, e230_415, e230_418, e230_419, e230_420, e230_423, e230_424, e230_426, e230_429, e230_431, rk_n, rk_v, nl_n, nl_i, nl_r, cat_n, ip_cat_int, ip_cat_ref, ip_cat_long, ip_rf_some, Nat.reduceAdd, Nat.reduceLeDiff, Nat.reduceLT, Nat.le_refl, Nat.zero_le, hR, ia_lit, nu_i, nu_tn, f1, f2, y17, y55, y56, y58, nu_ge, lk, lc, g1, k8, P8, T8, hasB, ite_0, a1, a3, mu8, nu_add, rd, up_a, Nat.reduceEqDiff, nu_1, Bool.false_eq_true, Bool.true_eq_false, if_true, if_false, not_true_eq_false, not_false_eq_true, zle, eq_self]
          · refine ⟨J, ⟨p1, ?_⟩, ?_⟩
            · intro i hi
              by_cases e : i = k
              · subst e
                have := H i hi
                simp only [a1, a3, and_false, false_and, Bool.false_eq_true, if_false] at this ⊢
                exact this
              · exact keepH J (fun a j _ _ => rfl) i hi e
            · rw [e230_136]
              simp only [e230_0, e230_1, e230_2, e230_3, e230_6, e230_9, e230_10, e230_11, e230_14, e230_17, e230_18, e230_21, e230_22, e230_25, e230_28, e230_29, e230_32, e230_34, e230_37, e230_38, e230_41, e230_42, e230_45, e230_46, e230_49, e230_52, e230_53, e230_54, e230_55, e230_56, e230_57, e230_60, e230_61, e230_62, e230_63, e230_66, e230_67, e230_70, e230_71, e230_72, e230_75, e230_77, e230_78, e230_80, e230_81, e230_84, e230_87, e230_88, e230_91, e230_93, e230_94, e230_95, e230_96, e230_99, e230_101, e230_102, e230_105, e230_106, e230_107, e230_110, e230_111, e230_113, e230_114, e230_115, e230_116, e230_117, e230_120, e230_121, e230_123, e230_124, e230_125, e230_126, e230_127, e230_128, e230_129, e230_130, e230_133, e230_134, e230_138, e230_139, e230_142, e230_145, e230_146, e230_149, e230_151, e230_154, e230_157, e230_158, e230_160, e230_162, e230_165, e230_166, e230_169, e230_171, e230_174, e230_177, e230_180, e230_181, e230_184, e230_186, e230_188, e230_189, e230_191, e230_192, e230_194, e230_195, e230_198, e230_200, e230_202, e230_203, e230_205, e230_206, e230_207, e230_208, e230_209, e230_210, e230_213, e230_215, e230_217, e230_218, e230_220, e230_221, e230_222, e230_225, e230_226, e230_227, e230_230, e230_232, e230_234, e230_235, e230_237, e230_238, e230_240, e230_241, e230_244, e230_247, e230_248, e230_251, e230_253, e230_254, e230_257, e230_258, e230_259, e230_262, e230_264, e230_265, e230_268, e230_269, e230_270, e230_273, e230_275, e230_276, e230_279, e230_280, e230_281, e230_284, e230_285, e230_288, e230_289, e230_290, e230_293, e230_294, e230_295, e230_298, e230_299, e230_302, e230_303, e230_304, e230_307, e230_310, e230_313, e230_314, e230_315, e230_317, e230_318, e230_321, e230_323, e230_325, e230_326, e230_329, e230_331, e230_332, e230_333, e230_334, e230_335, e230_336, e230_337, e230_340, e230_342, e230_343, e230_344, e230_345, e230_348, e230_349, e230_350, e230_351, e230_352, e230_353, e230_357, e230_358, e230_361, e230_362, e230_365, e230_366, e230_368, e230_369, e230_371, e230_372, e230_373, e230_374, e230_375, e230_378, e230_380, e230_381, e230_382, e230_385, e230_387, e230_388, e230_389, e230_390, e230_391, e230_392, e230_393, e230_396, e230_399, e230_400, e230_403, e230_405, e230_406, e230_409, e230_411, e230_412, e230_413, e230_414, e230_414r, e230_415, e230_418, e230_419, e230_420, e230_423, e230_424, e230_426, e230_429, e230_431, rk_n, rk_v, nl_n, nl_i, nl_r, cat_n, ip_cat_int, ip_cat_ref, ip_cat_long, ip_rf_some, Nat.reduceAdd, Nat.reduceLeDiff, Nat.reduceLT, Nat.le_refl, Nat.zero_le, y17, y55, y56, nu_ge, lk, lc, g1, k8, P8, T8, hasB, ite_0, a1, a3, nu_1, Bool.false_eq_true, Bool.true_eq_false, if_true, if_false, not_true_eq_false, not_false_eq_true, zle, eq_self]
      · intro i hi
        obtain ⟨x1, x2, x3⟩ := cf8 i hi
        rw [j3 302 _ (by decide) (by decide) (by decide), j3 303 _ (by decide) (by decide) (by decide), j3 304 _ (by decide) (by decide) (by decide), x1, x2, x3, rw1 302 _ (by decide), rw1 303 _ (by decide), rw1 304 _ (by decide)]
        simp only [Nat.not_lt_zero, false_and, and_false, if_false]
        exact ⟨trivial, trivial, trivial⟩
      · rintro J ⟨⟨p1, H⟩, e⟩
        have q265 : ∀ j, J 265 j = J3 265 j := fun j => p1 265 j (by omega)
        have y17 := (q265 17).trans g17
        have y55 := (q265 55).trans g55
        have y56 := (q265 56).trans g56
        have y57 := (q265 57).trans g57
        refine ⟨ip_up (ip_up (ip_up J 293 N (Int32.ofNat (jP c std rst br win V fl lev ap b0 b1))) 296 N (Int32.ofNat (jZ c std rst br win V fl lev ap b0 b1))) 298 N (Int32.ofNat (jT c std rst br win V fl lev ap b0 b1)), some (.int (Int32.ofNat c)), nl_i, ?_, ?_, ?_, ?_, ?_, ?_⟩
        · exact onlyP_up (onlyP_up (onlyP_up (onlyP_mono p1 (fun a k e => Or.inr e)) (Or.inl ⟨by omega, rfl⟩)) (Or.inl ⟨by omega, rfl⟩)) (Or.inl ⟨by omega, rfl⟩)
        · rw [up_a (by decide), up_a (by decide), up_eq]
        · rw [up_a (by decide), up_eq]
        · rw [up_eq]
        · intro k hk
          have := H k hk
          simp only [up_a, Nat.reduceEqDiff, not_false_eq_true]
          simp only [st, not_false_eq_true, true_and]
          exact this
        · have e' : rf (d + 3) 230 128 [some (.ref 265), some (.int (Int32.ofNat b0)), some (.int (Int32.ofNat b1)), some (.int (jO c std rst br win V fl lev ap b0 b1)), some (.int (Int32.ofNat N)), none, none] [] (SH n, J3, L, R, nc, ns, nx) = rf (d + 3) 230 136 [some (.ref 265), some (.int (Int32.ofNat b0)), some (.int (Int32.ofNat b1)), some (.int (jO c std rst br win V fl lev ap b0 b1)), some (.int (Int32.ofNat N)), some (.int (Int32.ofNat 0)), none] [] (SH n, J3, L, R, nc, ns, nx) := by
            simp only [e230_128, e230_129, e230_130, e230_133, e230_134, rk_n, rk_v, nl_n, nl_i, nl_r, cat_n, ip_cat_int, ip_cat_ref, ip_cat_long, ip_rf_some, Nat.reduceAdd, Nat.reduceLeDiff, Nat.reduceLT, Nat.le_refl, Nat.zero_le, s1, Bool.false_eq_true, Bool.true_eq_false, if_true, if_false, not_true_eq_false, not_false_eq_true, zle, eq_self]
            rfl
          refine Eq.trans e' (Eq.trans e ?_)
          rw [e230_136]
          simp only [e230_138, e230_139, e230_142, e230_247, e230_248, e230_251, e230_253, e230_254, e230_257, e230_258, e230_259, e230_262, e230_264, e230_265, e230_268, e230_269, e230_270, e230_273, e230_275, e230_276, e230_279, rk_n, rk_v, nl_n, nl_i, nl_r, cat_n, ip_cat_int, ip_cat_ref, ip_cat_long, ip_rf_some, Nat.reduceAdd, Nat.reduceLeDiff, Nat.reduceLT, Nat.le_refl, Nat.zero_le, hR, ia_lit, nu_i, nu_tn, lN, hN, y17, y55, y56, y57, up_a, Nat.reduceEqDiff, Int32.le_refl, Bool.false_eq_true, Bool.true_eq_false, if_true, if_false, not_true_eq_false, not_false_eq_true, zle, eq_self]
  have o5 : onlyP (fun a k => (a = 265 ∧ (f5 k ∨ k = 37 ∨ k = 38)) ∨ atQ N a k) I J4 := onlyP_tr o3 (onlyP_mono o4 (fun a k e => by unfold atQ; omega))
  have z265 : ∀ k, J4 265 k = J1 265 k := fun k => (o4 265 k (by omega)).trans (j265 k)
  have y62 : J4 265 62 = Int32.ofNat (jS c std rst br win V fl lev ap b0 b1) := (z265 62).trans h62
  have y17 : J4 265 17 = Int32.ofNat c := (z265 17).trans ((onlyM_get o1 (by unfold f5; omega)).trans X.2.1)
  have y38 : J4 265 38 = Int32.ofNat w := (z265 38).trans k38
  have y37 : J4 265 37 = Int32.ofNat N := (z265 37).trans k37
  have yy58 : J4 265 58 = Int32.ofNat lev := (z265 58).trans Z1.1
  have yy59 : J4 265 59 = Int32.ofNat ap := (z265 59).trans Z1.2.1
  have lw : w < 2147483648 := by omega
  have w40 : w < 40 := by omega
  have row : ∀ a, 289 ≤ a → a ≤ 299 → J4 a w = I a w := fun a h1 h2 => o5 a w (fun e => by unfold atQ at e; omega)
  have y294 : J4 294 w = Int32.ofNat (V 7) := (row 294 (by omega) (by omega)).trans M.2.2.2.2.2.1
  have X4 : MTx c std rst br win J4 := by
    obtain ⟨x1, x2, x3, x4, x5, x6⟩ := X
    refine ⟨x1, y17, ?_, ?_, ?_, ?_⟩
    · intro k hk; rw [o5 275 k (fun e => by unfold atQ at e; omega)]; exact x3 k hk
    · intro k hk; rw [o5 276 k (fun e => by unfold atQ at e; omega)]; exact x4 k hk
    · intro k hk; rw [o5 277 k (fun e => by unfold atQ at e; omega)]; exact x5 k hk
    · intro k hk; rw [o5 287 k (fun e => by unfold atQ at e; omega)]; exact x6 k hk
  have M4 : MNd w p 0 V fl J4 := by
    obtain ⟨x1, x2, x3, x4, x5, x6, x7, x8, x9, x10, x11⟩ := M
    refine ⟨x1, y38, x3, ?_, ?_, y294, ?_, ?_, ?_, ?_, fun e => by omega⟩
    · rw [row 293 (by omega) (by omega)]; exact x4
    · rw [row 296 (by omega) (by omega)]; exact x5
    · rw [row 295 (by omega) (by omega)]; exact x7
    · rw [row 298 (by omega) (by omega)]; exact x8
    · intro s hs; rw [o5 300 _ (fun e => by unfold atQ at e; omega), o5 301 _ (fun e => by unfold atQ at e; omega)]; exact x9 s hs
    · intro k hk; rw [o5 302 _ (fun e => by unfold atQ at e; omega)]; exact x10 k hk
  have AG := c241 (d := d) (n := n) (L := L) (nc := nc) (ns := ns) (nx := nx) hR X4 M4 a2
  have ag8 : agsN V ap c < 256 := setN_256 _ hc8
  have ll : lostM V lev ap c < 256 := by unfold lostM; split; exact ag8; omega
  have l7 : V 7 ||| jS c std rst br win V fl lev ap b0 b1 ||| lostM V lev ap c < 256 := Nat.or_lt_two_pow (n := 8) (Nat.or_lt_two_pow (n := 8) (v8 7) jS8) ll
  have a7 := of_andn _ l7 _ P8
  have a8 := of_andn _ (v8 8) _ jS8
  have y295 : J4 295 N = Int32.ofNat (V 8) := by
    rw [o4 295 N (by omega), j3 295 N (by decide) (by decide) (by decide), c295, rw1 295 w (by decide)]
    exact M.2.2.2.2.2.2.1
  generalize hJ5 : ip_up (ip_up J4 294 N (Int32.ofNat ((V 7 ||| jS c std rst br win V fl lev ap b0 b1 ||| lostM V lev ap c) &&& (255 ^^^ jP c std rst br win V fl lev ap b0 b1)))) 295 N (Int32.ofNat (V 8 &&& (255 ^^^ jS c std rst br win V fl lev ap b0 b1))) = J5
  have T1 : ∃ l5', ip_nl l5' = true ∧ rf (d + 3) 230 280 [some (.ref 265), some (.int (Int32.ofNat b0)), some (.int (Int32.ofNat b1)), some (.int (jO c std rst br win V fl lev ap b0 b1)), some (.int (Int32.ofNat N)), l5, none] [] (SH n, J4, L, R, nc, ns, nx) = rf (d + 3) 230 355 [some (.ref 265), some (.int (Int32.ofNat b0)), some (.int (Int32.ofNat b1)), some (.int (jO c std rst br win V fl lev ap b0 b1)), some (.int (Int32.ofNat N)), l5', some (.int (Int32.ofNat 0))] [] (SH n, J5, L, R, nc, ns, nx) := by
    refine ⟨some (.int (Int32.ofNat (V 7 ||| jS c std rst br win V fl lev ap b0 b1 ||| lostM V lev ap c))), nl_i, ?_⟩
    rw [← hJ5]
    unfold lostM at a7 ⊢
    rcases hl with rfl | rfl
    · rw [if_pos rfl] at a7 ⊢
      simp only [e230_280, e230_281, e230_284, e230_285, e230_288, e230_289, e230_290, e230_293, e230_294, e230_295, e230_298, e230_299, e230_302, e230_303, e230_304, e230_307, e230_310, e230_313, e230_314, e230_315, e230_317, e230_318, e230_321, e230_323, e230_325, e230_326, e230_329, e230_331, e230_332, e230_333, e230_334, e230_335, e230_336, e230_337, e230_340, e230_342, e230_343, e230_344, e230_345, e230_348, e230_349, e230_350, e230_351, e230_352, e230_353, rk_n, rk_v, nl_n, nl_i, nl_r, cat_n, ip_cat_int, ip_cat_ref, ip_cat_long, ip_rf_some, Nat.reduceAdd, Nat.reduceLeDiff, Nat.reduceLT, Nat.le_refl, Nat.zero_le, hR, ia_lit, nu_i, nu_tn, lN, hN, lw, w40, y38, y294, y62, yy58, yy59, show (Int32.ofNat 1 = 1) = True from eq_true rfl, AG, of_or, d293, a7, up_a, Nat.reduceEqDiff, y295, a8, n5, Bool.false_eq_true, Bool.true_eq_false, if_true, if_false, not_true_eq_false, not_false_eq_true, zle, eq_self]
      rfl
    · rw [if_neg (by decide)] at a7 ⊢
      have or0 : Int32.ofNat (V 7 ||| jS c std rst br win V fl 2 ap b0 b1) ||| 0 = Int32.ofNat (V 7 ||| jS c std rst br win V fl 2 ap b0 b1 ||| 0) := of_or _ 0
      simp only [e230_280, e230_281, e230_284, e230_285, e230_288, e230_289, e230_290, e230_293, e230_294, e230_295, e230_298, e230_299, e230_302, e230_303, e230_304, e230_307, e230_310, e230_313, e230_314, e230_315, e230_317, e230_318, e230_321, e230_323, e230_325, e230_326, e230_329, e230_331, e230_332, e230_333, e230_334, e230_335, e230_336, e230_337, e230_340, e230_342, e230_343, e230_344, e230_345, e230_348, e230_349, e230_350, e230_351, e230_352, e230_353, rk_n, rk_v, nl_n, nl_i, nl_r, cat_n, ip_cat_int, ip_cat_ref, ip_cat_long, ip_rf_some, Nat.reduceAdd, Nat.reduceLeDiff, Nat.reduceLT, Nat.le_refl, Nat.zero_le, hR, ia_lit, nu_i, nu_tn, lN, hN, lw, w40, y38, y294, y62, yy58, yy59, show (Int32.ofNat 2 = 1) = False from eq_false (by decide), of_or, or0, d293, a7, up_a, Nat.reduceEqDiff, y295, a8, n5, Bool.false_eq_true, Bool.true_eq_false, if_true, if_false, not_true_eq_false, not_false_eq_true, zle, eq_self]
      rfl
  obtain ⟨l5', n5', T1⟩ := T1
  have q5 : ∀ a k, ¬ a = 294 → ¬ a = 295 → J5 a k = J4 a k := by intro a k h1 h2; rw [← hJ5, up_a h2, up_a h1]
  have PT : jP c std rst br win V fl lev ap b0 b1 ||| jT c std rst br win V fl lev ap b0 b1 < 256 := Nat.or_lt_two_pow (n := 8) P8 T8
  have kp : ∀ s, s < 2 → J5 301 (2 * N + s) = Int32.ofNat (V (14 + s)) := by
    intro s hs
    rw [q5 301 _ (by decide) (by decide), o4 301 _ (by omega), j3 301 _ (by decide) (by decide) (by decide), (ck s hs).2, rw1 301 _ (by decide)]
    exact (M.2.2.2.2.2.2.2.2.1 s hs).2
  refine Exists.elim (for_ex (c := 2) (fun k (J : Nat → Nat → Int32) => rf (d + 3) 230 355 [some (.ref 265), some (.int (Int32.ofNat b0)), some (.int (Int32.ofNat b1)), some (.int (jO c std rst br win V fl lev ap b0 b1)), some (.int (Int32.ofNat N)), l5', some (.int (Int32.ofNat k))] [] (SH n, J, L, R, nc, ns, nx)) (fun k J => onlyP (fun a j => a = 301 ∧ (j = 2 * N ∨ j = 2 * N + 1)) J5 J ∧ ∀ s, s < 2 → J 301 (2 * N + s) = (if s < k then Int32.ofNat (V (14 + s) &&& (255 ^^^ (jP c std rst br win V fl lev ap b0 b1 ||| jT c std rst br win V fl lev ap b0 b1))) else Int32.ofNat (V (14 + s)))) ?_ J5 ⟨onlyP_refl, fun s hs => by rw [if_neg (by omega)]; exact kp s hs⟩) ?_
  · rintro k J hk ⟨p1, H⟩
    have lk : k < 2147483648 := by omega
    have g0 : ((2 : Int32) ≤ Int32.ofNat k) = (2 ≤ k) := nu_lit (c := 2) (by omega) lk
    have g1 : ¬ 2 ≤ k := by omega
    have f1 : 2 * N + k < 2147483648 := by omega
    have f2 : 2 * N + k < 80 := by omega
    have rd := H k hk
    rw [if_neg (by omega)] at rd
    have z293 : J 293 N = Int32.ofNat (jP c std rst br win V fl lev ap b0 b1) := (p1 293 N (by omega)).trans ((q5 293 N (by decide) (by decide)).trans d293)
    have z298 : J 298 N = Int32.ofNat (jT c std rst br win V fl lev ap b0 b1) := (p1 298 N (by omega)).trans ((q5 298 N (by decide) (by decide)).trans d298)
    have ak := of_andn _ (v8 (14 + k)) _ PT
    refine ⟨ip_up J 301 (2 * N + k) (Int32.ofNat (V (14 + k) &&& (255 ^^^ (jP c std rst br win V fl lev ap b0 b1 ||| jT c std rst br win V fl lev ap b0 b1)))), ⟨onlyP_up p1 ⟨rfl, by omega⟩, ?_⟩, ?_⟩
    · intro s hs
      by_cases e : s = k
      · subst e; rw [up_eq, if_pos (by omega)]
      · have e1 : (s < k + 1) = (s < k) := propext (by omega)
        rw [up_k (by omega)]
        simp only [e1]
        exact H s hs
    · rw [e230_355]
      simp only [e230_357, e230_358, e230_361, e230_362, e230_365, e230_366, e230_368, e230_369, e230_371, e230_372, e230_373, e230_374, e230_375, e230_378, e230_380, e230_381, e230_382, e230_385, e230_387, e230_388, e230_389, e230_390, e230_391, e230_392, e230_393, e230_396, rk_n, rk_v, nl_n, nl_i, nl_r, cat_n, ip_cat_int, ip_cat_ref, ip_cat_long, ip_rf_some, Nat.reduceAdd, Nat.reduceLeDiff, Nat.reduceLT, Nat.le_refl, Nat.zero_le, hR, ia_lit, nu_i, nu_tn, lN, hN, g0, g1, f1, f2, mu2, nu_add, rd, z293, z298, of_or, ak, nu_1, n5', Bool.false_eq_true, Bool.true_eq_false, if_true, if_false, not_true_eq_false, not_false_eq_true, zle, eq_self]
  · rintro J6 ⟨⟨p6, H6⟩, e6⟩
    have q2 : ((2 : Int32) ≤ Int32.ofNat 2) = True := eq_true (by decide)
    have z293 : J6 293 N = Int32.ofNat (jP c std rst br win V fl lev ap b0 b1) := (p6 293 N (by omega)).trans ((q5 293 N (by decide) (by decide)).trans d293)
    have z37 : J6 265 37 = Int32.ofNat N := (p6 265 37 (by omega)).trans ((q5 265 37 (by decide) (by decide)).trans y37)
    have old : ∀ a k, ¬ a = 265 → ¬ a = 292 → ¬ a = 294 → ¬ a = 295 → ¬ a = 301 → ip_up (ip_up (ip_up J6 292 N (Int32.ofNat (jP c std rst br win V fl lev ap b0 b1))) 265 37 (Int32.ofNat (N + 1))) 265 38 (Int32.ofNat N) a k = J4 a k := by
      intro a k h1 h2 h3 h4 h5
      rw [up_a h1, up_a h1, up_a h2, p6 a k (by omega), q5 a k h3 h4]
    refine ⟨ip_up (ip_up (ip_up J6 292 N (Int32.ofNat (jP c std rst br win V fl lev ap b0 b1))) 265 37 (Int32.ofNat (N + 1))) 265 38 (Int32.ofNat N), ?_, ?_, ?_, ?_, ?_, ?_, ?_, ?_, ?_, ?_, ?_, ?_, ?_, ?_, ?_, ?_, ?_, ?_, ?_⟩
    · refine Eq.trans front (Eq.trans MID (Eq.trans T1 (Eq.trans e6 ?_)))
      rw [e230_355]
      simp only [e230_357, e230_358, e230_399, e230_400, e230_403, e230_405, e230_406, e230_409, e230_411, e230_412, e230_413, e230_414, e230_414r, e230_415, e230_418, e230_419, e230_420, e230_423, e230_424, e230_426, e230_429, e230_431, rk_n, rk_v, nl_n, nl_i, nl_r, cat_n, ip_cat_int, ip_cat_ref, ip_cat_long, ip_rf_some, Nat.reduceAdd, Nat.reduceLeDiff, Nat.reduceLT, Nat.le_refl, Nat.zero_le, hR, ia_lit, nu_i, nu_tn, lN, hN, q2, z293, up_a, z37, nu_1, Nat.reduceEqDiff, n5', Bool.false_eq_true, Bool.true_eq_false, if_true, if_false, not_true_eq_false, not_false_eq_true, zle, eq_self]
    · have p5 : onlyP (fun a k => (a = 265 ∧ (f5 k ∨ k = 37 ∨ k = 38)) ∨ atQ N a k) I J5 := by rw [← hJ5]; exact onlyP_up (onlyP_up o5 (Or.inr (by unfold atQ; omega))) (Or.inr (by unfold atQ; omega))
      have p7 := onlyP_tr p5 (onlyP_mono p6 (fun a k e => Or.inr (by unfold atQ; omega)))
      exact onlyP_up (onlyP_up (onlyP_up p7 (Or.inr (by unfold atQ; omega))) (Or.inl ⟨rfl, by omega⟩)) (Or.inl ⟨rfl, by omega⟩)
    · rw [up_k (by decide), up_eq]
    · rw [up_eq]
    · rw [old 289 N (by decide) (by decide) (by decide) (by decide) (by decide), o4 289 N (by omega), j3 289 N (by decide) (by decide) (by decide)]; exact c289
    · rw [old 290 N (by decide) (by decide) (by decide) (by decide) (by decide), o4 290 N (by omega), j3 290 N (by decide) (by decide) (by decide)]; exact c290
    · rw [old 291 N (by decide) (by decide) (by decide) (by decide) (by decide), o4 291 N (by omega)]; exact j291
    · rw [up_a (by decide), up_a (by decide), up_eq]
    · rw [old 293 N (by decide) (by decide) (by decide) (by decide) (by decide)]; exact d293
    · rw [up_a (by decide), up_a (by decide), up_a (by decide), p6 294 N (by omega), ← hJ5, up_a (by decide), up_eq]
    · rw [up_a (by decide), up_a (by decide), up_a (by decide), p6 295 N (by omega), ← hJ5, up_eq]
    · rw [old 296 N (by decide) (by decide) (by decide) (by decide) (by decide)]; exact d296
    · rw [old 297 N (by decide) (by decide) (by decide) (by decide) (by decide), o4 297 N (by omega)]; exact j297
    · rw [old 298 N (by decide) (by decide) (by decide) (by decide) (by decide)]; exact d298
    · rw [old 299 N (by decide) (by decide) (by decide) (by decide) (by decide), o4 299 N (by omega), j3 299 N (by decide) (by decide) (by decide)]; exact c299
    · rw [old 300 _ (by decide) (by decide) (by decide) (by decide) (by decide), o4 300 _ (by omega)]; exact j300
    · rw [old 300 _ (by decide) (by decide) (by decide) (by decide) (by decide), o4 300 _ (by omega)]; exact j301
    · intro s hs
      rw [up_a (by decide), up_a (by decide), up_a (by decide), H6 s hs, if_pos hs]
    · intro k hk
      rw [old 302 _ (by decide) (by decide) (by decide) (by decide) (by decide), old 303 _ (by decide) (by decide) (by decide) (by decide) (by decide), old 304 _ (by decide) (by decide) (by decide) (by decide) (by decide)]
      exact dk k hk
end MQ
