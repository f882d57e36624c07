/-! CHAIN: the class's trySecond -/
section CI
variable {n d a b T c s t z o w m p lev k side ap b0 b1 h0 h1 md C F B pg po u hi f0 : Nat} {I J K M : Nat → Nat → Int32} {L : Nat → Nat → Int64} {R : Nat → Nat → Option Nat} {nc ns : Nat} {nx : Bool} {x y j v lv hw0 what ah num hw came beh : Int32} {h : ip_H} {f g std rst V W : Nat → Nat} {win : Nat → Bool} {br fl : Nat → Int32}
def at147 (a k : Nat) : Prop := (a = 24 ∧ 8 ≤ k) ∨ a = 39 ∨ (57 ≤ a ∧ a ≤ 62) ∨ a = 41 ∨ a = 54 ∨ a = 55 ∨ (a = 40 ∧ 3 ≤ k ∧ k ≤ 8)
theorem T147 (hT : T = 9 ∨ T = 16) : ∀ i, i ≤ 6 → ∀ k, ¬ at147 (T + i) k := by intro i hi k e; unfold at147 at e; omega
theorem F147 (hF : 65 ≤ F) : ∀ i, i ≤ 4 → ∀ k, ¬ at147 (F + i) k := by intro i hi k e; unfold at147 at e; omega
theorem S147 {P : Nat → Nat → Prop} (H : onlyP at147 I J) (S : SIT 24 T F B c std rst br win V fl lev ap I R) : SIT 24 T F B c std rst br win V fl lev ap J R := by
  obtain ⟨r0, r1, r2, s3, s4, s5, sh⟩ := S
  refine ⟨r0, r1, r2, ?_, ?_, ?_, ?_⟩
  · rw [H 24 3 (by unfold at147; omega)]; exact s3
  · rw [H 24 4 (by unfold at147; omega)]; exact s4
  · rw [H 24 5 (by unfold at147; omega)]; exact s5
  · intro s hs; rw [H (24 + 13) s (by unfold at147; omega), H (24 + 14) s (by unfold at147; omega)]; exact sh s hs
def MBe (c : Nat) (std rst : Nat → Nat) (br : Nat → Int32) (win : Nat → Bool) (V : Nat → Nat) (fl : Nat → Int32) (lev ap pg : Nat) (I : Nat → Nat → Int32) : Prop := ∀ e, e < 256 → I 62 e = -1 ∨ ∃ f, I 62 e = Int32.ofNat f ∧ isBest (fun u => rkN (ogI c std rst br win V fl lev ap u)) (fun u => u &&& e = u ∧ pgC u rst c ≤ pg) f
theorem E2_lt : E2 c std rst br win V fl lev ap s < 2 ^ c := setN_lt _ c
theorem c149 (hR : LYR R) (X : CTx T c std rst br win I L) (hT9 : T = 9 ∨ T = 16) (N : CNd F B c 1 V fl I) (hF : 65 ≤ F) (hB : 65 ≤ B) (S : SIT 24 T F B c std rst br win V fl 1 ap I R) (a2 : ap < 2) (hVc : ∀ j, V j < 2 ^ c) (hs : s < 2 ^ c) (hog : ogI c std rst br win V fl 1 ap (s &&& errS c std rst br win V fl 1 ap) = 0) (hSu : sureI win (V 4) (V 6) = Int32.ofNat (1 - ap)) (hp : pg < 2147483648) (MB : MBe c std rst br win V fl 1 ap pg I) (e6 : I 40 6 = Int32.ofNat hi) (e4 : I 40 4 = Int32.ofNat f0) (l6 : hi < 2147483648) (l4 : f0 < 256) :
    ∃ J f, cf (d + 5) 149 [.ref 40, .ref 24, .int (Int32.ofNat s), .int (Int32.ofNat pg)] (SH n, I, L, R, nc, ns, nx) = some (.inl none, (SH n, J, L, sitR R 41 T 57 F, nc, ns, true)) ∧ onlyP at147 I J ∧ MBe c std rst br win V fl 1 ap pg J ∧ isBest (fun u => rkN (ogI c std rst br win V fl 1 ap u)) (fun u => u &&& E2 c std rst br win V fl 1 ap s = u ∧ pgC u rst c ≤ pg) f ∧
      ((hi < 2 * rkN (ogI c std rst br win V fl 1 ap f) ∨ (2 * rkN (ogI c std rst br win V fl 1 ap f) = hi ∧ 0 < 2 * rkN (ogI c std rst br win V fl 1 ap f) ∧ smN s f0 = true)) → J 40 6 = Int32.ofNat (2 * rkN (ogI c std rst br win V fl 1 ap f)) ∧ J 40 3 = ogI c std rst br win V fl 1 ap f ∧ J 40 4 = Int32.ofNat s ∧ J 40 5 = Int32.ofNat f) ∧
      (¬ (hi < 2 * rkN (ogI c std rst br win V fl 1 ap f) ∨ (2 * rkN (ogI c std rst br win V fl 1 ap f) = hi ∧ 0 < 2 * rkN (ogI c std rst br win V fl 1 ap f) ∧ smN s f0 = true)) → J 40 6 = I 40 6 ∧ J 40 3 = I 40 3 ∧ J 40 4 = I 40 4 ∧ J 40 5 = I 40 5) := by
  have hC : isC 24 := Or.inl rfl
  have hC' : isC 41 := Or.inr rfl
  have hc8 := X.2.1
  have nF := N.1
  have v8 := N.2.2.1
  have s8 : s < 256 := Nat.lt_of_lt_of_le hs (p2le hc8)
  have P1 := Nat.two_pow_pos c
  have AP := c150 (d := d + 4) (n := n) (L := L) (R := R) (nc := nc) (ns := ns) (nx := nx) hC S.2.2.2.2.1 a2
  have q0 : (if ap = 0 then s else 0) < 2 ^ c := by split <;> omega
  have q1 : (if ap = 1 then s else 0) < 2 ^ c := by split <;> omega
  obtain ⟨J1, JU, o1, y8, y9, y10, y11, y12, yb0, yb1⟩ := c108 (d := d + 1) (n := n) (nc := nc) (ns := ns) (nx := nx) hR hC X N S a2 q0 q1
  have ff : fstN ap (if ap = 0 then s else 0) (if ap = 1 then s else 0) = s := by rcases lt2 a2 with rfl | rfl <;> rfl
  have fg : fstN ap (if ap = 1 then s else 0) (if ap = 0 then s else 0) = 0 := by rcases lt2 a2 with rfl | rfl <;> rfl
  have jo : jO c std rst br win V fl 1 ap (if ap = 0 then s else 0) (if ap = 1 then s else 0) = 0 := by
    unfold jO
    rw [ff, fg, Nat.zero_and, Nat.or_zero]
    exact hog
  have js : jS c std rst br win V fl 1 ap (if ap = 0 then s else 0) (if ap = 1 then s else 0) = s &&& heardN c std rst br win V fl 1 ap := by unfold jS; rw [if_pos jo, ff]
  have jp : jP c std rst br win V fl 1 ap (if ap = 0 then s else 0) (if ap = 1 then s else 0) = V 6 := by unfold jP; rw [if_pos (Or.inl jo)]
  have jt : jT c std rst br win V fl 1 ap (if ap = 0 then s else 0) (if ap = 1 then s else 0) = 0 := by unfold jT; rw [if_pos (Or.inl jo)]
  rw [jo] at y8
  rw [js] at y9
  rw [jt] at y11
  rw [jp] at y12
  have m1 : ∀ a k, atJ 24 a k → at147 a k := by intro a k e; unfold atJ at e; unfold at147; omega
  have p1 : onlyP at147 I J1 := onlyP_mono o1 m1
  have kT : ∀ J, onlyP at147 I J → CTx T c std rst br win J L := fun J o => CTx_P o (T147 hT9) X
  have kN : ∀ J, onlyP at147 I J → CNd F B c 1 V fl J := fun J o => CNd_P o (fun i hi => F147 hF i (by omega)) (F147 (F := B) hB 0 (by omega) 7) N
  have kS : ∀ J, onlyP at147 I J → SIT 24 T F B c std rst br win V fl 1 ap J R := fun J o => S147 (P := at147) o S
  have nA57 : isN 57 := Or.inr (Or.inr (Or.inl rfl))
  obtain ⟨K, MK, o2, z0, z1, z2, z3, z4, z5, z6, z7, z8, z9, z10, z11, zb0, zb1, zk, zf⟩ := c114 (d := d + 2) (n := n) (nc := nc) (ns := ns) (nx := nx) (A := 57) (ah := -1) (num := 0) hR hC (kT J1 p1) (kN J1 p1) (kS J1 p1) a2 (Or.inl rfl) nA57 (by omega) y8 y9 y11 y12 yb0 yb1 (Nat.lt_of_le_of_lt Nat.and_le_left s8) (v8 6) (by omega) (fun i e => by rw [Nat.zero_testBit] at e; cases e) (fun i e => by rw [Nat.zero_testBit] at e; cases e) (fun i e => e)
  have p2 : onlyP at147 I K := onlyP_tr p1 (onlyP_mono o2 (fun a k e => by unfold inN at e; unfold at147; omega))
  have N2 : CNd 57 F c 2 (V2 V ap s (s &&& heardN c std rst br win V fl 1 ap)) fl K := by
    have w5 := N.2.2.2.2.2.2.2.2.2.2.2.2.1
    have w4 := N.2.2.2.2.2.2.2.2.2.2.2.2.2
    have i7 := (kN K p2).2.2.2.2.2.2.1
    have ifl := (kN J1 p1).2.2.2.2.2.2.2.2.2.2.1
    refine ⟨nA57, nF, V2_lt v8 s8 (Nat.lt_of_le_of_lt Nat.and_le_left s8), ?_, ?_, z6, z7, z8, z10, ?_, ?_, fun _ => i7, w5, w4⟩
    · rw [z4, Nat.xor_zero, and_dis hc8 (hVc 4) (fun i hi e => w4 i hi e)]; rfl
    · rw [z5, Nat.xor_zero, and_dis hc8 (hVc 5) (fun i hi e => by
        rw [w5 i hi] at e
        cases q : (V 6).testBit i with
        | false => rfl
        | true => rw [q] at e; cases e)]; rfl
    · intro q hq
      have k6 := zk q hq
      have x0 : ∀ v, v < 256 → v &&& (255 ^^^ 0) = v := fun v hv => by rw [Nat.xor_zero]; exact Nat.and_two_pow_sub_one_of_lt_two_pow (n := 8) hv
      rw [x0 _ (v8 _)] at k6
      rcases lt2 hq with rfl | rfl
      · exact ⟨zb0, k6⟩
      · exact ⟨zb1, k6⟩
    · intro k hk e
      rw [(zf k (by omega)).1, Nat.zero_testBit, if_neg (by decide)]
      exact ifl k hk e
  have R2 := sitR_ly (T := T) (F := 57) (B := F) hC' hR
  obtain ⟨K2, ST, o3, S2⟩ := c100 (d := d + 1) (n := n) (nc := nc) (ns := ns) (nx := true) (ap := ap) hR hC' (kT K p2) N2 (Or.inr rfl) z0 z2 z3 (v8 6) (by rfl) hSu
  have p3 : onlyP at147 I K2 := onlyP_tr p2 (onlyP_mono o3 (fun a k e => by unfold atS at e; unfold at147; omega))
  have X3 := kT K2 p3
  have N3 : CNd 57 F c 2 (V2 V ap s (s &&& heardN c std rst br win V fl 1 ap)) fl K2 := CNd_P o3 (fun i hi k e => by unfold atS at e; omega) (fun e => by unfold atS at e; omega) N2
  have OE := c109 (d := d + 4) (n := n) (L := L) (nc := nc) (ns := ns) (nx := true) R2 hC' S2 a2
  rw [errS2 a2 hc8] at OE
  have hE2 : E2 c std rst br win V fl 1 ap s < 2 ^ c := E2_lt
  have E28 : E2 c std rst br win V fl 1 ap s < 256 := Nat.lt_of_lt_of_le hE2 (p2le hc8)
  have lE : E2 c std rst br win V fl 1 ap s < 2147483648 := by omega
  obtain ⟨f, BS, fB⟩ := c130 (d := d + 1) (n := n) (nc := nc) (ns := ns) (nx := true) (E := E2 c std rst br win V fl 1 ap s) (pg := pg) R2 hC' X3 N3 S2 hE2 hp (pgC_0 c)
  have og2 : ∀ u, ogI c std rst br win (V2 V ap s (s &&& heardN c std rst br win V fl 1 ap)) fl 2 ap u = ogI c std rst br win V fl 1 ap u := fun u => ogI_V rfl rfl
  simp only [og2] at fB
  have p40 : ∀ j, K2 40 j = I 40 j := by
    intro j
    rw [o3 40 j (fun e => by unfold atS at e; omega), o2 40 j (fun e => by unfold inN at e; omega), o1 40 j (fun e => by unfold atJ at e; omega)]
  have p62 : ∀ j, K2 62 j = I 62 j := by
    intro j
    rw [o3 62 j (fun e => by unfold atS at e; omega), o2 62 j (fun e => by unfold inN at e; omega), o1 62 j (fun e => by unfold atJ at e; omega)]
  -- the memory behind the memo
  obtain ⟨K3, o4, MB3, k62, MEM⟩ : ∃ K3, onlyP (fun a k => a = 62) K2 K3 ∧ MBe c std rst br win V fl 1 ap pg K3 ∧ K3 62 (E2 c std rst br win V fl 1 ap s) = Int32.ofNat f ∧ rf (d + 5) 149 71 [some (.ref 40), some (.ref 24), some (.int (Int32.ofNat s)), some (.int (Int32.ofNat pg)), some (.int (Int32.ofNat (E2 c std rst br win V fl 1 ap s))), none, none] [] (SH n, K2, L, sitR R 41 T 57 F, nc, ns, true) = rf (d + 5) 149 99 [some (.ref 40), some (.ref 24), some (.int (Int32.ofNat s)), some (.int (Int32.ofNat pg)), some (.int (Int32.ofNat (E2 c std rst br win V fl 1 ap s))), none, none] [] (SH n, K3, L, sitR R 41 T 57 F, nc, ns, true) := by
    by_cases g : I 62 (E2 c std rst br win V fl 1 ap s) = -1
    · have g' : K2 62 (E2 c std rst br win V fl 1 ap s) = -1 := (p62 _).trans g
      refine ⟨ip_up K2 62 (E2 c std rst br win V fl 1 ap s) (Int32.ofNat f), onlyP_up onlyP_refl rfl, ?_, up_eq, ?_⟩
      · intro e he
        by_cases q : e = E2 c std rst br win V fl 1 ap s
        · subst q; right; exact ⟨f, up_eq, fB⟩
        · rw [up_k q, p62]; exact MB e he
      · simp only [e149_71, e149_72, e149_75, e149_77, e149_78, e149_79, e149_82, e149_83, e149_86, e149_88, e149_89, e149_92, e149_94, e149_95, e149_98, rk_n, rk_v, nl_n, nl_i, nl_r, cat_n, ip_cat_int, ip_cat_ref, ip_cat_long, ip_rf_some, Nat.reduceAdd, Nat.reduceLeDiff, Nat.reduceLT, Nat.le_refl, Nat.zero_le, R2, hC', ia_lit, nu_i, nu_tn, lE, E28, g', BS, Bool.false_eq_true, Bool.true_eq_false, if_true, if_false, not_true_eq_false, not_false_eq_true, zle, eq_self]
    · have g' : ¬ K2 62 (E2 c std rst br win V fl 1 ap s) = -1 := fun e => g ((p62 _).symm.trans e)
      obtain ⟨f', h1, h2⟩ := (MB _ E28).resolve_left g
      have : f' = f := best_uniq h2 fB
      subst this
      refine ⟨K2, onlyP_refl, ?_, (p62 _).trans h1, ?_⟩
      · intro e he; rw [p62]; exact MB e he
      · simp only [e149_71, e149_72, e149_75, e149_77, e149_78, e149_79, rk_n, rk_v, nl_n, nl_i, nl_r, cat_n, ip_cat_int, ip_cat_ref, ip_cat_long, ip_rf_some, Nat.reduceAdd, Nat.reduceLeDiff, Nat.reduceLT, Nat.le_refl, Nat.zero_le, R2, hC', ia_lit, nu_i, nu_tn, lE, E28, g', Bool.false_eq_true, Bool.true_eq_false, if_true, if_false, not_true_eq_false, not_false_eq_true, zle, eq_self]
  have p4 : onlyP at147 I K3 := onlyP_tr p3 (onlyP_mono o4 (fun a k e => by unfold at147; omega))
  have f2 : f < 2 ^ c := sub_lt2 hE2 fB.1.1
  have f8 : f < 256 := fB.2.1
  have X4 := kT K3 p4
  have N4 : CNd 57 F c 2 (V2 V ap s (s &&& heardN c std rst br win V fl 1 ap)) fl K3 := CNd_P o4 (fun i hi k e => by omega) (by omega) N3
  have S4 := SIT_P (P := fun a k => a = 62) o4 (by omega) (by omega) (by omega) S2
  have OB := c111 (d := d + 2) (n := n) (nc := nc) (ns := ns) (nx := true) R2 hC' X4 N4 S4 f2 (o := 0) P1
  rw [Nat.or_zero] at OB
  have oge : outE c std rst br win (V2 V ap s (s &&& heardN c std rst br win V fl 1 ap)) fl 2 ap f f = ogI c std rst br win V fl 1 ap f := og2 f
  rw [oge] at OB
  have z00 : Int32.ofNat 0 = 0 := rfl
  rw [z00] at OB
  have k40 : ∀ j, K3 40 j = I 40 j := fun j => (o4 40 j (by omega)).trans (p40 j)
  have rl := rkN_le (ogI c std rst br win V fl 1 ap f)
  have TK := c152 (d := d + 2) (n := n) (I := K3) (L := L) (R := sitR R 41 T 57 F) (nc := nc) (ns := ns) (nx := true) (hi := hi) (f0 := f0) (m := 2 * rkN (ogI c std rst br win V fl 1 ap f)) (s := s) (came := ogI c std rst br win V fl 1 ap f) (beh := Int32.ofNat f) ((k40 6).trans e6) ((k40 4).trans e4) l6 l4 (by omega) s8
  have AP2 := AP
  have TD := c143 (d := d + 4) (n := n) (I := K) (L := L) (nc := nc) (ns := ns) (nx := true) hC S.1
  have SR := c151 (d := d + 4) (n := n) (I := K) (L := L) (nc := nc) (ns := ns) (nx := true) hC S.2.1
  have lf : f < 2147483648 := by omega
  have lap : ap < 2147483648 := by omega
  have front : cf (d + 5) 149 [.ref 40, .ref 24, .int (Int32.ofNat s), .int (Int32.ofNat pg)] (SH n, I, L, R, nc, ns, nx) = rf (d + 5) 149 71 [some (.ref 40), some (.ref 24), some (.int (Int32.ofNat s)), some (.int (Int32.ofNat pg)), some (.int (Int32.ofNat (E2 c std rst br win V fl 1 ap s))), none, none] [] (SH n, K2, L, sitR R 41 T 57 F, nc, ns, true) := by
    have z1' : Int32.ofNat 0 = 0 := rfl
    rcases lt2 a2 with rfl | rfl
    · simp only [if_pos, if_neg, Nat.zero_ne_one] at JU
      simp only [show (0 : Nat) = 0 ↔ True from by simp, show (0 : Nat) = 1 ↔ False from by simp, Bool.false_eq_true, Bool.true_eq_false, if_true, if_false, not_true_eq_false, not_false_eq_true, zle, eq_self] at JU
      rw [z1'] at JU
      simp only [en149, e149_0, e149_1, e149_2, e149_5, e149_8, e149_9, e149_12, e149_13, e149_14, e149_17, e149_18, e149_21, e149_22, e149_25, e149_26, e149_29, e149_30, e149_31, e149_34, e149_35, e149_36, e149_39, e149_40, e149_43, e149_44, e149_47, e149_48, e149_51, e149_52, e149_55, e149_58, e149_62, e149_63, e149_66, e149_69, rk_n, rk_v, nl_n, nl_i, nl_r, cat_n, ip_cat_int, ip_cat_ref, ip_cat_long, ip_rf_some, Nat.reduceAdd, Nat.reduceLeDiff, Nat.reduceLT, Nat.le_refl, Nat.zero_le, hR, hC, hC', nA57, AP, nz0, show (Int32.ofNat 0 = 1) = False from eq_false (by decide), JU, MK, TD, SR, ST, R2, OE, nF, X.1, Bool.false_eq_true, Bool.true_eq_false, if_true, if_false, not_true_eq_false, not_false_eq_true, zle, eq_self]
    · simp only [show (1 : Nat) = 0 ↔ False from by simp, show (1 : Nat) = 1 ↔ True from by simp, Bool.false_eq_true, Bool.true_eq_false, if_true, if_false, not_true_eq_false, not_false_eq_true, zle, eq_self] at JU
      rw [z1'] at JU
      simp only [en149, e149_0, e149_1, e149_2, e149_5, e149_8, e149_9, e149_12, e149_13, e149_14, e149_17, e149_18, e149_21, e149_22, e149_25, e149_26, e149_29, e149_30, e149_31, e149_34, e149_35, e149_36, e149_39, e149_40, e149_43, e149_44, e149_47, e149_48, e149_51, e149_52, e149_55, e149_58, e149_62, e149_63, e149_66, e149_69, rk_n, rk_v, nl_n, nl_i, nl_r, cat_n, ip_cat_int, ip_cat_ref, ip_cat_long, ip_rf_some, Nat.reduceAdd, Nat.reduceLeDiff, Nat.reduceLT, Nat.le_refl, Nat.zero_le, hR, hC, hC', nA57, AP, nz1, show (Int32.ofNat 1 = 1) = True from eq_true rfl, JU, MK, TD, SR, ST, R2, OE, nF, X.1, Bool.false_eq_true, Bool.true_eq_false, if_true, if_false, not_true_eq_false, not_false_eq_true, zle, eq_self]
  have mul2 : (2 : Int32) * Int32.ofNat (rkN (ogI c std rst br win V fl 1 ap f)) = Int32.ofNat (2 * rkN (ogI c std rst br win V fl 1 ap f)) := mu2
  have back : rf (d + 5) 149 99 [some (.ref 40), some (.ref 24), some (.int (Int32.ofNat s)), some (.int (Int32.ofNat pg)), some (.int (Int32.ofNat (E2 c std rst br win V fl 1 ap s))), none, none] [] (SH n, K3, L, sitR R 41 T 57 F, nc, ns, true) = rf_k (d + 5) 149 133 [some (.ref 40), some (.ref 24), some (.int (Int32.ofNat s)), some (.int (Int32.ofNat pg)), some (.int (Int32.ofNat (E2 c std rst br win V fl 1 ap s))), some (.int (Int32.ofNat f)), some (.int (ogI c std rst br win V fl 1 ap f))] [] (cf (d + 4) 152 [.ref 40, .int (ogI c std rst br win V fl 1 ap f), .int (Int32.ofNat (2 * rkN (ogI c std rst br win V fl 1 ap f))), .int (Int32.ofNat s), .int (Int32.ofNat f)] (SH n, K3, L, sitR R 41 T 57 F, nc, ns, true)) := by
    simp only [e149_99, e149_100, e149_103, e149_105, e149_106, e149_108, e149_109, e149_112, e149_114, e149_115, e149_118, e149_120, e149_121, e149_123, e149_124, e149_126, e149_129, e149_130, e149_131, e149_133, rk_n, rk_v, nl_n, nl_i, nl_r, cat_n, ip_cat_int, ip_cat_ref, ip_cat_long, ip_rf_some, Nat.reduceAdd, Nat.reduceLeDiff, Nat.reduceLT, Nat.le_refl, Nat.zero_le, R2, hC', ia_lit, nu_i, nu_tn, lE, E28, k62, OB, c132n, mul2, Bool.false_eq_true, Bool.true_eq_false, if_true, if_false, not_true_eq_false, not_false_eq_true, zle, eq_self]
  by_cases g : hi < 2 * rkN (ogI c std rst br win V fl 1 ap f) ∨ (2 * rkN (ogI c std rst br win V fl 1 ap f) = hi ∧ 0 < 2 * rkN (ogI c std rst br win V fl 1 ap f) ∧ smN s f0 = true)
  · rw [if_pos g] at TK
    refine ⟨ip_up (ip_up (ip_up (ip_up K3 40 6 (Int32.ofNat (2 * rkN (ogI c std rst br win V fl 1 ap f)))) 40 3 (ogI c std rst br win V fl 1 ap f)) 40 4 (Int32.ofNat s)) 40 5 (Int32.ofNat f), f, ?_, ?_, ?_, fB, fun _ => ⟨?_, ?_, ?_, ?_⟩, fun h => absurd g h⟩
    · refine Eq.trans front (Eq.trans MEM (Eq.trans back ?_))
      rw [TK, rk_n, e149_136]
    · exact onlyP_up (onlyP_up (onlyP_up (onlyP_up p4 (by unfold at147; omega)) (by unfold at147; omega)) (by unfold at147; omega)) (by unfold at147; omega)
    · intro e he
      have ne : ¬ (62 : Nat) = 40 := by decide
      rw [up_a ne, up_a ne, up_a ne, up_a ne]
      exact MB3 e he
    · rw [up_k (by decide), up_k (by decide), up_k (by decide), up_eq]
    · rw [up_k (by decide), up_k (by decide), up_eq]
    · rw [up_k (by decide), up_eq]
    · rw [up_eq]
  · rw [if_neg g] at TK
    refine ⟨K3, f, ?_, p4, MB3, fB, fun h => absurd h g, fun _ => ⟨k40 6, k40 3, k40 4, k40 5⟩⟩
    refine Eq.trans front (Eq.trans MEM (Eq.trans back ?_))
    rw [TK, rk_n, e149_136]
end CI
