/-! CALL BY CALL: read -/
/-- through a wrapper, deeper -/
def SAMEXD (wr mm : Nat) (as : List Value) (z : Int32 → Int64) : Prop := ∀ (n : Nat) (I : Nat → Nat → Int32) (L : Nat → Nat → Int64) (R : Nat → Nat → Option Nat) (nc ns : Nat) (nx : Bool) (T c N w t p : Nat), REL T c N w t p I L R →
  ∃ (code b : Int32) (I1 I2 : Nat → Nat → Int32) (L1 L2 : Nat → Nat → Int64) (R1 : Nat → Nat → Option Nat) (nc1 ns1 : Nat) (nx1 : Bool) (T' c' N' w' t' p' : Nat),
    (∀ d, cf (d + 80) wr ((.ref 2 :: as) ++ [.ref 307]) (SH n, I, L, R, nc, ns, nx) = some (.inl (some (.int code)), (SH n, I1, L1, R1, nc1, ns1, nx1))) ∧
    (∀ d, cf (d + 80) mm (.ref 265 :: as) (SH n, I1, L1, R1, nc1, ns1, nx1) = some (.inl (some (.int b)), (SH n, I2, L2, R1, nc1, ns1, nx1))) ∧
    I2 265 0 = code ∧ (code = 0 → L2 307 0 = z b) ∧ REL T' c' N' w' t' p' I2 L2 R1 ∧ nc1 ≤ nc + 1 ∧ ns1 ≤ ns + 6 ∧ (∀ k, I2 0 k = I 0 k)
theorem b8a : ∀ c, c ≤ 8 → (2 ^ c - 1) &&& (255 ^^^ (2 ^ c - 1)) &&& (255 ^^^ 0) = 0 ∧ (2 ^ c - 1) &&& (255 ^^^ (2 ^ c - 1)) = 0 ∧ 2 ^ c - 1 < 2 ^ c ∧ (∀ i, i < c → (2 ^ c - 1).testBit i = true) ∧ 2 ^ c ≤ 256 := by decide
section S2
variable {n c : Nat} {I J K : Nat → Nat → Int32} {x : Int32}
/-- node 0, begun in both -/
theorem ND_0 (hc8 : c ≤ 8) (hx : x = Int32.ofNat (2 ^ c - 1)) (HC : ∀ a k, (65 ≤ a ∧ a ≤ 67) → K a k = beginI J 65 x a k) (HB : BEG c K) : ND c 0 K := by
  obtain ⟨b1, b2, b3, b4, b5⟩ := b8a c hc8
  obtain ⟨-, ⟨h0, h1, h2, h3, h4, h5, h6, h7, h8, h9, h10⟩, hk, hf⟩ := HB
  have V : ∀ a k, (65 ≤ a ∧ a ≤ 67) → ∀ y, beginI J 65 x a k = y → K a k = y := fun a k h y e => (HC a k h).trans e
  have s93 : sN (K 293 0) = 2 ^ c - 1 := by rw [h4]; exact sN_of (by omega)
  have s92 : sN (K 292 0) = 2 ^ c - 1 := by rw [h3]; exact sN_of (by omega)
  have s96 : sN (K 296 0) = 0 := by rw [h7]; rfl
  have i0 : inb (0 : Int32) (2 ^ c) := (nu_inb (t := 0) (by omega)).mpr (Nat.two_pow_pos c)
  have iA : inb (Int32.ofNat (2 ^ c - 1)) (2 ^ c) := (nu_inb (by omega)).mpr b3
  have v0 : K 65 0 = 0 := V 65 0 (by omega) 0 (by unfold beginI becomeI; simp only [up_a, up_k, up_eq, Nat.reduceEqDiff, Nat.reduceAdd, not_false_eq_true])
  have v1 : K 65 1 = -1 := V 65 1 (by omega) (-1) (by unfold beginI becomeI; simp only [up_a, up_k, up_eq, Nat.reduceEqDiff, Nat.reduceAdd, not_false_eq_true])
  have v2 : K 65 2 = -1 := V 65 2 (by omega) (-1) (by unfold beginI becomeI; simp only [up_a, up_k, up_eq, Nat.reduceEqDiff, Nat.reduceAdd, not_false_eq_true])
  have v3 : K 65 3 = x := V 65 3 (by omega) x (by unfold beginI becomeI; simp only [up_a, up_k, up_eq, Nat.reduceEqDiff, Nat.reduceAdd, not_false_eq_true])
  have v4 : K 65 4 = 0 := V 65 4 (by omega) 0 (by unfold beginI becomeI; simp only [up_a, up_k, up_eq, Nat.reduceEqDiff, Nat.reduceAdd, not_false_eq_true])
  have v5 : K 65 5 = 0 := V 65 5 (by omega) 0 (by unfold beginI becomeI; simp only [up_a, up_k, up_eq, Nat.reduceEqDiff, Nat.reduceAdd, not_false_eq_true])
  have v6 : K 65 6 = x := V 65 6 (by omega) x (by unfold beginI becomeI; simp only [up_a, up_k, up_eq, Nat.reduceEqDiff, Nat.reduceAdd, not_false_eq_true])
  have v7 : K 65 7 = 0 := V 65 7 (by omega) 0 (by unfold beginI becomeI; simp only [up_a, up_k, up_eq, Nat.reduceEqDiff, Nat.reduceAdd, not_false_eq_true])
  have v8 : K 65 8 = 0 := V 65 8 (by omega) 0 (by unfold beginI becomeI; simp only [up_a, up_k, up_eq, Nat.reduceEqDiff, Nat.reduceAdd, not_false_eq_true])
  have v9 : K 65 9 = -1 := V 65 9 (by omega) (-1) (by unfold beginI becomeI; simp only [up_a, up_k, up_eq, Nat.reduceEqDiff, Nat.reduceAdd, not_false_eq_true])
  have v10 : K 65 10 = 0 := V 65 10 (by omega) 0 (by unfold beginI becomeI; simp only [up_a, up_k, up_eq, Nat.reduceEqDiff, Nat.reduceAdd, not_false_eq_true])
  have v11 : K 65 11 = 1 := V 65 11 (by omega) 1 (by unfold beginI becomeI; simp only [up_a, up_k, up_eq, Nat.reduceEqDiff, Nat.reduceAdd, not_false_eq_true])
  have v60 : K 66 0 = 0 := V 66 0 (by omega) 0 (by unfold beginI becomeI; simp only [up_a, up_k, up_eq, Nat.reduceEqDiff, Nat.reduceAdd, not_false_eq_true])
  have v61 : K 66 1 = 0 := V 66 1 (by omega) 0 (by unfold beginI becomeI; simp only [up_a, up_k, up_eq, Nat.reduceEqDiff, Nat.reduceAdd, not_false_eq_true])
  have v70 : K 67 0 = 0 := V 67 0 (by omega) 0 (by unfold beginI becomeI; simp only [up_a, up_k, up_eq, Nat.reduceEqDiff, Nat.reduceAdd, not_false_eq_true])
  have v71 : K 67 1 = 0 := V 67 1 (by omega) 0 (by unfold beginI becomeI; simp only [up_a, up_k, up_eq, Nat.reduceEqDiff, Nat.reduceAdd, not_false_eq_true])
  unfold ND
  rw [s93, s96, s92]
  refine ⟨⟨by rw [h0]; exact v0, Or.inl h0⟩, ⟨by rw [h1]; exact v1, fun _ => ⟨h1, v11, h0⟩, fun e => by omega⟩, ⟨by rw [h2]; exact v2, fun _ => h2, fun e => absurd h0 e⟩, ⟨by rw [h3, ← hx]; exact v3, by rw [h3]; exact iA, fun e => absurd h0 e⟩, ⟨by rw [h7]; exact v4, by rw [h7]; exact i0⟩, ⟨by rw [h4, ← hx]; exact v6, by rw [h4]; exact iA⟩, Nat.zero_and _, ?_, ⟨by rw [h5]; exact v7, by rw [h5]; exact i0⟩, ⟨by rw [h6]; exact v8, by rw [h6]; exact i0⟩, ⟨by rw [h9]; exact v10, by rw [h9]; exact i0⟩, by rw [h8]; exact v9, ?_, fun s hs => ?_, fun i hi => ⟨fun _ => ?_, fun e => ?_⟩⟩
  · rw [b1]; exact v5
  · rw [h10, if_pos h0, b2]; rfl
  · obtain ⟨e1, e2⟩ := hk s hs
    rw [show 2 * 0 + s = s by omega, e1, e2]
    rcases lt2 hs with rfl | rfl
    · exact ⟨⟨v60, i0⟩, v70, i0⟩
    · exact ⟨⟨v61, i0⟩, v71, i0⟩
  · rw [show 8 * 0 + i = i by omega]; exact hf i (by omega)
  · rw [b4 i hi] at e; cases e
theorem nd_00 : nd (0 : Int32) = 65 := by decide +kernel
theorem c9 {T : Nat} {L : Nat → Nat → Int64} {R : Nat → Nat → Option Nat} {nc ns : Nat} {nx : Bool} (hR : LYR R) (hT : isT T) (r : R 2 4 = some T) (h6 : I T 6 = Int32.ofNat c) (hc8 : c ≤ 8) : ∀ D, 3 ≤ D → cf D 9 [.ref 2] (SH n, I, L, R, nc, ns, nx) = some (.inl none, (SH n, ip_up (ip_up (beginI I 65 (Int32.ofNat (2 ^ c - 1))) 2 6 1) 2 7 0, L, R, nc, ns, nx)) := by
  intro D hD
  obtain ⟨E, rfl⟩ : ∃ E, D = E + 2 := ⟨D - 2, by omega⟩
  have h1 := c10 (d := E + 1) (n := n) (I := I) (L := L) (R := R) (nc := nc) (ns := ns) (nx := nx) hT
  rw [h6, sh_all c (by omega)] at h1
  have h2 := c11 (d := E) (n := n) (I := I) (L := L) (R := R) (nc := nc) (ns := ns) (nx := nx) (a := 65) (x := Int32.ofNat (2 ^ c - 1)) hR (Or.inr (Or.inr (Or.inr ⟨0, by omega, by omega⟩)))
  have h65 : isN 65 := Or.inr (Or.inr (Or.inr ⟨0, by omega, by omega⟩))
  simp only [en9, e9_0, e9_1, e9_4, e9_5, e9_6, e9_7, e9_10, e9_13, e9_16, e9_17, e9_18, e9_21, e9_22, e9_23, e9_26, rk_n, rk_v, nl_n, nl_i, nl_r, cat_n, ip_cat_int, ip_cat_ref, ip_cat_long, ip_rf_some, Nat.reduceAdd, Nat.reduceLeDiff, Nat.reduceLT, Nat.le_refl, Nat.zero_le, hR, nd_00, inbL, r, hT, h1, h2, h65, Bool.false_eq_true, Bool.true_eq_false, if_true, if_false, not_true_eq_false, not_false_eq_true, zle, eq_self]
theorem S2 : SAMEXD 36 192 [] Int32.toInt64 := by
  intro n I L R nc ns nx T c N w t p X
  have X0 := X
  obtain ⟨hR, ⟨tt, rT, rT2, v4, v5, v6, v7, v8, v9, v10, v11, v12, v13⟩, ⟨⟨n1, n2, n3⟩, ⟨y1, y2⟩, ⟨y3, y4⟩, y5⟩, ⟨t1, t2, t3, t4⟩, ⟨p1, p2, p3, p4⟩, x6, x7⟩ := X
  have hT2 : 25 - T = 9 ∨ 25 - T = 16 := by omega
  have hT : isT (25 - T) := by unfold isT; omega
  have hT1 : isT T := by unfold isT; omega
  generalize hTT : 25 - T = T' at *
  have hB : ∀ i, i < t → ¬ I 266 i = -1 := fun i hi => (t4 i hi).2
  generalize hJ0 : ip_up I 2 1 0 = J0
  have GJ0 : ∀ a k, ¬ (a = 2 ∧ k = 1) → J0 a k = I a k := fun a k h => by
    rw [← hJ0]
    by_cases z : a = 2
    · subst z; exact up_k (fun e => h ⟨rfl, e⟩)
    · exact up_a z
  obtain ⟨J1, L1, X1, A1, O1, OL1⟩ := c38 (n := n) (J := J0) (L := L) (nc := nc) (ns := ns) (nx := nx) (B := fun i => I 266 i) hR t1 hT2 hT rT2 (fun i hi => by rw [GJ0 3 i (by omega)]; exact (t4 i hi).1) x7
  have hR1 : LYR (ip_up R 4 1 (some 3)) := LYR_on (fun a k h => by
    by_cases z : a = 4
    · subst z
      by_cases y : k = 1
      · subst y; exact absurd (by unfold mutR; omega) h
      · exact up_k y
    · exact up_a z) hR
  have r41 : ip_up R 4 1 (some 3) 4 1 = some 3 := up_eq
  have r42 : ip_up R 4 1 (some 3) 4 2 = some T' := (up_k (by decide)).trans rT2
  have r24 : ip_up R 4 1 (some 3) 2 4 = some T := (up_a (by decide)).trans rT
  generalize hR1d : ip_up R 4 1 (some 3) = R1 at *
  have sk0 := skT_le (B := fun i => I 266 i) (t := t) (p := 0) (by omega)
  have DEC := rd_all (B := fun i => I 266 i) (T := T') (R := R1) hR1 t1 hB hT2 hT r41 r42 t (skT (fun i => I 266 i) t 0) 0 (fun _ => []) (fun _ => 0) (fun _ => 0) br0 false 0 (fun _ => 0) [] (by omega) sk0.2 (skT_sk (by omega)) (by omega) (fun e => by (cases e))
  rcases DEC with ⟨q, hq, DC, DM⟩ | ⟨c', f', sd', rs', br', nm', v', cs', hc', ho, DC, DM⟩
  · -- a fault
    obtain ⟨J2, L2, nx2, A2, O2, OL2⟩ := DC n J1 L1 nc ns nx 0 (some (.ref 3)) none (Int32.ofNat t) X1 (by omega)
    generalize hJ3 : ip_up J2 2 2 (Int32.ofNat q) = J3
    have GJ3 : ∀ a k, ¬ (a = 2 ∧ k = 2) → J3 a k = J2 a k := fun a k h => by
      rw [← hJ3]
      by_cases z : a = 2
      · subst z; exact up_k (fun e => h ⟨rfl, e⟩)
      · exact up_a z
    have GC : ∀ a k, ¬ ((a = 2 ∧ (k = 1 ∨ k = 2)) ∨ (a = 4 ∧ 3 ≤ k ∧ k ≤ 6) ∨ (a = 5 ∧ k = 2) ∨ (T' ≤ a ∧ a ≤ T' + 5)) → J3 a k = I a k := fun a k h => by
      rw [GJ3 a k (by omega), O2 a k (by unfold scX; omega), O1 a k (by unfold scX; omega)]
      exact GJ0 a k (by omega)
    obtain ⟨K1, Y1, M1, m2, Om1⟩ := mr_0 (n := n) (K := J3) (L := L2) (nc := nc + 1) (ns := ns + 6) (nx := true) (B := fun i => I 266 i) hR1 t1 (by rw [GC 265 2 (by omega)]; exact t3) (fun i hi => by rw [GC 266 i (by omega)])
    obtain ⟨K2, L3, M2, k5, Om2, OLm⟩ := DM n K1 L2 R1 (nc + 1) (ns + 6) true 0 (some (.int (Int32.ofNat 6))) hR1 Y1 rfl
    have M3 := mr_x (n := n) (L := L3) (R := R1) (nc := nc + 1) (ns := ns + 6) (nx := true) (l1 := some (.int (Int32.ofNat 6))) (by omega) k5
    generalize hK3 : ip_up K2 265 0 1 = K3 at *
    have GM : ∀ a k, ¬ ((a = 265 ∧ (k ≤ 9 ∨ k = 33 ∨ k = 34)) ∨ (268 ≤ a ∧ a ≤ 273) ∨ (281 ≤ a ∧ a ≤ 286)) → K3 a k = J3 a k := fun a k h => by
      have e1 : K3 a k = K2 a k := by
        rw [← hK3]
        by_cases z : a = 265
        · subst z; exact up_k (by omega)
        · exact up_a z
      rw [e1, Om2 a k (by unfold scL; omega)]
      exact Om1 a k (by omega)
    have G : ∀ a k, ¬ ((a = 2 ∧ (k = 1 ∨ k = 2)) ∨ (a = 4 ∧ 3 ≤ k ∧ k ≤ 6) ∨ (a = 5 ∧ k = 2) ∨ (T' ≤ a ∧ a ≤ T' + 5) ∨ (a = 265 ∧ (k ≤ 9 ∨ k = 33 ∨ k = 34)) ∨ (268 ≤ a ∧ a ≤ 273) ∨ (281 ≤ a ∧ a ≤ 286)) → K3 a k = I a k := fun a k h => (GM a k (by omega)).trans (GC a k (by omega))
    have GLL : ∀ a k, ¬ a = 6 → ¬ a = 7 → ¬ a = T' + 6 → ¬ a = 267 → L3 a k = L a k := fun a k h1 h2 h3 h4 => by rw [OLm a k h4, OL2 a k h1 h2 h3, OL1 a k h1 h2 h3]
    have HP : onlyP (fun a k => (a = 2 ∧ (k = 1 ∨ k = 2)) ∨ (a = 4 ∧ 3 ≤ k ∧ k ≤ 6) ∨ (a = 5 ∧ k = 2) ∨ (T' ≤ a ∧ a ≤ T' + 5) ∨ (a = 265 ∧ (k ≤ 9 ∨ k = 33 ∨ k = 34)) ∨ (268 ≤ a ∧ a ≤ 273) ∨ (281 ≤ a ∧ a ≤ 286)) I K3 := G
    refine ⟨1, 0, J3, K3, L2, L3, R1, nc + 1, ns + 6, true, T, c, N, w, 0, p, fun d => ?_, fun d => ?_, ?_, fun e => absurd e (by decide), ⟨hR1, RTx_P X0.2.1 HP (fun a k h => by omega) (fun a k h => GLL a k (by omega) (by omega) (by omega) (by omega)) (by rw [r24, rT]) (by rw [r42, rT2]), ⟨⟨n1, n2, n3⟩, ⟨by rw [G 2 6 (by omega)]; exact y1, by rw [G 265 37 (by omega)]; exact y2⟩, ⟨by rw [G 2 7 (by omega)]; exact y3, by rw [G 265 38 (by omega)]; exact y4⟩, fun k hk => ND_P (by omega) (y5 k hk) (fun a j h => G a j (by omega))⟩, ⟨by omega, ?_, ?_, fun k hk => by omega⟩, RPa_P X0.2.2.2.2.1 HP (fun a k h => by omega), ?_, fun k hk => by rw [GLL 1 k (by omega) (by omega) (by omega) (by omega)]; exact x7 k hk⟩, by omega, by omega, fun k => G 0 k (by omega)⟩
    · refine w36x1 (d := d + 79) ?_
      have a1 := A1 (d + 78) (by omega)
      have a2 := A2 (d + 78) (by omega)
      have a12 := a1.trans a2
      have f : ¬ Int32.ofNat q = -1 := nm1 (by omega)
      have u2 : J3 2 2 = Int32.ofNat q := by rw [← hJ3, up_eq]
      simp only [en37, e37_0, e37_1, e37_4, e37_5, e37_6, e37_7, e37_10, e37_11, e37_12, e37_15, e37_16, e37_19, e37_20, e37_23, e37_26, e37_27, e37_30, e37_31, e37_34, rk_n, rk_v, nl_n, nl_i, nl_r, cat_n, ip_cat_int, ip_cat_ref, ip_cat_long, ip_rf_some, Nat.reduceAdd, Nat.reduceLeDiff, Nat.reduceLT, Nat.le_refl, Nat.zero_le, hR, t2, hJ0, a12, hJ3, u2, f, Bool.false_eq_true, Bool.true_eq_false, if_true, if_false, not_true_eq_false, not_false_eq_true, zle, eq_self]
      rfl
    · exact ((M1 (d + 80)).trans (M2 (d + 80) (by omega))).trans (M3 (d + 80))
    · rw [← hK3, up_eq]
    · rw [GM 2 1 (by omega), GJ3 2 1 (by omega), O2 2 1 (by unfold scX; omega), O1 2 1 (by unfold scX; omega), ← hJ0, up_eq]; rfl
    · rw [← hK3, up_k (by decide), Om2 265 2 (by unfold scL; omega)]; exact m2
    · rw [GM 2 2 (by omega), ← hJ3, up_eq, ← hK3, up_k (by decide)]; exact k5.symm
  · -- a text
    obtain ⟨o1, o2, o3, o4⟩ := ho rfl
    obtain ⟨J2, L2, nx2, q, A2, X2, O2, OL2⟩ := DC n J1 L1 nc ns nx 0 (some (.ref 3)) none (Int32.ofNat t) X1 (by omega)
    obtain ⟨h, st, ⟨u1, u2, u3, u4, u5, u6, u7, u8, u9, u10⟩, z1, z2, z3, z4, z5, z6, z7, z8, z9⟩ := X2
    generalize hJ3 : ip_up J2 2 2 (-1) = J3
    have GJ3 : ∀ a k, ¬ (a = 2 ∧ k = 2) → J3 a k = J2 a k := fun a k h => by
      rw [← hJ3]
      by_cases z : a = 2
      · subst z; exact up_k (fun e => h ⟨rfl, e⟩)
      · exact up_a z
    generalize hR2d : ip_up (ip_up R1 4 2 (some T)) 2 4 (some T') = R2
    have hR2 : LYR R2 := by
      refine LYR_on (fun a k h => ?_) hR1
      rw [← hR2d]
      by_cases z : a = 2
      · subst z
        by_cases y : k = 4
        · subst y; exact absurd (by unfold mutR; omega) h
        · rw [up_k y, up_a (by decide)]
      · rw [up_a z]
        by_cases z4 : a = 4
        · subst z4
          by_cases y : k = 2
          · subst y; exact absurd (by unfold mutR; omega) h
          · rw [up_k y]
        · rw [up_a z4]
    have s24 : R2 2 4 = some T' := by rw [← hR2d]; exact up_eq
    have s42 : R2 4 2 = some T := by rw [← hR2d, up_a (by decide)]; exact up_eq
    have j6 : J3 T' 6 = Int32.ofNat c' := by rw [GJ3 T' 6 (by omega)]; exact u3
    have A9 := c9 (n := n) (L := L2) (nc := nc) (ns := ns) (nx := nx2) hR2 hT s24 j6 hc'
    generalize hx : Int32.ofNat (2 ^ c' - 1) = x at A9
    generalize hJ4 : ip_up (ip_up (beginI J3 65 x) 2 6 1) 2 7 0 = J4 at A9
    have GB : ∀ a k, ¬ (65 ≤ a ∧ a ≤ 67) → beginI J3 65 x a k = J3 a k := fun a k h => by
      unfold beginI becomeI
      rw [up_a (by omega), up_a (by omega), up_a (by omega), up_a (by omega), up_a (by omega), up_a (by omega), up_a (by omega), up_a (by omega), up_a (by omega), up_a (by omega), up_a (by omega), up_a (by omega), up_a (by omega), up_a (by omega), up_a (by omega), up_a (by omega)]
    have GJ4 : ∀ a k, ¬ (a = 2 ∧ (k = 6 ∨ k = 7)) → J4 a k = beginI J3 65 x a k := fun a k h => by
      rw [← hJ4]
      by_cases z : a = 2
      · subst z; rw [up_k (by omega), up_k (by omega)]
      · rw [up_a z, up_a z]
    have GC : ∀ a k, ¬ ((a = 2 ∧ (k = 1 ∨ k = 2 ∨ k = 6 ∨ k = 7)) ∨ (a = 4 ∧ 3 ≤ k ∧ k ≤ 6) ∨ (a = 5 ∧ k = 2) ∨ (T' ≤ a ∧ a ≤ T' + 5) ∨ (65 ≤ a ∧ a ≤ 67)) → J4 a k = I a k := fun a k h => by
      rw [GJ4 a k (by omega), GB a k (by omega), GJ3 a k (by omega), O2 a k (by unfold scX; omega), O1 a k (by unfold scX; omega)]
      exact GJ0 a k (by omega)
    generalize hL2' : ip_up L2 307 0 (Int32.ofNat c').toInt64 = L2'
    have GL2 : ∀ a k, ¬ a = 307 → L2' a k = L2 a k := fun a k h => by rw [← hL2', up_a h]
    obtain ⟨K1, Y1, M1, m2, Om1⟩ := mr_0 (n := n) (K := J4) (L := L2') (nc := nc) (ns := ns) (nx := nx2) (B := fun i => I 266 i) hR2 t1 (by rw [GC 265 2 (by omega)]; exact t3) (fun i hi => by rw [GC 266 i (by omega)])
    obtain ⟨K2, L3, a3, M2, Y2, Om2, OLm⟩ := DM n K1 L2' R2 nc ns nx2 0 (some (.int (Int32.ofNat 6))) hR2 Y1 rfl
    obtain ⟨K3, L4, M3, ⟨g17, g18, g0, g5⟩, gk, gb, gw2, gB, Om3, OL4⟩ := mr_1 (n := n) (nc := nc) (ns := ns) (nx := nx2) (x1 := Int32.ofNat 6) hR2 hc' o3 o4 o2 o1 Y2
    have Gm : ∀ a k, ¬ ((a = 265 ∧ (k ≤ 9 ∨ k = 17 ∨ k = 18 ∨ k = 19 ∨ k = 37 ∨ k = 38 ∨ k = 33 ∨ k = 34)) ∨ (268 ≤ a ∧ a ≤ 273) ∨ (275 ≤ a ∧ a ≤ 304)) → K3 a k = J4 a k := fun a k h => by
      rw [Om3 a k (by omega), Om2 a k (by unfold scL; omega)]
      exact Om1 a k (by omega)
    have GL : ∀ a k, ¬ a = 267 → ¬ a = 274 → ¬ a = 307 → L4 a k = L2 a k := fun a k h1 h2 h3 => by rw [OL4 a k h2, OLm a k h1, GL2 a k h3]
    have GT : ∀ a k, T' ≤ a → a ≤ T' + 5 → K3 a k = J2 a k := fun a k h1 h2 => by rw [Gm a k (by omega), GJ4 a k (by omega), GB a k (by omega), GJ3 a k (by omega)]
    have rk : ∀ k, k < c' → rs' k < 256 := fun k hk => by
      have h1 := (z4 k hk).2
      have h2 : 2 ^ k ≤ 2 ^ 8 := Nat.pow_le_pow_right (by decide) (by omega)
      omega
    have G0 : ∀ a k, ¬ ((a = 2 ∧ (k = 1 ∨ k = 2 ∨ k = 6 ∨ k = 7)) ∨ (a = 4 ∧ 3 ≤ k ∧ k ≤ 6) ∨ (a = 5 ∧ k = 2) ∨ (T' ≤ a ∧ a ≤ T' + 5) ∨ (65 ≤ a ∧ a ≤ 67) ∨ (a = 265 ∧ (k ≤ 9 ∨ k = 17 ∨ k = 18 ∨ k = 19 ∨ k = 37 ∨ k = 38 ∨ k = 33 ∨ k = 34)) ∨ (268 ≤ a ∧ a ≤ 273) ∨ (275 ≤ a ∧ a ≤ 304)) → K3 a k = I a k := fun a k h => (Gm a k (by omega)).trans (GC a k (by omega))
    refine ⟨0, Int32.ofNat c', J4, K3, L2', L4, R2, nc, ns, nx2, T', c', 1, 0, 0, p, fun d => ?_, fun d => ?_, g0, fun _ => ?_, ⟨hR2, ⟨by omega, s24, ?_, hc', ?_, g17, ?_, fun k hk => ⟨?_, ?_⟩, fun k hk => ⟨?_, ?_⟩, fun k hk => ?_, fun k hk => ?_, fun s hs => ?_, fun k hk => ?_⟩, ⟨⟨by omega, by omega, by omega⟩, ⟨?_, gB.1.1⟩, ⟨?_, gB.1.2⟩, fun k hk => ?_⟩, ⟨by omega, ?_, ?_, fun k hk => by omega⟩, RPa_P X0.2.2.2.2.1 G0 (fun a k h => by omega), ?_, fun k hk => ?_⟩, by omega, by omega, fun k => G0 0 k (by omega)⟩
    · rw [← hL2']
      refine w36 (d := d + 79) ?_
      have a1 := A1 (d + 78) (by omega)
      have a2 := A2 (d + 78) (by omega)
      have a12 := a1.trans a2
      have u2 : J3 2 2 = -1 := by rw [← hJ3, up_eq]
      have a9 := A9 (d + 78) (by omega)
      have b6 : J4 T' 6 = Int32.ofNat c' := by rw [GJ4 T' 6 (by omega), GB T' 6 (by omega)]; exact j6
      simp only [en37, e37_0, e37_1, e37_4, e37_5, e37_6, e37_7, e37_10, e37_11, e37_12, e37_15, e37_16, e37_19, e37_20, e37_23, e37_26, e37_27, e37_30, e37_31, e37_44, e37_45, e37_46, e37_49, e37_50, e37_53, e37_56, e37_59, e37_60, e37_63, e37_64, e37_67, e37_70, en72, e72_0, e72_1, e72_4, e72_5, e72_6, e72_7, e72_10, e72_11, rk_n, rk_v, nl_n, nl_i, nl_r, cat_n, ip_cat_int, ip_cat_ref, ip_cat_long, ip_rf_some, Nat.reduceAdd, Nat.reduceLeDiff, Nat.reduceLT, Nat.le_refl, Nat.zero_le, hR, hR1, t2, hJ0, a12, hJ3, u2, r42, r24, hR2d, a9, s24, hT, b6, Bool.false_eq_true, Bool.true_eq_false, if_true, if_false, not_true_eq_false, not_false_eq_true, zle, eq_self]
    · exact ((M1 (d + 80)).trans (M2 (d + 80) (by omega))).trans (M3 (d + 80) (by omega))
    · rw [OL4 307 0 (by decide), OLm 307 0 (by decide), ← hL2', up_eq]
    · rw [s42]; congr 1; omega
    · rw [GT T' 6 (by omega) (by omega)]; exact u3
    · rw [GT T' 7 (by omega) (by omega), g18]; exact u5
    · rw [GT _ k (by omega) (by omega), (gk k hk).2.1]; exact (z3 k hk).1
    · rw [(gk k hk).2.1]; exact (nu_inb (by have := (z3 k hk).2; omega)).mpr (z3 k hk).2
    · rw [GT _ k (by omega) (by omega), (gk k hk).2.2]; exact (z4 k hk).1
    · rw [(gk k hk).2.2]; exact (nu_inb (by have := rk k hk; omega)).mpr (rk k hk)
    · rw [GT _ k (by omega) (by omega), z5 k hk]
      congr 1
      exact restOn_c c' (fun i hi => by unfold rstI; rw [(gk i hi).2.2, sN_of (by have := rk i hi; omega)])
    · rw [GT _ k (by omega) (by omega), gb k hk]; exact z6 k hk
    · rw [gw2 s hs]
      unfold wb
      have : winL L4 T' s = decide (v' s = 1) := by
        rw [← z9 rfl s hs]; unfold winL; rw [GL _ _ (by omega) (by omega) (by omega)]
      rw [this]
      by_cases z : v' s = 1
      · rw [if_pos z, if_pos (by simpa using z)]
      · rw [if_neg z, if_neg (by simpa using z)]
    · obtain ⟨w1, w2, w3⟩ := u4 k hk
      exact ⟨f' k, w2, z2 k hk, w1, fun i hi => by rw [GT _ _ (by omega) (by omega)]; exact w3 i hi, (gk k hk).1⟩
    · rw [Gm 2 6 (by omega), ← hJ4, up_k (by decide), up_eq]; rfl
    · rw [Gm 2 7 (by omega), ← hJ4, up_eq]; rfl
    · have e0 : k = 0 := by omega
      subst e0
      exact ND_0 hc' hx.symm (fun a j h => by rw [Gm a j (by omega), GJ4 a j (by omega)]) gB
    · rw [Gm 2 1 (by omega), GJ4 2 1 (by omega), GB 2 1 (by omega), GJ3 2 1 (by omega), O2 2 1 (by unfold scX; omega), O1 2 1 (by unfold scX; omega), ← hJ0, up_eq]; rfl
    · rw [Om3 265 2 (by omega), Om2 265 2 (by unfold scL; omega)]; exact m2
    · rw [Gm 2 2 (by omega), GJ4 2 2 (by omega), GB 2 2 (by omega), ← hJ3, up_eq]; exact g5.symm
    · rw [GL 1 k (by omega) (by omega) (by omega)]; exact u10 k hk
end S2
