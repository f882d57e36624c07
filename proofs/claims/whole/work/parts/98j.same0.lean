/-! CALL BY CALL: feed -/
section S0
variable {n d a b T c s t z o w m p lev k side ap b0 b1 N q B C F A i j r : Nat} {I J K M I1 I2 : Nat → Nat → Int32} {L L' : Nat → Nat → Int64} {R R' : Nat → Nat → Option Nat} {nc ns : Nat} {nx : Bool} {x y v u code x0 x1 x2 x3 x4 : Int32} {P : Nat → Nat → Prop} {h' h : ip_H} {f : Nat → Nat}
def shB (r : Nat) : Int32 := if r = 0 then 24 else if r = 1 then 16 else if r = 2 then 8 else 0
theorem by_bv (y : BitVec 32) (s : Nat) (hs : s ≤ 24) : (y >>> s) &&& 255#32 = y.sshiftRight s &&& 255#32 := by
  refine BitVec.eq_of_getLsbD_eq (fun i hi => ?_)
  rw [BitVec.getLsbD_and, BitVec.getLsbD_and]
  by_cases h8 : i < 8
  · rw [BitVec.getLsbD_ushiftRight, BitVec.getLsbD_sshiftRight]
    have h1 : s + i < 32 := by omega
    have h2 : ¬ 32 ≤ i := by omega
    simp [h1, hi, h2]
  · have : ∀ i, i < 32 → ¬ i < 8 → (255#32).getLsbD i = false := by decide
    rw [this i hi h8, Bool.and_false, Bool.and_false]
theorem by_cm (x : Int32) : byC x 24 = x >>> (24 : Int32) &&& 255 ∧ byC x 16 = x >>> (16 : Int32) &&& 255 ∧ byC x 8 = x >>> (8 : Int32) &&& 255 ∧ byC x 0 = x >>> (0 : Int32) &&& 255 := by
  refine ⟨?_, ?_, ?_, ?_⟩
  · exact Int32.toBitVec_inj.mp (by_bv x.toBitVec 24 (by omega))
  · exact Int32.toBitVec_inj.mp (by_bv x.toBitVec 16 (by omega))
  · exact Int32.toBitVec_inj.mp (by_bv x.toBitVec 8 (by omega))
  · exact Int32.toBitVec_inj.mp (by_bv x.toBitVec 0 (by omega))
theorem an255 (y : Int32) : ¬ y &&& 255 = -1 := by
  intro e
  have h : (y &&& 255).toBitVec = (-1 : Int32).toBitVec := by rw [e]
  have h2 : y.toBitVec &&& 255#32 = (-1 : Int32).toBitVec := h
  have h3 := congrArg (fun v : BitVec 32 => v.getLsbD 31) h2
  simp only [BitVec.getLsbD_and] at h3
  have h4 : (255#32).getLsbD 31 = false := by decide
  have h5 : ((-1 : Int32).toBitVec).getLsbD 31 = true := by decide
  rw [h4, h5, Bool.and_false] at h3
  cases h3
theorem by_nn {s : Int32} : ¬ byC x s = -1 := an255 _
theorem byEq : ∀ j, j < 20 → (24 - 8 * (Int32.ofNat j - Int32.ofNat j / 4 * 4) &&& 31) = shB (j % 4) := by decide +kernel
theorem by_j (hj : j < 20) : byM x (Int32.ofNat j) = byC x (shB (j % 4)) := by
  unfold byM
  rw [byEq j hj]
  obtain ⟨a1, a2, a3, a4⟩ := by_cm x
  have h4 : j % 4 = 0 ∨ j % 4 = 1 ∨ j % 4 = 2 ∨ j % 4 = 3 := by omega
  rcases h4 with e | e | e | e <;> rw [e]
  · exact a1.symm
  · exact a2.symm
  · exact a3.symm
  · exact a4.symm
theorem tape_at (hr : r < 4) : tapeI I t x 3 (t + r) = byC x (shB r) := by
  have h4 : r = 0 ∨ r = 1 ∨ r = 2 ∨ r = 3 := by omega
  unfold tapeI
  rcases h4 with rfl | rfl | rfl | rfl
  · rw [up_a (by decide), up_k (by omega), up_a (by decide), up_k (by omega), up_a (by decide), up_k (by omega), up_a (by decide), Nat.add_zero, up_eq]; rfl
  · rw [up_a (by decide), up_k (by omega), up_a (by decide), up_k (by omega), up_a (by decide), up_eq]; rfl
  · rw [up_a (by decide), up_k (by omega), up_a (by decide), up_eq]; rfl
  · rw [up_a (by decide), up_eq]; rfl
theorem tape_ne (hk : k < t ∨ t + 4 ≤ k) : tapeI I t x 3 k = I 3 k := by
  unfold tapeI
  rw [up_a (by decide), up_k (by omega), up_a (by decide), up_k (by omega), up_a (by decide), up_k (by omega), up_a (by decide), up_k (by omega)]
theorem tape_on : onlyP (fun a k => a = 3 ∨ (a = 2 ∧ k = 1)) I (tapeI I t x) := by
  unfold tapeI
  exact onlyP_up (onlyP_up (onlyP_up (onlyP_up (onlyP_up (onlyP_up (onlyP_up (onlyP_up onlyP_refl (by omega)) (by omega)) (by omega)) (by omega)) (by omega)) (by omega)) (by omega)) (by omega)
theorem feed_at : ∀ k j, j < k → k ≤ 20 → feedM I t x0 x1 x2 x3 x4 k 266 (t + j) = byM (wd x0 x1 x2 x3 x4 j) (Int32.ofNat j) := by
  intro k
  induction k with
  | zero => intro j h; omega
  | succ k ih =>
    intro j h h20
    rw [feedM, up_a (by decide)]
    by_cases e : j = k
    · subst e; rw [up_eq]
    · rw [up_k (by omega)]; exact ih j (by omega) (by omega)
theorem feed_ne : ∀ k j, j < t → feedM I t x0 x1 x2 x3 x4 k 266 j = I 266 j := by
  intro k
  induction k with
  | zero => intro j _; rfl
  | succ k ih =>
    intro j h
    rw [feedM, up_a (by decide), up_k (by omega)]; exact ih j h
theorem feed_on : ∀ k, onlyP (fun a k => a = 266 ∨ (a = 265 ∧ k = 2)) I (feedM I t x0 x1 x2 x3 x4 k) := by
  intro k
  induction k with
  | zero => exact onlyP_refl
  | succ k ih => rw [feedM]; exact onlyP_up (onlyP_up ih (by omega)) (by omega)
theorem S0 : SAMEB 13 190 [.int x0, .int x1, .int x2, .int x3, .int x4] := by
  intro n I L R nc ns nx T c N w t p X
  have X0 := X
  have hR := X.1
  obtain ⟨t1, t2, t3, t4⟩ := X.2.2.2.1
  by_cases h20 : t + 20 ≤ 400
  · generalize hJ : tapeI (tapeI (tapeI (tapeI (tapeI I t x0) (t + 4) x1) (t + 8) x2) (t + 12) x3) (t + 16) x4 = J
    have HJ : onlyP (fun a k => a = 3 ∨ (a = 2 ∧ k = 1)) I J := by
      rw [← hJ]
      exact onlyP_tr (onlyP_tr (onlyP_tr (onlyP_tr tape_on tape_on) tape_on) tape_on) tape_on
    have JA : ∀ j, j < 20 → J 3 (t + j) = byC (wd x0 x1 x2 x3 x4 j) (shB (j % 4)) := by
      intro j hj
      rw [← hJ]
      unfold wd
      by_cases h16 : 16 ≤ j
      · rw [show t + j = t + 16 + (j - 16) by omega, tape_at (by omega), if_pos (by omega), if_pos (by omega), if_pos (by omega), if_pos (by omega), show j % 4 = j - 16 by omega]
      · rw [tape_ne (by omega)]
        by_cases h12 : 12 ≤ j
        · rw [show t + j = t + 12 + (j - 12) by omega, tape_at (by omega), if_pos (by omega), if_pos (by omega), if_pos (by omega), if_neg (by omega), show j % 4 = j - 12 by omega]
        · rw [tape_ne (by omega)]
          by_cases h8 : 8 ≤ j
          · rw [show t + j = t + 8 + (j - 8) by omega, tape_at (by omega), if_pos (by omega), if_pos (by omega), if_neg (by omega), show j % 4 = j - 8 by omega]
          · rw [tape_ne (by omega)]
            by_cases h4 : 4 ≤ j
            · rw [show t + j = t + 4 + (j - 4) by omega, tape_at (by omega), if_pos (by omega), if_neg (by omega), show j % 4 = j - 4 by omega]
            · rw [tape_ne (by omega), tape_at (by omega), if_neg (by omega), show j % 4 = j by omega]
    have JN : ∀ j, j < t → J 3 j = I 3 j := by
      intro j hj
      rw [← hJ, tape_ne (by omega), tape_ne (by omega), tape_ne (by omega), tape_ne (by omega), tape_ne (by omega)]
    have JL : J 2 1 = Int32.ofNat (t + 20) := by rw [← hJ]; exact tape_len
    have tJ : J 265 2 = Int32.ofNat t := (HJ _ _ (by omega)).trans t3
    have CC := fun d => c13 (d := d) (n := n) (I := I) (L := L) (nc := nc) (ns := ns) (nx := nx) (x0 := x0) (x1 := x1) (x2 := x2) (x3 := x3) (x4 := x4) hR t2 h20
    have MM := fun d => c190 (d := d) (n := n) (I := J) (L := L) (nc := nc) (ns := ns) (nx := nx) (x0 := x0) (x1 := x1) (x2 := x2) (x3 := x3) (x4 := x4) hR tJ h20
    rw [hJ] at CC
    generalize hK : feedM (ip_up J 265 0 0) t x0 x1 x2 x3 x4 20 = K at MM
    have HK : onlyP (fun a k => a = 266 ∨ (a = 265 ∧ (k = 2 ∨ k = 0))) J K := by
      rw [← hK]
      exact onlyP_tr (onlyP_up onlyP_refl (by omega)) (onlyP_mono (feed_on 20) (fun a k e => by omega))
    have KL : K 265 2 = Int32.ofNat (t + 20) := by rw [← hK]; exact feedM_len ((up_k (by decide)).trans tJ) 20
    have H : onlyP (fun a k => a = 3 ∨ (a = 2 ∧ k = 1) ∨ a = 266 ∨ (a = 265 ∧ (k = 2 ∨ k = 0))) I K := onlyP_tr (onlyP_mono HJ (fun a k e => by omega)) (onlyP_mono HK (fun a k e => by omega))
    obtain ⟨⟨n1, n2, n3⟩, ⟨y1, y2⟩, ⟨y3, y4⟩, y5⟩ := X.2.2.1
    refine ⟨Int32.ofNat (t + 20), J, K, L, L, R, nc, ns, nx, T, c, N, w, t + 20, p, fun d => CC (d + 13), fun d => MM (d + 14), ?_, by omega, by omega, fun k => H 0 k (by omega)⟩
    refine REL_P X0 H (fun a k e => by unfold scr; omega) ⟨n3, by rw [H 2 7 (by omega)]; exact y3, by rw [H 265 38 (by omega)]; exact y4⟩ ⟨h20, by rw [HK 2 1 (by omega)]; exact JL, KL, fun k hk => ?_⟩ (RPa_P X0.2.2.2.2.1 H (fun a k e => by omega))
    rw [HK 3 k (by omega)]
    by_cases h : k < t
    · rw [JN k h, ← hK, feed_ne 20 k h, up_a (by decide), HJ 266 k (by omega)]; exact t4 k h
    · obtain ⟨j, rfl⟩ : ∃ j, k = t + j := ⟨k - t, by omega⟩
      rw [JA j (by omega), ← hK, feed_at 20 j (by omega) (Nat.le_refl _), by_j (by omega)]
      exact ⟨rfl, by_nn⟩
  · refine ⟨-1, I, ip_up I 265 0 0, L, L, R, nc, ns, nx, T, c, N, w, t, p, fun d => b13 (d := d + 13) t2 t1 h20, fun d => b190 (d := d + 14) t3 t1 h20, REL_q X0 (onlyP_mono scM_0 (fun _ _ e => Or.inr e)) (fun _ _ _ => rfl) (fun _ _ _ => rfl), by omega, by omega, fun k => up_a (by decide)⟩
end S0
