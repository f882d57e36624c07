/-! THE LAW'S LOOP -/
theorem lp_end {n k : Nat} (hn : n ≤ 3072) (hk : k ≤ 3072) : (Int32.ofNat n - 6 < Int32.ofNat k) = (n < k + 6) := by
  by_cases g : n < 6
  · have e : Int32.ofNat n - 6 < 0 := (by decide : ∀ n, n < 6 → Int32.ofNat n - 6 < 0) n g
    have e2 : (0 : Int32) ≤ Int32.ofNat k := Int32.not_lt.mp (nu_nn (by omega))
    exact propext ⟨fun _ => by omega, fun _ => Int32.lt_of_lt_of_le e e2⟩
  · have e : Int32.ofNat n - 6 = Int32.ofNat (n - 6) := by
      have e1 : Int32.ofNat (n - 6) + Int32.ofNat 6 = Int32.ofNat n := by rw [nu_add, show n - 6 + 6 = n by omega]
      rw [← e1]
      exact Int32.add_sub_cancel _ _
    rw [e]
    exact propext ⟨fun z => by have := (nu_lt (by omega) (by omega)).mp z; omega, fun z => (nu_lt (by omega) (by omega)).mpr (by omega)⟩
/-- which case -/
theorem lp_case {D : Nat} (hD : 80 ≤ D) : ∀ j, j < 40 → ∃ pc, TN D pc ∧ ∀ (d : Nat) (ls : List (Option Value)) (s : List Value) (h : ip_H), rf d 284 40 ls (.int (Int32.ofNat j) :: s) h = rf d 284 pc ls s h
  | 0, _ => ⟨216, tn0 hD, fun _ _ _ _ => e284_40_0⟩
  | 1, _ => ⟨289, tn1 hD, fun _ _ _ _ => e284_40_1⟩
  | 2, _ => ⟨314, tn2 hD, fun _ _ _ _ => e284_40_2⟩
  | 3, _ => ⟨358, tn3 hD, fun _ _ _ _ => e284_40_3⟩
  | 4, _ => ⟨371, tn4 hD, fun _ _ _ _ => e284_40_4⟩
  | 5, _ => ⟨439, tn5 hD, fun _ _ _ _ => e284_40_5⟩
  | 6, _ => ⟨507, tn6 hD, fun _ _ _ _ => e284_40_6⟩
  | 7, _ => ⟨575, tn7 hD, fun _ _ _ _ => e284_40_7⟩
  | 8, _ => ⟨655, tn8 hD, fun _ _ _ _ => e284_40_8⟩
  | 9, _ => ⟨735, tn9 hD, fun _ _ _ _ => e284_40_9⟩
  | 10, _ => ⟨810, tn10 hD, fun _ _ _ _ => e284_40_10⟩
  | 11, _ => ⟨873, tn11 hD, fun _ _ _ _ => e284_40_11⟩
  | 12, _ => ⟨941, tn12 hD, fun _ _ _ _ => e284_40_12⟩
  | 13, _ => ⟨985, tn13 hD, fun _ _ _ _ => e284_40_13⟩
  | 14, _ => ⟨1041, tn14 hD, fun _ _ _ _ => e284_40_14⟩
  | 15, _ => ⟨1121, tn15 hD, fun _ _ _ _ => e284_40_15⟩
  | 16, _ => ⟨1205, tn16 hD, fun _ _ _ _ => e284_40_16⟩
  | 17, _ => ⟨1273, tn17 hD, fun _ _ _ _ => e284_40_17⟩
  | 18, _ => ⟨1357, tn18 hD, fun _ _ _ _ => e284_40_18⟩
  | 19, _ => ⟨1413, tn19 hD, fun _ _ _ _ => e284_40_19⟩
  | 20, _ => ⟨1493, tn20 hD, fun _ _ _ _ => e284_40_20⟩
  | 21, _ => ⟨1561, tn21 hD, fun _ _ _ _ => e284_40_21⟩
  | 22, _ => ⟨1602, tn22 hD, fun _ _ _ _ => e284_40_22⟩
  | 23, _ => ⟨1658, tn23 hD, fun _ _ _ _ => e284_40_23⟩
  | 24, _ => ⟨1726, tn24 hD, fun _ _ _ _ => e284_40_24⟩
  | 25, _ => ⟨1806, tn25 hD, fun _ _ _ _ => e284_40_25⟩
  | 26, _ => ⟨1886, tn26 hD, fun _ _ _ _ => e284_40_26⟩
  | 27, _ => ⟨1899, tn27 hD, fun _ _ _ _ => e284_40_27⟩
  | 28, _ => ⟨1912, tn28 hD, fun _ _ _ _ => e284_40_28⟩
  | 29, _ => ⟨1968, tn29 hD, fun _ _ _ _ => e284_40_29⟩
  | 30, _ => ⟨2024, tn30 hD, fun _ _ _ _ => e284_40_30⟩
  | 31, _ => ⟨2049, tn31 hD, fun _ _ _ _ => e284_40_31⟩
  | 32, _ => ⟨2129, tn32 hD, fun _ _ _ _ => e284_40_32⟩
  | 33, _ => ⟨2197, tn33 hD, fun _ _ _ _ => e284_40_33⟩
  | 34, _ => ⟨2253, tn34 hD, fun _ _ _ _ => e284_40_34⟩
  | 35, _ => ⟨2278, tn35 hD, fun _ _ _ _ => e284_40_35⟩
  | 36, _ => ⟨2291, tn36 hD, fun _ _ _ _ => e284_40_36⟩
  | 37, _ => ⟨2359, tn37 hD, fun _ _ _ _ => e284_40_37⟩
  | 38, _ => ⟨2427, tn38 hD, fun _ _ _ _ => e284_40_38⟩
  | 39, _ => ⟨2495, tn39 hD, fun _ _ _ _ => e284_40_39⟩
  | k + 40, h => absurd h (by omega)
theorem lp_v (v : Int32) : (∃ j, j < 40 ∧ v = Int32.ofNat j) ∨ (v < 0 ∨ 39 < v) := by
  by_cases g : v < 0
  · exact Or.inr (Or.inl g)
  · obtain ⟨t, h1, rfl⟩ := nu_of g
    by_cases g2 : t < 40
    · exact Or.inl ⟨t, g2, rfl⟩
    · exact Or.inr (Or.inr ((nu_lt (t := 39) (by omega) h1).mpr (by omega)))
theorem lw_loop {n : Nat} (hn : n ≤ 3072) : ∀ (m q : Nat) (I : Nat → Nat → Int32) (L : Nat → Nat → Int64) (R : Nat → Nat → Option Nat) (nc ns : Nat) (nx : Bool) (T c N w t p : Nat) (l5 l6 : Option Value), n < 6 * q + 6 * m + 6 → 6 * q ≤ 3072 → REL T c N w t p I L R →
  ∃ h' : ip_H, rf 300 284 23 [some (.ref 0), some (.ref 2), some (.ref 265), some (.ref 307), some (.int (Int32.ofNat (6 * q))), l5, l6] [] (SH n, I, L, R, nc, ns, nx) = some (.inl (some (.int 1)), h') ∧ h'.2.2.2.2.1 ≤ nc + m ∧ h'.2.2.2.2.2.1 ≤ ns + 6 * m := by
  intro m
  induction m with
  | zero =>
    intro q I L R nc ns nx T c N w t p l5 l6 hm hq X
    have g : (Int32.ofNat n - 6 < Int32.ofNat (6 * q)) = True := by rw [lp_end hn (by omega)]; exact eq_true (by omega)
    refine ⟨(SH n, I, L, R, nc, ns, nx), ?_, by show nc ≤ _; omega, by show ns ≤ _; omega⟩
    simp only [e284_23, e284_25, e284_26, e284_27, e284_29, e284_30, e284_2526, e284_2527, g, Bool.false_eq_true, Bool.true_eq_false, if_true, if_false, not_true_eq_false, not_false_eq_true, zle, eq_self, or_true]
  | succ m ih =>
    intro q I L R nc ns nx T c N w t p l5 l6 hm hq X
    by_cases z : n < 6 * q + 6
    · have g : (Int32.ofNat n - 6 < Int32.ofNat (6 * q)) = True := by rw [lp_end hn (by omega)]; exact eq_true (by omega)
      refine ⟨(SH n, I, L, R, nc, ns, nx), ?_, by show nc ≤ _; omega, by show ns ≤ _; omega⟩
      simp only [e284_23, e284_25, e284_26, e284_27, e284_29, e284_30, e284_2526, e284_2527, g, Bool.false_eq_true, Bool.true_eq_false, if_true, if_false, not_true_eq_false, not_false_eq_true, zle, eq_self, or_true]
    · have g : (Int32.ofNat n - 6 < Int32.ofNat (6 * q)) = False := by rw [lp_end hn (by omega)]; exact eq_false z
      have i0 : inb (Int32.ofNat (6 * q)) n := (nu_inb (by omega)).mpr (by omega)
      have ij : ∀ j, j < 6 → inb (Int32.ofNat (6 * q) + Int32.ofNat j) n := fun j hj => by rw [nu_add]; exact (nu_inb (by omega)).mpr (by omega)
      have a1 : rf 300 284 23 [some (.ref 0), some (.ref 2), some (.ref 265), some (.ref 307), some (.int (Int32.ofNat (6 * q))), l5, l6] [] (SH n, I, L, R, nc, ns, nx) = rf 300 284 40 [some (.ref 0), some (.ref 2), some (.ref 265), some (.ref 307), some (.int (Int32.ofNat (6 * q))), l5, l6] [.int (I 0 (Int32.ofNat (6 * q)).toNatClampNeg &&& 63)] (SH n, I, L, R, nc, ns, nx) := by
        simp only [e284_23, e284_25, e284_26, e284_27, e284_29, e284_30, e284_33, e284_34, e284_36, e284_37, e284_39, g, i0, Bool.false_eq_true, Bool.true_eq_false, if_true, if_false, not_true_eq_false, not_false_eq_true, zle, eq_self]
      have e6 : Int32.ofNat (6 * q) + 6 = Int32.ofNat (6 * (q + 1)) := by
        have := nu_add (t := 6 * q) (s := 6)
        rw [show 6 * q + 6 = 6 * (q + 1) by omega] at this
        exact this
      have fin : ∀ (l5 l6 : Option Value) (h : ip_H), rf 300 284 2520 [some (.ref 0), some (.ref 2), some (.ref 265), some (.ref 307), some (.int (Int32.ofNat (6 * q))), l5, l6] [] h = rf 300 284 23 [some (.ref 0), some (.ref 2), some (.ref 265), some (.ref 307), some (.int (Int32.ofNat (6 * (q + 1)))), l5, l6] [] h := by
        intro l5 l6 h
        rw [e284_2520 nl_r, e284_2523, e6]
      rw [a1]
      rcases lp_v (I 0 (Int32.ofNat (6 * q)).toNatClampNeg &&& 63) with ⟨j, hj, e⟩ | e
      · obtain ⟨pc, Y, Z⟩ := lp_case (D := 299) (by omega) j hj
        rw [e, Z]
        obtain ⟨k5, k6, I2, L2, R1, nc1, ns1, nx1, T', c', N', w', t', p', h1, h2, h3, h4, -⟩ := Y n I L R nc ns nx T c N w t p l5 l6 (Int32.ofNat (6 * q)) X ⟨ij 1 (by omega), ij 2 (by omega), ij 3 (by omega), ij 4 (by omega), ij 5 (by omega)⟩
        have h1 : rf 300 284 pc [some (.ref 0), some (.ref 2), some (.ref 265), some (.ref 307), some (.int (Int32.ofNat (6 * q))), l5, l6] [] (SH n, I, L, R, nc, ns, nx) = rf 300 284 2520 [some (.ref 0), some (.ref 2), some (.ref 265), some (.ref 307), some (.int (Int32.ofNat (6 * q))), k5, k6] [] (SH n, I2, L2, R1, nc1, ns1, nx1) := h1
        rw [h1, fin]
        obtain ⟨h', u1, u2, u3⟩ := ih (q + 1) I2 L2 R1 nc1 ns1 nx1 T' c' N' w' t' p' k5 k6 (by omega) (by omega) h2
        exact ⟨h', u1, by omega, by omega⟩
      · rw [e284_40_d e, fin]
        obtain ⟨h', u1, u2, u3⟩ := ih (q + 1) I L R nc ns nx T c N w t p l5 l6 (by omega) (by omega) X
        exact ⟨h', u1, by omega, by omega⟩
/-- THE GOAL -/
theorem ip_goal : ip_Goal := by
  intro n xs hn
  obtain ⟨J, L, R, nc, ns, h1, X, n1, n2⟩ := lw_first n xs
  obtain ⟨h', u1, u2, u3⟩ := lw_loop hn 512 0 J L R nc ns false 16 0 1 0 0 0 none none (by omega) (by omega) X
  rw [show rf 300 284 23 [some (.ref 0), some (.ref 2), some (.ref 265), some (.ref 307), some (.int 0), none, none] [] (SH n, J, L, R, nc, ns, false) = some (.inl (some (.int 1)), h') from u1] at h1
  obtain ⟨f, e⟩ := rf_to h1
  exact ⟨f, h', e, by omega, by omega⟩
