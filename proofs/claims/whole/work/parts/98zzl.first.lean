/-! THE LAW'S FIRST STEPS: what the constructors leave is alike in class and model -/
theorem sr_REL {J : Nat → Nat → Int32} {L : Nat → Nat → Int64} {R : Nat → Nat → Option Nat} (r1 : srR1 R) (r2 : srR2 R) (r3 : srR3 R) (r4 : srR4 R) (r5 : srR5 R) (r6 : srR6 R) (r7 : srR7 R) (i1 : srI1 J) (i2 : srI2 J) (i3 : srI3 J) (i4 : srI4 J) (l1 : srL L R) : REL 16 0 1 0 0 0 J L R := by
  obtain ⟨⟨a1, a2, a3, a4, a5⟩, a6, a7, a8, a9⟩ := i1
  obtain ⟨⟨b0, b1, b2, b3, b4, b5, b6, b7, b8, b9, b10, b11⟩, c0, c1, c2, c3⟩ := i2
  obtain ⟨⟨d0, d1, d2, d3, d4, d5, d6, d7, d8, d9, d10⟩, f0, f1, f2, f3⟩ := i3
  obtain ⟨g1, g2, g3, g4, g5⟩ := i4
  obtain ⟨l1, l2, l3, l4⟩ := l1
  have LY : LYR R := by
    obtain ⟨p0_0, p0_1, p0_2, p0_3, p0_4, p0_5, p0_6, p0_7, p0_8, p0_9, p0_10, p0_11⟩ := r3
    obtain ⟨p1_0, p1_1, p1_2, p1_3, p1_4, p1_5, p1_6, p1_7, p1_8, p1_9, p1_10, p1_11⟩ := r4
    obtain ⟨p2_0, p2_1, p2_2, p2_3, p2_4, p2_5, p2_6, p2_7, p2_8, p2_9, p2_10, p2_11⟩ := r5
    obtain ⟨p3_0, p3_1, p3_2, p3_3, p3_4, p3_5, p3_6, p3_7, p3_8, p3_9, p3_10, p3_11⟩ := r6
    obtain ⟨p4_0, p4_1, p4_2, p4_3, p4_4, p4_5, p4_6⟩ := r7
    refine ⟨?_, ?_, ?_, p0_0, p0_1, p0_2, p0_3, p0_4, p0_5, p0_6, p0_7, p0_8, p0_9, p0_10, p0_11, p1_0, p1_1, p1_2, p1_3, p1_4, p1_5, p1_6, p1_7, p1_8, p1_9, p1_10, p1_11, p2_0, p2_1, p2_2, p2_3, p2_4, p2_5, p2_6, p2_7, p2_8, p2_9, p2_10, p2_11, p3_0, p3_1, p3_2, p3_3, p3_4, p3_5, p3_6, p3_7, p3_8, p3_9, p3_10, p3_11, p4_0, p4_1, p4_2, p4_3, p4_4, p4_5, p4_6⟩
    · intro a ha
      rcases ha with rfl | rfl | rfl | ⟨k, hk, rfl⟩
      · exact r1.1
      · exact r1.2.1
      · exact r1.2.2.1
      · exact r1.2.2.2 k hk
    · intro a ha
      rcases ha with rfl | rfl | rfl | rfl
      · exact r2.1.1
      · exact r2.1.2.1
      · exact r2.1.2.2.1
      · exact r2.1.2.2.2
    · intro a ha
      rcases ha with rfl | rfl
      · exact r2.2.1
      · exact r2.2.2
  have i01 : ∀ {v : Int32}, v = 0 → inb v (2 ^ 0) := fun h => by rw [h]; exact (nu_inb (t := 0) (by omega)).mpr (by omega)
  have s0 : sN 0 = 0 := by decide
  refine ⟨LY, ⟨Or.inr rfl, l3, l4, by omega, a1, a2, a3, fun k hk => absurd hk (by omega), fun k hk => absurd hk (by omega), fun k hk => absurd hk (by omega), a4, ?_, fun k hk => absurd hk (by omega)⟩, ⟨⟨by omega, by omega, by omega⟩, ⟨a6, a7⟩, ⟨a8, a9⟩, ?_⟩, ⟨by omega, g1, g2, fun k hk => absurd hk (by omega)⟩, ⟨by omega, g3, g4, fun k hk => absurd hk (by omega)⟩, g5, l2⟩
  · intro s hs
    rw [a5 s hs]
    unfold wb winL
    rw [l1 (s / 64) (by omega), (bL_m1 (s % 64) (by omega)).2]
    rfl
  · intro k hk
    have hk : k = 0 := by omega
    subst hk
    refine ⟨⟨b0.trans d0.symm, Or.inl d0⟩, ⟨b1.trans d1.symm, fun _ => ⟨d1, b11, d0⟩, fun h => absurd h (by omega)⟩, ⟨b2.trans d2.symm, fun _ => d2, fun h => absurd d0 h⟩, ⟨b3.trans d3.symm, i01 d3, fun h => absurd d0 h⟩, ⟨b4.trans d7.symm, i01 d7⟩, ⟨b6.trans d4.symm, i01 d4⟩, ?_, ?_, ⟨b7.trans d5.symm, i01 d5⟩, ⟨b8.trans d6.symm, i01 d6⟩, ⟨b10.trans d9.symm, i01 d9⟩, b9.trans d8.symm, ?_, ?_, fun i hi => absurd hi (by omega)⟩
    · rw [d7, d4, s0]; rfl
    · rw [d7, d4, s0]; exact b5
    · rw [d10, d0, d3, d4, s0]; rfl
    · intro s hs
      have hs : s = 0 ∨ s = 1 := by omega
      rcases hs with rfl | rfl
      · exact ⟨⟨c0.trans f0.symm, i01 f0⟩, c2.trans f2.symm, i01 f2⟩
      · exact ⟨⟨c1.trans f1.symm, i01 f1⟩, c3.trans f3.symm, i01 f3⟩
theorem sr_get : ∃ (h g : ip_H) (I : Nat → Nat → Int32) (L : Nat → Nat → Int64) (R : Nat → Nat → Option Nat) (nc ns : Nat), sr_a = some (.inl none, h) ∧ sr_b h = some (.inl none, g) ∧ h.1.length = 265 ∧ h.2.2.2.2.2.2 = false ∧ ip_mk 101 1 g = ((107, 0) :: SHt, I, L, R, nc, ns, false) ∧ nc ≤ 400 ∧ ns ≤ 20000 ∧ srR1 R ∧ srR2 R ∧ srR3 R ∧ srR4 R ∧ srR5 R ∧ srR6 R ∧ srR7 R ∧ srI1 I ∧ srI2 I ∧ srI3 I ∧ srI4 I ∧ srL L R := by
  have T := sr_t
  split at T
  · rename_i h ha
    split at T
    · rename_i g hg
      generalize hq : ip_mk 101 1 g = q at T
      obtain ⟨sh, I, L, R, nc, ns, nx⟩ := q
      dsimp only at T
      simp only [Bool.and_eq_true, decide_eq_true_eq] at T
      obtain ⟨⟨⟨⟨⟨⟨⟨⟨⟨⟨⟨⟨⟨⟨⟨⟨⟨t1, t2⟩, t3⟩, t4⟩, t5⟩, t6⟩, t7⟩, t8⟩, t9⟩, t10⟩, t11⟩, t12⟩, t13⟩, t14⟩, t15⟩, t16⟩, t17⟩, t18⟩ := T
      subst t3
      subst t18
      exact ⟨h, g, I, L, R, nc, ns, ha, hg, t1, t2, hq, t16, t17, t4, t5, t6, t7, t8, t9, t10, t11, t12, t13, t14, t15⟩
    · cases T
  · cases T
