/-! CALL BY CALL: rule -/
section S8r
variable {n d a b T c s t z o w m p lev k side ap b0 b1 N q B C F A i : Nat} {I J K M I1 I2 : Nat → Nat → Int32} {L L' : Nat → Nat → Int64} {R R' : Nat → Nat → Option Nat} {nc ns : Nat} {nx : Bool} {x y j v u code x1 x2 x3 : Int32} {P : Nat → Nat → Prop} {h' h : ip_H}
theorem rl_1 : ∀ o, o < 256 → ∀ k, k < 8 → (o ||| 2 ^ k) &&& (255 ^^^ 2 ^ k) = o &&& (255 ^^^ 2 ^ k) := by decide +kernel
theorem rl_2 : ∀ o, o < 256 → ∀ k, k < 8 → o &&& (255 ^^^ 2 ^ k) ||| 2 ^ k = o ||| 2 ^ k := by decide +kernel
theorem tb2 {k j : Nat} : (2 ^ k).testBit j = decide (k = j) := Nat.testBit_two_pow
/-- settled so: what is left for the other side -/
theorem rl_5 {zz : Nat} (hc8 : c ≤ 8) (hk : k < c) (lo : o < 2 ^ c) (lz : zz < 2 ^ c) (b : Prop) [Decidable b] : (if b then (2 ^ c - 1) &&& (255 ^^^ o) &&& (255 ^^^ zz) &&& (255 ^^^ 2 ^ k) else (2 ^ c - 1) &&& (255 ^^^ o) &&& (255 ^^^ zz) &&& (255 ^^^ 2 ^ k) ||| 2 ^ k) = (2 ^ c - 1) &&& (255 ^^^ (o &&& (255 ^^^ 2 ^ k))) &&& (255 ^^^ (if b then zz ||| 2 ^ k else zz &&& (255 ^^^ 2 ^ k))) := by
  refine set_ext fun j => ?_
  by_cases hb : b
  · rw [if_pos hb, if_pos hb]
    simp only [Nat.testBit_and, Nat.testBit_or, Nat.testBit_xor, Nat.testBit_two_pow_sub_one, tb2, tb255]
    by_cases e : k = j
    · subst e
      simp [hk, show k < 8 by omega]
    · simp only [decide_eq_false e, Bool.xor_false, Bool.or_false]
      cases decide (j < c) <;> cases decide (j < 8) <;> cases o.testBit j <;> cases zz.testBit j <;> rfl
  · rw [if_neg hb, if_neg hb]
    simp only [Nat.testBit_and, Nat.testBit_or, Nat.testBit_xor, Nat.testBit_two_pow_sub_one, tb2, tb255]
    by_cases e : k = j
    · subst e
      simp [hk, show k < 8 by omega]
    · simp only [decide_eq_false e, Bool.xor_false, Bool.or_false]
      cases decide (j < c) <;> cases decide (j < 8) <;> cases o.testBit j <;> cases zz.testBit j <;> rfl
theorem rl_r {md : Nat} (l8 : md < 256) (hk : k < 8) (hm : md.testBit k = true) : md &&& (255 ^^^ o) ||| 2 ^ k = md &&& (255 ^^^ (o &&& (255 ^^^ 2 ^ k))) := by
  refine set_ext fun j => ?_
  simp only [Nat.testBit_and, Nat.testBit_or, Nat.testBit_xor, tb2, tb255]
  by_cases e : k = j
  · subst e
    simp [hk, hm]
  · simp only [decide_eq_false e, Bool.xor_false, Bool.or_false]
    by_cases h8 : j < 8
    · rw [decide_eq_true h8]
      cases o.testBit j <;> cases md.testBit j <;> rfl
    · rw [tb_hi l8 (by omega)]; rfl
theorem rl_0 {zz : Nat} (hk : k < 8) (h : zz &&& o = 0) (b : Prop) [Decidable b] : (if b then zz ||| 2 ^ k else zz &&& (255 ^^^ 2 ^ k)) &&& (o &&& (255 ^^^ 2 ^ k)) = 0 := by
  refine set_ext fun j => ?_
  have D := congrArg (fun t => t.testBit j) h
  simp only [Nat.testBit_and, Nat.zero_testBit] at D
  rw [Nat.zero_testBit]
  by_cases hb : b
  · rw [if_pos hb]
    simp only [Nat.testBit_and, Nat.testBit_or, Nat.testBit_xor, tb2, tb255]
    by_cases e : k = j
    · subst e
      simp [hk]
    · simp only [decide_eq_false e, Bool.xor_false, Bool.or_false]
      revert D
      cases decide (j < 8) <;> cases o.testBit j <;> cases zz.testBit j <;> decide
  · rw [if_neg hb]
    simp only [Nat.testBit_and, Nat.testBit_or, Nat.testBit_xor, tb2, tb255]
    revert D
    cases decide (j < 8) <;> cases decide (k = j) <;> cases o.testBit j <;> cases zz.testBit j <;> decide
theorem up_n {a k a' k' : Nat} {v : Int32} (h : ¬ (a' = a ∧ k' = k)) : ip_up I a k v a' k' = I a' k' := by
  by_cases e : a' = a
  · subst e; exact up_k (fun e => h ⟨rfl, e⟩)
  · exact up_a e
theorem S8 : SAMEX 84 224 [.int x1, .int x2, .int x3] Int32.toInt64 := by
  intro n I L R nc ns nx T c N w t p X
  have X0 := X
  have hR := X.1
  have hT : isT T := (REL_C X).1
  obtain ⟨tt, rT, v3, hc8, i6T, i17, v7, v8, v9, v10, v11, v12, v13⟩ := X.2.1
  have P8 := p2le hc8
  obtain ⟨⟨n1, n2, n3⟩, ⟨y1, y2⟩, ⟨y3, y4⟩, y5⟩ := X.2.2.1
  have b0 := (nu_inb (t := w) (k := 40) (by omega)).mpr (by omega)
  have e1 := nd_of (k := w) (by omega)
  have iw := isN_nd (k := w) (by omega)
  have lw : w < 2147483648 := by omega
  have w40 : w < 40 := by omega
  have g9x : ((9 : Int32) < x3) = ¬ x3 ≤ 9 := propext (by rw [le9]; exact ⟨fun h e => e h, fun h => Classical.byContradiction h⟩)
  obtain ⟨q1, q2, q3, q4, q5, q6, q7, q8, q9, q10, q11, q12, q13, q14, q15⟩ := y5 w n3
  obtain ⟨sm, lm⟩ := inb_sN q4.2.1
  obtain ⟨so, lo⟩ := inb_sN q6.2
  obtain ⟨sz, lz⟩ := inb_sN q5.2
  obtain ⟨sk0, lk0⟩ := inb_sN (q14 0 (by omega)).2.2
  obtain ⟨sk1, lk1⟩ := inb_sN (q14 1 (by omega)).2.2
  have i3 := q4.1.trans sm
  have i6 := q6.1.trans so
  have i4 := q5.1.trans sz
  have f0 := (q14 0 (by omega)).2.1.trans sk0
  have f1 := (q14 1 (by omega)).2.1.trans sk1
  rw [Nat.add_zero] at sk0 lk0 f0
  generalize hmd : sN (I 292 w) = md at *
  generalize ho : sN (I 293 w) = o at *
  generalize hzz : sN (I 296 w) = zz at *
  generalize hk0 : sN (I 301 (2 * w)) = k0 at *
  generalize hk1 : sN (I 301 (2 * w + 1)) = k1 at *
  have o8 : o < 256 := by omega
  have md8 : md < 256 := by omega
  have zz8 : zz < 256 := by omega
  rcases issC (x := x1) X with ⟨k, hk, rfl, C1, M1⟩ | ⟨C1, M1⟩
  · by_cases g2 : ¬ x2 < 0 ∧ x2 < 2
    · obtain ⟨side, hs, rfl⟩ := sd_k.mp g2
      have N2 := fun d h => c86 (d := d) (h := h) g2.1 g2.2
      have M2 := fun d h => c225 (d := d) (x := Int32.ofNat side) (h := h) g2.1 (by rw [one_lt]; exact fun e => e g2.2)
      by_cases g3 : ¬ x3 < 0 ∧ x3 ≤ 9
      · have M3 := fun d h => c217 (d := d) (x := x3) (y := 0) (z := 9) (h := h) g3.1 (by rw [g9x]; exact fun e => e g3.2)
        have k8 : k < 8 := by omega
        have kl : k < 2147483648 := by omega
        have p8 : 2 ^ k < 256 := Nat.pow_lt_pow_right (n := 8) (by omega) k8
        have p2k : 2 ^ k < 2 ^ c := Nat.pow_lt_pow_right (by omega) hk
        have li : inb (Int32.ofNat k) 8 := (nu_inb (by omega)).mpr k8
        obtain ⟨sr, lr⟩ := inb_sN (v9 k hk).2
        have i3T := (v9 k hk).1.trans sr
        generalize hrk : sN (I 276 k) = rk at *
        obtain ⟨mo, hmo⟩ : ∃ mo, mo = md &&& o := ⟨_, rfl⟩
        have hmo' : o &&& md = mo := by rw [hmo, Nat.and_comm]
        have hmo8 : mo < 256 := by rw [hmo]; exact Nat.lt_of_le_of_lt Nat.and_le_left md8
        have bt := bit_3 hmo8 k8
        have hb := fun d h => hasB (d := d) (h := h) hmo8 k8
        by_cases g : I 289 w = 0 ∧ mo.testBit k = true ∧ Int32.ofNat (rk &&& o) = 0
        · obtain ⟨gk, gb, gr⟩ := g
          have ys : (Int32.ofNat side = 0) = (side = 0) := propext (nu_inj (s := 0) (by omega) (by omega))
          have gm : md.testBit k = true := by
            rw [hmo, Nat.testBit_and] at gb
            cases e : md.testBit k with
            | true => rfl
            | false => rw [e] at gb; simp at gb
          have l5 : (2 ^ c - 1) &&& (255 ^^^ o) &&& (255 ^^^ zz) < 256 := Nat.lt_of_le_of_lt (Nat.le_trans Nat.and_le_left Nat.and_le_left) (by omega)
          obtain ⟨D0, D4, D5, D6, D20, D21, D3k, D4k⟩ := dec_get (A := 65 + 5 * w) (J := I) (y := Int32.ofNat side) (x := x3) (num := Int32.ofNat w) k8 zz8 l5 o8 (by omega : k0 < 256) (by omega : k1 < 256) i4 q8 i6 f0 f1
          have CD := fun d => c87 (d := d) (n := n) (I := I) (L := L) (nc := nc) (ns := ns) (nx := nx) (x := Int32.ofNat k) (y := Int32.ofNat side) (z := x3) (w := Int32.ofNat w) hR iw li
          rw [rl_1 o o8 k k8] at D6
          rw [rl_2 zz zz8 k k8] at D4
          simp only [ys] at D4 D5
          rw [rl_5 hc8 hk lo lz (side = 0)] at D5
          obtain ⟨zn, hzn⟩ : ∃ zn, zn = (if side = 0 then zz ||| 2 ^ k else zz &&& (255 ^^^ 2 ^ k)) := ⟨_, rfl⟩
          have lzn : zn < 2 ^ c := by
            rw [hzn]
            by_cases g0 : side = 0
            · rw [if_pos g0]; exact Nat.or_lt_two_pow lz p2k
            · rw [if_neg g0]; exact Nat.lt_of_le_of_lt Nat.and_le_left lz
          have dj := rl_0 (k := k) (o := o) (zz := zz) k8 q7 (side = 0)
          rw [← hzn] at D4 D5 dj
          obtain ⟨on, hon⟩ : ∃ on, on = o &&& (255 ^^^ 2 ^ k) := ⟨_, rfl⟩
          have lon : on < 2 ^ c := by rw [hon]; exact Nat.lt_of_le_of_lt Nat.and_le_left lo
          have rr := rl_r (o := o) md8 k8 gm
          have onb : ∀ i, i < 8 → on.testBit i = (o.testBit i && !decide (k = i)) := by
            intro i hi
            rw [hon, Nat.testBit_and, tbn, tb2, decide_eq_true hi, Bool.true_xor]
          rw [← hon] at D5 D6 dj rr
          generalize hI1 : decideI I (65 + 5 * w) (Int32.ofNat k) (Int32.ofNat side) x3 (Int32.ofNat w) = I1 at *
          have B1 : ∀ a j, 265 ≤ a → I1 a j = I a j := fun a j h => D0 a j (by omega) (by omega) (by omega) (by omega)
          have an0 := of_andn k0 (by omega) _ p8
          have an1 := of_andn k1 (by omega) _ p8
          have ano := of_andn o o8 _ p8
          have anz := of_andn zz zz8 _ p8
          have i10 : I (65 + 5 * w) 3 = Int32.ofNat md := i3
          have d3 : I1 (65 + 5 * w) 3 = Int32.ofNat md := (D0 _ _ (by omega) (by omega) (by omega) (by omega)).trans i3
          generalize hI2 : ip_up (ip_up (ip_up (ip_up (ip_up (ip_up (ip_up (ip_up (ip_up I1 265 0 0) 293 w (Int32.ofNat on)) 296 w (Int32.ofNat zn)) 299 w (Int32.ofNat (md &&& (255 ^^^ on)))) 301 (2 * w) (Int32.ofNat (k0 &&& (255 ^^^ 2 ^ k)))) 301 (2 * w + 1) (Int32.ofNat (k1 &&& (255 ^^^ 2 ^ k)))) 302 (8 * w + k) x3) 303 (8 * w + k) 0) 304 (8 * w + k) (Int32.ofNat w) = I2
          have cl : ∀ a j, ¬ (a = 265 ∧ j = 0) → ¬ (a = 293 ∧ j = w) → ¬ (a = 296 ∧ j = w) → ¬ (a = 299 ∧ j = w) → ¬ (a = 301 ∧ (j = 2 * w ∨ j = 2 * w + 1)) → ¬ ((a = 302 ∨ a = 303 ∨ a = 304) ∧ j = 8 * w + k) → I2 a j = I1 a j := by
            intro a j h1 h2 h3 h4 h5 h6
            rw [← hI2, up_n (by omega), up_n (by omega), up_n (by omega), up_n (by omega), up_n (by omega), up_n (by omega), up_n (by omega), up_n (by omega), up_n (by omega)]
          have u304 : I2 304 (8 * w + k) = Int32.ofNat w := by rw [← hI2, up_eq]
          have u303 : I2 303 (8 * w + k) = 0 := by rw [← hI2, up_a (by decide), up_eq]
          have u302 : I2 302 (8 * w + k) = x3 := by rw [← hI2, up_a (by decide), up_a (by decide), up_eq]
          have u301 : I2 301 (2 * w + 1) = Int32.ofNat (k1 &&& (255 ^^^ 2 ^ k)) := by rw [← hI2, up_a (by decide), up_a (by decide), up_a (by decide), up_eq]
          have u300 : I2 301 (2 * w) = Int32.ofNat (k0 &&& (255 ^^^ 2 ^ k)) := by rw [← hI2, up_a (by decide), up_a (by decide), up_a (by decide), up_k (by omega), up_eq]
          have u299 : I2 299 w = Int32.ofNat (md &&& (255 ^^^ on)) := by rw [← hI2, up_a (by decide), up_a (by decide), up_a (by decide), up_a (by decide), up_a (by decide), up_eq]
          have u296 : I2 296 w = Int32.ofNat zn := by rw [← hI2, up_a (by decide), up_a (by decide), up_a (by decide), up_a (by decide), up_a (by decide), up_a (by decide), up_eq]
          have u293 : I2 293 w = Int32.ofNat on := by rw [← hI2, up_a (by decide), up_a (by decide), up_a (by decide), up_a (by decide), up_a (by decide), up_a (by decide), up_a (by decide), up_eq]
          have c1 : ∀ a j, a < 265 → I2 a j = I1 a j := fun a j h => cl a j (by omega) (by omega) (by omega) (by omega) (by omega) (by omega)
          have FIN : onlyP (atW w) I I2 := by
            intro a j hn
            unfold atW atQ at hn
            rw [cl a j (by omega) (by omega) (by omega) (by omega) (by omega) (by omega), D0 a j (by omega) (by omega) (by omega) (by omega)]
          have DA : ∀ j, ¬ j = 4 → ¬ j = 5 → ¬ j = 6 → I2 (65 + 5 * w) j = I (65 + 5 * w) j := fun j h1 h2 h3 => by rw [c1 _ _ (by omega), D0 _ _ (by omega) (by omega) (by omega) (by omega)]
          have CA : ∀ a, 289 ≤ a → a ≤ 300 → ¬ a = 293 → ¬ a = 296 → ¬ a = 299 → ∀ j, I2 a j = I a j := fun a h1 h2 h3 h4 h5 j => by rw [cl a j (by omega) (by omega) (by omega) (by omega) (by omega) (by omega), B1 _ _ (by omega)]
          have NEW : ND c w I2 := by
            unfold ND
            rw [DA 0 (by omega) (by omega) (by omega), DA 1 (by omega) (by omega) (by omega), DA 2 (by omega) (by omega) (by omega), DA 3 (by omega) (by omega) (by omega), DA 7 (by omega) (by omega) (by omega), DA 8 (by omega) (by omega) (by omega), DA 9 (by omega) (by omega) (by omega), DA 10 (by omega) (by omega) (by omega), DA 11 (by omega) (by omega) (by omega), CA 289 (by omega) (by omega) (by omega) (by omega) (by omega), CA 290 (by omega) (by omega) (by omega) (by omega) (by omega), CA 291 (by omega) (by omega) (by omega) (by omega) (by omega), CA 292 (by omega) (by omega) (by omega) (by omega) (by omega), CA 294 (by omega) (by omega) (by omega) (by omega) (by omega), CA 295 (by omega) (by omega) (by omega) (by omega) (by omega), CA 297 (by omega) (by omega) (by omega) (by omega) (by omega), CA 298 (by omega) (by omega) (by omega) (by omega) (by omega), u293, u296, u299, c1 (65 + 5 * w) 4 (by omega), c1 (65 + 5 * w) 5 (by omega), c1 (65 + 5 * w) 6 (by omega), D4, D5, D6, sN_of (by omega : on < 2147483648), sN_of (by omega : zn < 2147483648), hmd]
            refine ⟨q1, ⟨q2.1, q2.2.1, ?_⟩, q3, ⟨q4.1, q4.2.1, fun h => absurd gk h⟩, ⟨rfl, inb_of lzn P8⟩, ⟨rfl, inb_of lon P8⟩, dj, rfl, q9, q10, q11, q12, by rw [if_pos gk], ?_, ?_⟩
            · intro h0
              obtain ⟨q, h1, h2, h3⟩ := q2.2.2 h0
              exact ⟨q, h1, h2, by rw [c1 (65 + 5 * q) 11 (by omega), D0 (65 + 5 * q) 11 (by omega) (by omega) (by omega) (by omega)]; exact h3⟩
            · intro s hs'
              rw [CA 300 (by omega) (by omega) (by omega) (by omega) (by omega), c1 (65 + 5 * w + 1) s (by omega), D0 (65 + 5 * w + 1) s (by omega) (by omega) (by omega) (by omega)]
              refine ⟨(q14 s hs').1, ?_⟩
              rw [c1 (65 + 5 * w + 2) s (by omega)]
              rcases lt2 hs' with rfl | rfl
              · rw [D20, show 2 * w + 0 = 2 * w from rfl, u300]
                exact ⟨rfl, inb_of (Nat.lt_of_le_of_lt Nat.and_le_left lk0) P8⟩
              · rw [D21, u301]
                exact ⟨rfl, inb_of (Nat.lt_of_le_of_lt Nat.and_le_left lk1) P8⟩
            · intro i hi
              rw [onb i (by omega), c1 (65 + 5 * w + 3) i (by omega), c1 (65 + 5 * w + 4) i (by omega)]
              by_cases e : k = i
              · subst e
                rw [decide_eq_true rfl, Bool.not_true, Bool.and_false]
                refine ⟨fun h => absurd h (by decide), fun _ => ⟨by rw [D3k, u302], w, Nat.le_refl _, D4k, u304, ?_⟩⟩
                rw [u303, CA 289 (by omega) (by omega) (by omega) (by omega) (by omega), gk]
              · rw [decide_eq_false e, Bool.not_false, Bool.and_true, D0 (65 + 5 * w + 3) i (by omega) (by omega) (by omega) (by omega), D0 (65 + 5 * w + 4) i (by omega) (by omega) (by omega) (by omega), cl 302 (8 * w + i) (by omega) (by omega) (by omega) (by omega) (by omega) (by omega), cl 303 (8 * w + i) (by omega) (by omega) (by omega) (by omega) (by omega) (by omega), cl 304 (8 * w + i) (by omega) (by omega) (by omega) (by omega) (by omega) (by omega), B1 302 _ (by omega), B1 303 _ (by omega), B1 304 _ (by omega)]
                refine ⟨(q15 i hi).1, fun h => ?_⟩
                obtain ⟨h1, q, h2, h3, h4, h5⟩ := (q15 i hi).2 h
                exact ⟨h1, q, h2, h3, h4, by rw [CA 289 (by omega) (by omega) (by omega) (by omega) (by omega)]; exact h5⟩
          have mn8 : md &&& on < 256 := Nat.lt_of_le_of_lt Nat.and_le_left md8
          obtain ⟨mn, hmn⟩ : ∃ mn, mn = md &&& on := ⟨_, rfl⟩
          have hmn' : on &&& md = mn := by rw [hmn, Nat.and_comm]
          rw [← hmn] at mn8
          have BC := bcv_pop mn mn8
          have BM := fun d h => c226 (d := d) (h := h) mn8
          refine ⟨0, Int32.ofNat (pop mn), I1, I2, ip_up L 307 0 (Int32.ofNat (pop mn)).toInt64, ip_up L 307 0 (Int32.ofNat (pop mn)).toInt64, R, nc, ns, nx, T, c, N, w, t, p, fun d => ?_, fun d => ?_, ?_, fun _ => by rw [up_eq], REL_N X0 FIN (DA 11 (by omega) (by omega) (by omega)) (CA 289 (by omega) (by omega) (by omega) (by omega) (by omega) w) NEW L307, by omega, by omega, fun i => by rw [c1 0 i (by omega), D0 0 i (by omega) (by omega) (by omega) (by omega)]⟩
          · refine w84 (d := d + 13) ?_
            simp only [en85, e85_0, e85_1, e85_2, e85_5, e85_6, e85_9, e85_10, e85_13, e85_14, e85_16, e85_19, e85_29, e85_30, e85_33, e85_34, e85_37, e85_38, e85_40, e85_42, e85_45, e85_48, e85_50, e85_53, e85_55, e85_58, e85_59, e85_60, e85_61, e85_62, e85_63, e85_66, e85_67, e85_70, e85_71, e85_73, e85_75, e85_78, e85_79, e85_82, e85_85, e85_86, e85_87, e85_89, e85_92, e85_93, e85_96, e85_106, e85_108, e85_109, e85_110, e85_111, e85_112, e85_115, e85_118, e85_120, e85_123, e85_125, e85_128, e85_129, e85_132, rk_n, rk_v, nl_n, nl_i, nl_r, cat_n, ip_cat_int, ip_cat_ref, ip_cat_long, ip_rf_some, Nat.reduceAdd, Nat.reduceLeDiff, Nat.reduceLT, Nat.le_refl, Nat.zero_le, hR, C1, N2, g3.1, g3.2, y3, b0, e1, iw, q1.1, gk, i3, i6, of_and, ← hmo, k8, sh1, bt, gb, rT, hT, ia_T3, li, nu_tn, kl, i3T, gr, CD, D6, d3, ← hmn, c19, BC, (by decide : ¬ (1 : Int32) = 0), reduceCtorEq, Bool.true_eq_false, Bool.false_eq_true, Bool.true_eq_false, if_true, if_false, not_true_eq_false, not_false_eq_true, zle, eq_self]
          · have a38 : I1 265 38 = Int32.ofNat w := (B1 _ _ (by omega)).trans y4
            have k17 : I1 265 17 = I 265 17 := B1 _ _ (by omega)
            have a289 : I1 289 w = 0 := (B1 _ _ (by omega)).trans gk
            have a293 : I1 293 w = Int32.ofNat o := (B1 _ _ (by omega)).trans so
            have a292 : I1 292 w = Int32.ofNat md := (B1 _ _ (by omega)).trans sm
            have a296 : I1 296 w = Int32.ofNat zz := (B1 _ _ (by omega)).trans sz
            have a276 : I1 276 k = Int32.ofNat rk := (B1 _ _ (by omega)).trans sr
            have a299 : I1 299 w = Int32.ofNat (md &&& (255 ^^^ o)) := by rw [B1 _ _ (by omega), q13, if_pos gk]
            have a301 : I1 301 (2 * w) = Int32.ofNat k0 := (B1 _ _ (by omega)).trans sk0
            have a302 : I1 301 (2 * w + 1) = Int32.ofNat k1 := (B1 _ _ (by omega)).trans sk1
            have l20 : 2 * w < 80 := by omega
            have l21 : 2 * w + 1 < 80 := by omega
            have l22 : 2 * w < 2147483648 := by omega
            have l23 : 2 * w + 1 < 2147483648 := by omega
            have l8 : 8 * w + k < 320 := by omega
            have l8' : 8 * w + k < 2147483648 := by omega
            have a1 : Int32.ofNat (2 * w) + 1 = Int32.ofNat (2 * w + 1) := nu_add (s := 1)
            have ne1 : ¬ 2 * w + 1 = 2 * w := by omega
            rw [← hon] at ano
            by_cases g0 : side = 0
            · rw [if_pos g0] at hzn
              have y0 : (Int32.ofNat side = 0) = True := by rw [ys]; exact eq_true g0
              simp only [en224, e224_0, e224_1, e224_2, e224_3, e224_6, e224_9, e224_10, e224_13, e224_14, e224_17, e224_20, e224_21, e224_22, e224_24, e224_27, e224_30, e224_31, e224_34, e224_35, e224_38, e224_39, e224_42, e224_45, e224_46, e224_49, e224_50, e224_53, e224_54, e224_57, e224_58, e224_61, e224_62, e224_65, e224_66, e224_67, e224_70, e224_71, e224_74, e224_75, e224_76, e224_77, e224_80, e224_83, e224_84, e224_87, e224_88, e224_89, e224_90, e224_93, e224_94, e224_97, e224_98, e224_99, e224_102, e224_103, e224_104, e224_107, e224_108, e224_111, e224_114, e224_115, e224_116, e224_117, e224_118, e224_119, e224_121, e224_122, e224_125, e224_126, e224_129, e224_130, e224_131, e224_133, e224_134, e224_135, e224_136, e224_137, e224_138, e224_141, e224_142, e224_145, e224_146, e224_149, e224_150, e224_153, e224_154, e224_157, e224_158, e224_160, e224_161, e224_164, e224_165, e224_168, e224_169, e224_172, e224_173, e224_175, e224_176, e224_177, e224_178, e224_179, e224_180, e224_183, e224_184, e224_187, e224_188, e224_189, e224_191, e224_192, e224_193, e224_194, e224_197, e224_198, e224_199, e224_202, e224_203, e224_204, e224_205, e224_207, e224_208, e224_209, e224_210, e224_211, e224_212, e224_215, e224_216, e224_217, e224_220, e224_221, e224_222, e224_223, e224_224, e224_225, e224_227, e224_228, e224_229, e224_230, e224_231, e224_232, e224_235, e224_237, e224_238, e224_241, e224_242, e224_243, e224_244, e224_245, e224_246, e224_247, e224_250, e224_252, e224_253, e224_256, e224_257, e224_258, e224_259, e224_260, e224_261, e224_262, e224_265, e224_267, e224_268, e224_271, e224_272, e224_273, e224_274, e224_275, e224_278, e224_279, e224_280, e224_283, e224_284, e224_287, e224_288, e224_289, e224_292, e224_293, e224_296, e224_297, e224_298, e224_301, rk_n, rk_v, nl_n, nl_i, nl_r, cat_n, ip_cat_int, ip_cat_ref, ip_cat_long, ip_rf_some, Nat.reduceAdd, Nat.reduceLeDiff, Nat.reduceLT, Nat.le_refl, Nat.zero_le, hR, ia_lit, nu_i, nu_tn, lw, w40, kl, k8, l20, l21, l22, l23, l8, l8', M1 _ _ _ _ _ _ _ _ k17, M2, M3, a38, a289, a293, a292, a276, a296, a299, a301, a302, of_and, hmo', hb, gb, gr, ite_0, y0, sh1, ano, an0, an1, of_or, ← hzn, rr, mu2, mu8, a1, ne1, nu_add, up_eq, up_k, up_a, Nat.reduceEqDiff, hmn', BM, true_or, or_true, Bool.false_eq_true, Bool.true_eq_false, if_true, if_false, not_true_eq_false, not_false_eq_true, zle, eq_self]
              rw [← hI2]
            · rw [if_neg g0] at hzn
              simp only [en224, e224_0, e224_1, e224_2, e224_3, e224_6, e224_9, e224_10, e224_13, e224_14, e224_17, e224_20, e224_21, e224_22, e224_24, e224_27, e224_30, e224_31, e224_34, e224_35, e224_38, e224_39, e224_42, e224_45, e224_46, e224_49, e224_50, e224_53, e224_54, e224_57, e224_58, e224_61, e224_62, e224_65, e224_66, e224_67, e224_70, e224_71, e224_74, e224_75, e224_76, e224_77, e224_80, e224_83, e224_84, e224_87, e224_88, e224_89, e224_90, e224_93, e224_94, e224_97, e224_98, e224_99, e224_102, e224_103, e224_104, e224_107, e224_108, e224_111, e224_114, e224_115, e224_116, e224_117, e224_118, e224_119, e224_121, e224_122, e224_125, e224_126, e224_129, e224_130, e224_131, e224_133, e224_134, e224_135, e224_136, e224_137, e224_138, e224_141, e224_142, e224_145, e224_146, e224_149, e224_150, e224_153, e224_154, e224_157, e224_158, e224_160, e224_161, e224_164, e224_165, e224_168, e224_169, e224_172, e224_173, e224_175, e224_176, e224_177, e224_178, e224_179, e224_180, e224_183, e224_184, e224_187, e224_188, e224_189, e224_191, e224_192, e224_193, e224_194, e224_197, e224_198, e224_199, e224_202, e224_203, e224_204, e224_205, e224_207, e224_208, e224_209, e224_210, e224_211, e224_212, e224_215, e224_216, e224_217, e224_220, e224_221, e224_222, e224_223, e224_224, e224_225, e224_227, e224_228, e224_229, e224_230, e224_231, e224_232, e224_235, e224_237, e224_238, e224_241, e224_242, e224_243, e224_244, e224_245, e224_246, e224_247, e224_250, e224_252, e224_253, e224_256, e224_257, e224_258, e224_259, e224_260, e224_261, e224_262, e224_265, e224_267, e224_268, e224_271, e224_272, e224_273, e224_274, e224_275, e224_278, e224_279, e224_280, e224_283, e224_284, e224_287, e224_288, e224_289, e224_292, e224_293, e224_296, e224_297, e224_298, e224_301, rk_n, rk_v, nl_n, nl_i, nl_r, cat_n, ip_cat_int, ip_cat_ref, ip_cat_long, ip_rf_some, Nat.reduceAdd, Nat.reduceLeDiff, Nat.reduceLT, Nat.le_refl, Nat.zero_le, hR, ia_lit, nu_i, nu_tn, lw, w40, kl, k8, l20, l21, l22, l23, l8, l8', M1 _ _ _ _ _ _ _ _ k17, M2, M3, a38, a289, a293, a292, a276, a296, a299, a301, a302, of_and, hmo', hb, gb, gr, ite_0, ys, g0, sh1, ano, anz, an0, an1, of_or, ← hzn, rr, mu2, mu8, a1, ne1, nu_add, up_eq, up_k, up_a, Nat.reduceEqDiff, hmn', BM, true_or, or_true, Bool.false_eq_true, Bool.true_eq_false, if_true, if_false, not_true_eq_false, not_false_eq_true, zle, eq_self]
              rw [← hI2]
          · rw [← hI2, up_a (by decide), up_a (by decide), up_a (by decide), up_a (by decide), up_a (by decide), up_a (by decide), up_a (by decide), up_a (by decide), up_eq]
        · refine same_x (I1 := I) (I2 := ip_up (ip_up I 265 0 0) 265 0 3) (u := 0) (R1 := R) (code := 3) X0 (by decide) (fun d => ?_) onlyP_refl (fun _ _ _ => rfl) (fun d => ?_) (onlyP_tr scM_0 scM_0) up_eq
          · refine w84x3 (d := d + 13) ?_
            by_cases gk : I 289 w = 0
            · by_cases gb : mo.testBit k = true
              · have gr : ¬ Int32.ofNat (rk &&& o) = 0 := fun e => g ⟨gk, gb, e⟩
                simp only [en85, e85_0, e85_1, e85_2, e85_5, e85_6, e85_9, e85_10, e85_13, e85_14, e85_16, e85_19, e85_29, e85_30, e85_33, e85_34, e85_37, e85_38, e85_40, e85_42, e85_45, e85_48, e85_50, e85_53, e85_55, e85_58, e85_59, e85_60, e85_61, e85_62, e85_63, e85_66, e85_67, e85_70, e85_71, e85_73, e85_75, e85_78, e85_79, e85_82, e85_85, e85_86, e85_87, e85_89, e85_92, e85_93, e85_96, e85_106, e85_108, e85_109, e85_110, e85_111, e85_112, e85_115, e85_118, e85_120, e85_123, e85_125, e85_128, e85_129, e85_132, rk_n, rk_v, nl_n, nl_i, nl_r, cat_n, ip_cat_int, ip_cat_ref, ip_cat_long, ip_rf_some, Nat.reduceAdd, Nat.reduceLeDiff, Nat.reduceLT, Nat.le_refl, Nat.zero_le, hR, C1, N2, g3.1, g3.2, y3, b0, e1, iw, q1.1, gk, i3, i6, of_and, ← hmo, k8, sh1, bt, gb, rT, hT, ia_T3, li, nu_tn, kl, i3T, gr, (by decide : ¬ (1 : Int32) = 0), reduceCtorEq, Bool.true_eq_false, Bool.false_eq_true, Bool.true_eq_false, if_true, if_false, not_true_eq_false, not_false_eq_true, zle, eq_self]
                rfl
              · have gb' := Bool.eq_false_iff.mpr gb
                simp only [en85, e85_0, e85_1, e85_2, e85_5, e85_6, e85_9, e85_10, e85_13, e85_14, e85_16, e85_19, e85_29, e85_30, e85_33, e85_34, e85_37, e85_38, e85_40, e85_42, e85_45, e85_48, e85_50, e85_53, e85_55, e85_58, e85_59, e85_60, e85_61, e85_62, e85_63, e85_66, e85_67, e85_70, e85_71, e85_73, e85_75, e85_78, e85_79, e85_82, e85_85, e85_86, e85_87, e85_89, e85_92, e85_93, e85_96, e85_106, e85_108, e85_109, e85_110, e85_111, e85_112, e85_115, e85_118, e85_120, e85_123, e85_125, e85_128, e85_129, e85_132, rk_n, rk_v, nl_n, nl_i, nl_r, cat_n, ip_cat_int, ip_cat_ref, ip_cat_long, ip_rf_some, Nat.reduceAdd, Nat.reduceLeDiff, Nat.reduceLT, Nat.le_refl, Nat.zero_le, hR, C1, N2, g3.1, g3.2, y3, b0, e1, iw, q1.1, gk, i3, i6, of_and, ← hmo, k8, sh1, bt, gb', Bool.false_eq_true, Bool.true_eq_false, if_true, if_false, not_true_eq_false, not_false_eq_true, zle, eq_self]
                rfl
            · simp only [en85, e85_0, e85_1, e85_2, e85_5, e85_6, e85_9, e85_10, e85_13, e85_14, e85_16, e85_19, e85_29, e85_30, e85_33, e85_34, e85_37, e85_38, e85_40, e85_42, e85_45, e85_48, e85_50, e85_53, e85_55, e85_58, e85_59, e85_60, e85_61, e85_62, e85_63, e85_66, e85_67, e85_70, e85_71, e85_73, e85_75, e85_78, e85_79, e85_82, e85_85, e85_86, e85_87, e85_89, e85_92, e85_93, e85_96, e85_106, e85_108, e85_109, e85_110, e85_111, e85_112, e85_115, e85_118, e85_120, e85_123, e85_125, e85_128, e85_129, e85_132, rk_n, rk_v, nl_n, nl_i, nl_r, cat_n, ip_cat_int, ip_cat_ref, ip_cat_long, ip_rf_some, Nat.reduceAdd, Nat.reduceLeDiff, Nat.reduceLT, Nat.le_refl, Nat.zero_le, hR, C1, N2, g3.1, g3.2, y3, b0, e1, iw, q1.1, gk, Bool.false_eq_true, Bool.true_eq_false, if_true, if_false, not_true_eq_false, not_false_eq_true, zle, eq_self]
              rfl
          · have z3 : ¬ (3 : Int32) ≤ 0 := by decide
            by_cases gk : I 289 w = 0
            · by_cases gb : mo.testBit k = true
              · have gr : ¬ Int32.ofNat (rk &&& o) = 0 := fun e => g ⟨gk, gb, e⟩
                simp only [en224, e224_0, e224_1, e224_2, e224_3, e224_6, e224_9, e224_10, e224_13, e224_14, e224_17, e224_20, e224_21, e224_22, e224_24, e224_27, e224_30, e224_31, e224_34, e224_35, e224_38, e224_39, e224_42, e224_45, e224_46, e224_49, e224_50, e224_53, e224_54, e224_57, e224_58, e224_61, e224_62, e224_65, e224_66, e224_67, e224_70, e224_71, e224_74, e224_75, e224_76, e224_77, e224_80, e224_83, e224_84, e224_87, e224_88, e224_89, e224_90, e224_93, e224_94, e224_97, e224_98, e224_99, e224_102, e224_103, e224_104, e224_107, e224_108, e224_111, e224_114, e224_115, e224_116, e224_117, e224_118, e224_119, e224_121, e224_122, e224_125, e224_126, e224_129, e224_130, e224_131, e224_133, e224_134, e224_135, e224_136, e224_137, e224_138, e224_141, e224_142, e224_145, e224_146, e224_149, e224_150, e224_153, e224_154, e224_157, e224_158, e224_160, e224_161, e224_164, e224_165, e224_168, e224_169, e224_172, e224_173, e224_175, e224_176, e224_177, e224_178, e224_179, e224_180, e224_183, e224_184, e224_187, e224_188, e224_189, e224_191, e224_192, e224_193, e224_194, e224_197, e224_198, e224_199, e224_202, e224_203, e224_204, e224_205, e224_207, e224_208, e224_209, e224_210, e224_211, e224_212, e224_215, e224_216, e224_217, e224_220, e224_221, e224_222, e224_223, e224_224, e224_225, e224_227, e224_228, e224_229, e224_230, e224_231, e224_232, e224_235, e224_237, e224_238, e224_241, e224_242, e224_243, e224_244, e224_245, e224_246, e224_247, e224_250, e224_252, e224_253, e224_256, e224_257, e224_258, e224_259, e224_260, e224_261, e224_262, e224_265, e224_267, e224_268, e224_271, e224_272, e224_273, e224_274, e224_275, e224_278, e224_279, e224_280, e224_283, e224_284, e224_287, e224_288, e224_289, e224_292, e224_293, e224_296, e224_297, e224_298, e224_301, rk_n, rk_v, nl_n, nl_i, nl_r, cat_n, ip_cat_int, ip_cat_ref, ip_cat_long, ip_rf_some, Nat.reduceAdd, Nat.reduceLeDiff, Nat.reduceLT, Nat.le_refl, Nat.zero_le, hR, ia_lit, nu_i, nu_tn, lw, w40, kl, k8, M1 _ _ _ _ _ _ _ _ rfl, M2, M3, y4, gk, so, sm, sr, of_and, hmo', hb, gb, gr, ite_0, up_eq, up_k, up_a, Nat.reduceEqDiff, z3, true_or, or_true, Bool.false_eq_true, Bool.true_eq_false, if_true, if_false, not_true_eq_false, not_false_eq_true, zle, eq_self]
              · simp only [en224, e224_0, e224_1, e224_2, e224_3, e224_6, e224_9, e224_10, e224_13, e224_14, e224_17, e224_20, e224_21, e224_22, e224_24, e224_27, e224_30, e224_31, e224_34, e224_35, e224_38, e224_39, e224_42, e224_45, e224_46, e224_49, e224_50, e224_53, e224_54, e224_57, e224_58, e224_61, e224_62, e224_65, e224_66, e224_67, e224_70, e224_71, e224_74, e224_75, e224_76, e224_77, e224_80, e224_83, e224_84, e224_87, e224_88, e224_89, e224_90, e224_93, e224_94, e224_97, e224_98, e224_99, e224_102, e224_103, e224_104, e224_107, e224_108, e224_111, e224_114, e224_115, e224_116, e224_117, e224_118, e224_119, e224_121, e224_122, e224_125, e224_126, e224_129, e224_130, e224_131, e224_133, e224_134, e224_135, e224_136, e224_137, e224_138, e224_141, e224_142, e224_145, e224_146, e224_149, e224_150, e224_153, e224_154, e224_157, e224_158, e224_160, e224_161, e224_164, e224_165, e224_168, e224_169, e224_172, e224_173, e224_175, e224_176, e224_177, e224_178, e224_179, e224_180, e224_183, e224_184, e224_187, e224_188, e224_189, e224_191, e224_192, e224_193, e224_194, e224_197, e224_198, e224_199, e224_202, e224_203, e224_204, e224_205, e224_207, e224_208, e224_209, e224_210, e224_211, e224_212, e224_215, e224_216, e224_217, e224_220, e224_221, e224_222, e224_223, e224_224, e224_225, e224_227, e224_228, e224_229, e224_230, e224_231, e224_232, e224_235, e224_237, e224_238, e224_241, e224_242, e224_243, e224_244, e224_245, e224_246, e224_247, e224_250, e224_252, e224_253, e224_256, e224_257, e224_258, e224_259, e224_260, e224_261, e224_262, e224_265, e224_267, e224_268, e224_271, e224_272, e224_273, e224_274, e224_275, e224_278, e224_279, e224_280, e224_283, e224_284, e224_287, e224_288, e224_289, e224_292, e224_293, e224_296, e224_297, e224_298, e224_301, rk_n, rk_v, nl_n, nl_i, nl_r, cat_n, ip_cat_int, ip_cat_ref, ip_cat_long, ip_rf_some, Nat.reduceAdd, Nat.reduceLeDiff, Nat.reduceLT, Nat.le_refl, Nat.zero_le, hR, ia_lit, nu_i, nu_tn, lw, w40, kl, k8, M1 _ _ _ _ _ _ _ _ rfl, M2, M3, y4, gk, so, sm, of_and, hmo', hb, gb, ite_0, up_eq, up_k, up_a, Nat.reduceEqDiff, z3, true_or, or_true, Bool.false_eq_true, Bool.true_eq_false, if_true, if_false, not_true_eq_false, not_false_eq_true, zle, eq_self]
            · simp only [en224, e224_0, e224_1, e224_2, e224_3, e224_6, e224_9, e224_10, e224_13, e224_14, e224_17, e224_20, e224_21, e224_22, e224_24, e224_27, e224_30, e224_31, e224_34, e224_35, e224_38, e224_39, e224_42, e224_45, e224_46, e224_49, e224_50, e224_53, e224_54, e224_57, e224_58, e224_61, e224_62, e224_65, e224_66, e224_67, e224_70, e224_71, e224_74, e224_75, e224_76, e224_77, e224_80, e224_83, e224_84, e224_87, e224_88, e224_89, e224_90, e224_93, e224_94, e224_97, e224_98, e224_99, e224_102, e224_103, e224_104, e224_107, e224_108, e224_111, e224_114, e224_115, e224_116, e224_117, e224_118, e224_119, e224_121, e224_122, e224_125, e224_126, e224_129, e224_130, e224_131, e224_133, e224_134, e224_135, e224_136, e224_137, e224_138, e224_141, e224_142, e224_145, e224_146, e224_149, e224_150, e224_153, e224_154, e224_157, e224_158, e224_160, e224_161, e224_164, e224_165, e224_168, e224_169, e224_172, e224_173, e224_175, e224_176, e224_177, e224_178, e224_179, e224_180, e224_183, e224_184, e224_187, e224_188, e224_189, e224_191, e224_192, e224_193, e224_194, e224_197, e224_198, e224_199, e224_202, e224_203, e224_204, e224_205, e224_207, e224_208, e224_209, e224_210, e224_211, e224_212, e224_215, e224_216, e224_217, e224_220, e224_221, e224_222, e224_223, e224_224, e224_225, e224_227, e224_228, e224_229, e224_230, e224_231, e224_232, e224_235, e224_237, e224_238, e224_241, e224_242, e224_243, e224_244, e224_245, e224_246, e224_247, e224_250, e224_252, e224_253, e224_256, e224_257, e224_258, e224_259, e224_260, e224_261, e224_262, e224_265, e224_267, e224_268, e224_271, e224_272, e224_273, e224_274, e224_275, e224_278, e224_279, e224_280, e224_283, e224_284, e224_287, e224_288, e224_289, e224_292, e224_293, e224_296, e224_297, e224_298, e224_301, rk_n, rk_v, nl_n, nl_i, nl_r, cat_n, ip_cat_int, ip_cat_ref, ip_cat_long, ip_rf_some, Nat.reduceAdd, Nat.reduceLeDiff, Nat.reduceLT, Nat.le_refl, Nat.zero_le, hR, ia_lit, nu_i, nu_tn, lw, w40, M1 _ _ _ _ _ _ _ _ rfl, M2, M3, y4, gk, up_eq, up_k, up_a, Nat.reduceEqDiff, z3, true_or, or_true, Bool.false_eq_true, Bool.true_eq_false, if_true, if_false, not_true_eq_false, not_false_eq_true, zle, eq_self]
      · refine same_x (I1 := I) (I2 := ip_up I 265 0 2) (u := 0) (R1 := R) (code := 2) X0 (by decide) (fun d => ?_) onlyP_refl (fun _ _ _ => rfl) (fun d => ?_) scM_0 up_eq
        · refine w84x2 (d := d + 13) ?_
          by_cases g4 : x3 < 0
          · simp only [en85, e85_0, e85_1, e85_2, e85_5, e85_6, e85_9, e85_10, e85_13, e85_14, e85_16, e85_19, e85_29, e85_30, e85_33, e85_34, e85_37, e85_38, e85_40, e85_42, e85_45, e85_48, e85_50, e85_53, e85_55, e85_58, e85_59, e85_60, e85_61, e85_62, e85_63, e85_66, e85_67, e85_70, e85_71, e85_73, e85_75, e85_78, e85_79, e85_82, e85_85, e85_86, e85_87, e85_89, e85_92, e85_93, e85_96, e85_106, e85_108, e85_109, e85_110, e85_111, e85_112, e85_115, e85_118, e85_120, e85_123, e85_125, e85_128, e85_129, e85_132, rk_n, rk_v, nl_n, nl_i, nl_r, cat_n, ip_cat_int, ip_cat_ref, ip_cat_long, ip_rf_some, Nat.reduceAdd, Nat.reduceLeDiff, Nat.reduceLT, Nat.le_refl, Nat.zero_le, hR, C1, N2, g4, Bool.false_eq_true, Bool.true_eq_false, if_true, if_false, not_true_eq_false, not_false_eq_true, zle, eq_self]
            rfl
          · have g5 : ¬ x3 ≤ 9 := fun e => g3 ⟨g4, e⟩
            simp only [en85, e85_0, e85_1, e85_2, e85_5, e85_6, e85_9, e85_10, e85_13, e85_14, e85_16, e85_19, e85_29, e85_30, e85_33, e85_34, e85_37, e85_38, e85_40, e85_42, e85_45, e85_48, e85_50, e85_53, e85_55, e85_58, e85_59, e85_60, e85_61, e85_62, e85_63, e85_66, e85_67, e85_70, e85_71, e85_73, e85_75, e85_78, e85_79, e85_82, e85_85, e85_86, e85_87, e85_89, e85_92, e85_93, e85_96, e85_106, e85_108, e85_109, e85_110, e85_111, e85_112, e85_115, e85_118, e85_120, e85_123, e85_125, e85_128, e85_129, e85_132, rk_n, rk_v, nl_n, nl_i, nl_r, cat_n, ip_cat_int, ip_cat_ref, ip_cat_long, ip_rf_some, Nat.reduceAdd, Nat.reduceLeDiff, Nat.reduceLT, Nat.le_refl, Nat.zero_le, hR, C1, N2, g4, g5, Bool.false_eq_true, Bool.true_eq_false, if_true, if_false, not_true_eq_false, not_false_eq_true, zle, eq_self]
            rfl
        · have M3 := fun d h => b217 (d := d) (x := x3) (y := 0) (z := 9) (h := h) (by
            rw [g9x]
            by_cases g4 : x3 < 0
            · exact Or.inl g4
            · exact Or.inr (fun e => g3 ⟨g4, e⟩))
          simp only [en224, e224_0, e224_1, e224_2, e224_3, e224_6, e224_9, e224_10, e224_13, e224_14, e224_17, e224_20, e224_21, e224_22, e224_24, e224_27, e224_30, e224_31, e224_34, e224_35, e224_38, e224_39, e224_42, e224_45, e224_46, e224_49, e224_50, e224_53, e224_54, e224_57, e224_58, e224_61, e224_62, e224_65, e224_66, e224_67, e224_70, e224_71, e224_74, e224_75, e224_76, e224_77, e224_80, e224_83, e224_84, e224_87, e224_88, e224_89, e224_90, e224_93, e224_94, e224_97, e224_98, e224_99, e224_102, e224_103, e224_104, e224_107, e224_108, e224_111, e224_114, e224_115, e224_116, e224_117, e224_118, e224_119, e224_121, e224_122, e224_125, e224_126, e224_129, e224_130, e224_131, e224_133, e224_134, e224_135, e224_136, e224_137, e224_138, e224_141, e224_142, e224_145, e224_146, e224_149, e224_150, e224_153, e224_154, e224_157, e224_158, e224_160, e224_161, e224_164, e224_165, e224_168, e224_169, e224_172, e224_173, e224_175, e224_176, e224_177, e224_178, e224_179, e224_180, e224_183, e224_184, e224_187, e224_188, e224_189, e224_191, e224_192, e224_193, e224_194, e224_197, e224_198, e224_199, e224_202, e224_203, e224_204, e224_205, e224_207, e224_208, e224_209, e224_210, e224_211, e224_212, e224_215, e224_216, e224_217, e224_220, e224_221, e224_222, e224_223, e224_224, e224_225, e224_227, e224_228, e224_229, e224_230, e224_231, e224_232, e224_235, e224_237, e224_238, e224_241, e224_242, e224_243, e224_244, e224_245, e224_246, e224_247, e224_250, e224_252, e224_253, e224_256, e224_257, e224_258, e224_259, e224_260, e224_261, e224_262, e224_265, e224_267, e224_268, e224_271, e224_272, e224_273, e224_274, e224_275, e224_278, e224_279, e224_280, e224_283, e224_284, e224_287, e224_288, e224_289, e224_292, e224_293, e224_296, e224_297, e224_298, e224_301, rk_n, rk_v, nl_n, nl_i, nl_r, cat_n, ip_cat_int, ip_cat_ref, ip_cat_long, ip_rf_some, Nat.reduceAdd, Nat.reduceLeDiff, Nat.reduceLT, Nat.le_refl, Nat.zero_le, M1 _ _ _ _ _ _ _ _ rfl, M2, M3, up_eq, (by decide : ¬ (2 : Int32) = 0 ∧ ¬ (2 : Int32) ≤ 0), true_or, Bool.false_eq_true, Bool.true_eq_false, if_true, if_false, not_true_eq_false, not_false_eq_true, zle, eq_self]
    · have g2' := no_k (K := 2) g2
      refine same_x (I1 := I) (I2 := ip_up I 265 0 2) (u := 0) (R1 := R) (code := 2) X0 (by decide) (fun d => ?_) onlyP_refl (fun _ _ _ => rfl) (fun d => ?_) scM_0 up_eq
      · refine w84x2 (d := d + 13) ?_
        have N2 := fun d h => x86 (d := d) (h := h) g2'
        simp only [en85, e85_0, e85_1, e85_2, e85_5, e85_6, e85_9, e85_10, e85_13, e85_14, e85_16, e85_19, e85_29, e85_30, e85_33, e85_34, e85_37, e85_38, e85_40, e85_42, e85_45, e85_48, e85_50, e85_53, e85_55, e85_58, e85_59, e85_60, e85_61, e85_62, e85_63, e85_66, e85_67, e85_70, e85_71, e85_73, e85_75, e85_78, e85_79, e85_82, e85_85, e85_86, e85_87, e85_89, e85_92, e85_93, e85_96, e85_106, e85_108, e85_109, e85_110, e85_111, e85_112, e85_115, e85_118, e85_120, e85_123, e85_125, e85_128, e85_129, e85_132, rk_n, rk_v, nl_n, nl_i, nl_r, cat_n, ip_cat_int, ip_cat_ref, ip_cat_long, ip_rf_some, Nat.reduceAdd, Nat.reduceLeDiff, Nat.reduceLT, Nat.le_refl, Nat.zero_le, hR, C1, N2, rk_x hh85, Bool.false_eq_true, Bool.true_eq_false, if_true, if_false, not_true_eq_false, not_false_eq_true, zle, eq_self]
        rfl
      · have M2 := fun d h => b225 (d := d) (x := x2) (h := h) (by rw [one_lt]; exact g2')
        simp only [en224, e224_0, e224_1, e224_2, e224_3, e224_6, e224_9, e224_10, e224_13, e224_14, e224_17, e224_20, e224_21, e224_22, e224_24, e224_27, e224_30, e224_31, e224_34, e224_35, e224_38, e224_39, e224_42, e224_45, e224_46, e224_49, e224_50, e224_53, e224_54, e224_57, e224_58, e224_61, e224_62, e224_65, e224_66, e224_67, e224_70, e224_71, e224_74, e224_75, e224_76, e224_77, e224_80, e224_83, e224_84, e224_87, e224_88, e224_89, e224_90, e224_93, e224_94, e224_97, e224_98, e224_99, e224_102, e224_103, e224_104, e224_107, e224_108, e224_111, e224_114, e224_115, e224_116, e224_117, e224_118, e224_119, e224_121, e224_122, e224_125, e224_126, e224_129, e224_130, e224_131, e224_133, e224_134, e224_135, e224_136, e224_137, e224_138, e224_141, e224_142, e224_145, e224_146, e224_149, e224_150, e224_153, e224_154, e224_157, e224_158, e224_160, e224_161, e224_164, e224_165, e224_168, e224_169, e224_172, e224_173, e224_175, e224_176, e224_177, e224_178, e224_179, e224_180, e224_183, e224_184, e224_187, e224_188, e224_189, e224_191, e224_192, e224_193, e224_194, e224_197, e224_198, e224_199, e224_202, e224_203, e224_204, e224_205, e224_207, e224_208, e224_209, e224_210, e224_211, e224_212, e224_215, e224_216, e224_217, e224_220, e224_221, e224_222, e224_223, e224_224, e224_225, e224_227, e224_228, e224_229, e224_230, e224_231, e224_232, e224_235, e224_237, e224_238, e224_241, e224_242, e224_243, e224_244, e224_245, e224_246, e224_247, e224_250, e224_252, e224_253, e224_256, e224_257, e224_258, e224_259, e224_260, e224_261, e224_262, e224_265, e224_267, e224_268, e224_271, e224_272, e224_273, e224_274, e224_275, e224_278, e224_279, e224_280, e224_283, e224_284, e224_287, e224_288, e224_289, e224_292, e224_293, e224_296, e224_297, e224_298, e224_301, rk_n, rk_v, nl_n, nl_i, nl_r, cat_n, ip_cat_int, ip_cat_ref, ip_cat_long, ip_rf_some, Nat.reduceAdd, Nat.reduceLeDiff, Nat.reduceLT, Nat.le_refl, Nat.zero_le, M1 _ _ _ _ _ _ _ _ rfl, M2, up_eq, (by decide : ¬ (2 : Int32) = 0 ∧ ¬ (2 : Int32) ≤ 0), true_or, Bool.false_eq_true, Bool.true_eq_false, if_true, if_false, not_true_eq_false, not_false_eq_true, zle, eq_self]
  · refine same_x (I1 := I) (I2 := ip_up I 265 0 1) (u := 0) (R1 := R) (code := 1) X0 (by decide) (fun d => ?_) onlyP_refl (fun _ _ _ => rfl) (fun d => ?_) scM_0 up_eq
    · refine w84x1 (d := d + 13) ?_
      simp only [en85, e85_0, e85_1, e85_2, e85_5, e85_6, e85_9, e85_10, e85_13, e85_14, e85_16, e85_19, e85_29, e85_30, e85_33, e85_34, e85_37, e85_38, e85_40, e85_42, e85_45, e85_48, e85_50, e85_53, e85_55, e85_58, e85_59, e85_60, e85_61, e85_62, e85_63, e85_66, e85_67, e85_70, e85_71, e85_73, e85_75, e85_78, e85_79, e85_82, e85_85, e85_86, e85_87, e85_89, e85_92, e85_93, e85_96, e85_106, e85_108, e85_109, e85_110, e85_111, e85_112, e85_115, e85_118, e85_120, e85_123, e85_125, e85_128, e85_129, e85_132, rk_n, rk_v, nl_n, nl_i, nl_r, cat_n, ip_cat_int, ip_cat_ref, ip_cat_long, ip_rf_some, Nat.reduceAdd, Nat.reduceLeDiff, Nat.reduceLT, Nat.le_refl, Nat.zero_le, C1, rk_x hh85, Bool.false_eq_true, Bool.true_eq_false, if_true, if_false, not_true_eq_false, not_false_eq_true, zle, eq_self]
      rfl
    · simp only [en224, e224_0, e224_1, e224_2, e224_3, e224_6, e224_9, e224_10, e224_13, e224_14, e224_17, e224_20, e224_21, e224_22, e224_24, e224_27, e224_30, e224_31, e224_34, e224_35, e224_38, e224_39, e224_42, e224_45, e224_46, e224_49, e224_50, e224_53, e224_54, e224_57, e224_58, e224_61, e224_62, e224_65, e224_66, e224_67, e224_70, e224_71, e224_74, e224_75, e224_76, e224_77, e224_80, e224_83, e224_84, e224_87, e224_88, e224_89, e224_90, e224_93, e224_94, e224_97, e224_98, e224_99, e224_102, e224_103, e224_104, e224_107, e224_108, e224_111, e224_114, e224_115, e224_116, e224_117, e224_118, e224_119, e224_121, e224_122, e224_125, e224_126, e224_129, e224_130, e224_131, e224_133, e224_134, e224_135, e224_136, e224_137, e224_138, e224_141, e224_142, e224_145, e224_146, e224_149, e224_150, e224_153, e224_154, e224_157, e224_158, e224_160, e224_161, e224_164, e224_165, e224_168, e224_169, e224_172, e224_173, e224_175, e224_176, e224_177, e224_178, e224_179, e224_180, e224_183, e224_184, e224_187, e224_188, e224_189, e224_191, e224_192, e224_193, e224_194, e224_197, e224_198, e224_199, e224_202, e224_203, e224_204, e224_205, e224_207, e224_208, e224_209, e224_210, e224_211, e224_212, e224_215, e224_216, e224_217, e224_220, e224_221, e224_222, e224_223, e224_224, e224_225, e224_227, e224_228, e224_229, e224_230, e224_231, e224_232, e224_235, e224_237, e224_238, e224_241, e224_242, e224_243, e224_244, e224_245, e224_246, e224_247, e224_250, e224_252, e224_253, e224_256, e224_257, e224_258, e224_259, e224_260, e224_261, e224_262, e224_265, e224_267, e224_268, e224_271, e224_272, e224_273, e224_274, e224_275, e224_278, e224_279, e224_280, e224_283, e224_284, e224_287, e224_288, e224_289, e224_292, e224_293, e224_296, e224_297, e224_298, e224_301, rk_n, rk_v, nl_n, nl_i, nl_r, cat_n, ip_cat_int, ip_cat_ref, ip_cat_long, ip_rf_some, Nat.reduceAdd, Nat.reduceLeDiff, Nat.reduceLT, Nat.le_refl, Nat.zero_le, M1 _ _ _ _ _ _ _ _ rfl, up_eq, (by decide : ¬ (1 : Int32) = 0 ∧ ¬ (1 : Int32) ≤ 0), true_or, Bool.false_eq_true, Bool.true_eq_false, if_true, if_false, not_true_eq_false, not_false_eq_true, zle, eq_self]
end S8r
