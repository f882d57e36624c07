/-! CALL BY CALL: appeal -/
section S6
variable {n d a b T c s t z o w m p lev k side ap b0 b1 N q B C F : Nat} {I J K I1 I2 : Nat → Nat → Int32} {L L' : Nat → Nat → Int64} {R R' : Nat → Nat → Option Nat} {nc ns : Nat} {nx : Bool} {x y j v u code x1 x2 x3 : Int32} {P : Nat → Nat → Prop} {h' h : ip_H} {std rst V : Nat → Nat} {win : Nat → Bool} {br fl : Nat → Int32}
theorem opn_2c (hm : m < 2 ^ c) (hv : V 6 < 2 ^ c) : opnN c std rst br win V fl lev m < 2 ^ c := Nat.or_lt_two_pow (Nat.or_lt_two_pow hv (Nat.lt_of_le_of_lt Nat.and_le_left hm)) (restOn_lt rst m c)
theorem jP_lt (hv : V 6 < 2 ^ c) : jP c std rst br win V fl lev ap b0 b1 < 2 ^ c := by
  unfold jP
  split
  · exact hv
  · exact opn_2c errN_2c hv
theorem jT_lt : jT c std rst br win V fl lev ap b0 b1 < 2 ^ c := by
  unfold jT
  split
  · exact Nat.two_pow_pos c
  · exact Nat.lt_of_le_of_lt Nat.and_le_left (setN_lt _ c)
theorem jP_V6 {i : Nat} (h : (V 6).testBit i = true) : (jP c std rst br win V fl lev ap b0 b1).testBit i = true := by
  unfold jP
  split
  · exact h
  · unfold opnN
    rw [Nat.testBit_or, Nat.testBit_or, h]
    rfl
theorem jT_jP (hc8 : c ≤ 8) (hv : V 6 < 2 ^ c) {i : Nat} (h : (jT c std rst br win V fl lev ap b0 b1).testBit i = true) : (jP c std rst br win V fl lev ap b0 b1).testBit i = false := by
  have P8 := p2le hc8
  unfold jT at h
  unfold jP
  split at h
  · rw [Nat.zero_testBit] at h; cases h
  · rename_i hn
    rw [if_neg hn]
    unfold trnN at h
    rw [Nat.testBit_and, tbn, Bool.and_eq_true] at h
    have o8 : opnN c std rst br win V fl lev (errN c std rst br win V fl lev (jS c std rst br win V fl lev ap b0 b1)) < 2 ^ c := opn_2c errN_2c hv
    cases q : (opnN c std rst br win V fl lev (errN c std rst br win V fl lev (jS c std rst br win V fl lev ap b0 b1))).testBit i with
    | false => rfl
    | true =>
      have hi := tb_lt o8 q
      rw [q, decide_eq_true (show i < 8 by omega)] at h
      exact absurd h.2 (by decide)
theorem jZ_eq (hc8 : c ≤ 8) (hv : V 4 < 2 ^ c) (hd : ∀ i, (V 4).testBit i = true → (V 6).testBit i = false) : jZ c std rst br win V fl lev ap b0 b1 = (V 4 ^^^ jT c std rst br win V fl lev ap b0 b1) &&& (255 ^^^ jP c std rst br win V fl lev ap b0 b1) := by
  unfold jZ jT jP
  split
  · rw [Nat.xor_zero, and_dis hc8 hv (fun i _ h => hd i h)]
  · rfl
theorem lost_eq (hc8 : c ≤ 8) (a2 : ap < 2) (h4 : V 4 < 2 ^ c) (h5 : V 5 < 2 ^ c) (v5 : ∀ i, i < c → (V 5).testBit i = (!(V 6).testBit i && !(V 4).testBit i)) (v4 : ∀ i, (V 4).testBit i = true → (V 6).testBit i = false) : lostN V lev ap = lostM V lev ap c := by
  unfold lostN lostM
  split
  · apply Nat.eq_of_testBit_eq
    intro i
    unfold agsN
    rw [setN_bit]
    unfold agN
    by_cases hi : i < c
    · rw [decide_eq_true hi, Bool.true_and]
      rcases lt2 a2 with rfl | rfl
      · rw [if_neg (by decide), v5 i hi]
        cases (V 6).testBit i <;> cases (V 4).testBit i <;> rfl
      · rw [if_pos rfl]
        cases e : (V 4).testBit i with
        | false => cases (V 6).testBit i <;> rfl
        | true => rw [v4 i e]; rfl
    · rw [decide_eq_false hi, Bool.false_and]
      split
      · exact Nat.testBit_lt_two_pow (Nat.lt_of_lt_of_le h4 (Nat.pow_le_pow_right (by omega) (by omega)))
      · exact Nat.testBit_lt_two_pow (Nat.lt_of_lt_of_le h5 (Nat.pow_le_pow_right (by omega) (by omega)))
  · rfl
theorem SIT_J (H : onlyP (atJ 24) I J) (S : SIT 24 T F B c std rst br win V fl lev ap I R) : SIT 24 T F B c std rst br win V fl lev ap J R := by
  obtain ⟨r0, r1, r2, s3, s4, s5, sh⟩ := S
  refine ⟨r0, r1, r2, ?_, ?_, ?_, ?_⟩
  · rw [H 24 3 (by unfold atJ; omega)]; exact s3
  · rw [H 24 4 (by unfold atJ; omega)]; exact s4
  · rw [H 24 5 (by unfold atJ; omega)]; exact s5
  · intro s hs; rw [H (24 + 13) s (by unfold atJ; omega), H (24 + 14) s (by unfold atJ; omega)]; exact sh s hs
theorem lost_2c (h4 : V 4 < 2 ^ c) (h5 : V 5 < 2 ^ c) : lostN V lev ap < 2 ^ c := by
  unfold lostN
  split
  · split
    · exact h4
    · exact h5
  · exact Nat.two_pow_pos c
theorem ly37 {h0 h1 : Nat} : layI K lev ap h0 h1 265 37 = K 265 37 := by unfold layI; rw [up_k (by decide), up_k (by decide), up_k (by decide), up_k (by decide)]
theorem S11 : SAMEX 96 230 [.int x1, .int x2] Int32.toInt64 := by
  intro n I L R nc ns nx T c N w t p X
  have X0 := X
  obtain ⟨q, B, hq, nB, hB, QQ, AA⟩ := APP X n nc ns nx
  have hR := X.1
  have hc8 : c ≤ 8 := X.2.1.2.2.2.1
  have P8 := p2le hc8
  have hR2 : LYR (sitR R 24 T (65 + 5 * w) B) := sitR_ly C24 hR
  obtain ⟨⟨n1, n2, n3⟩, ⟨y1, y2⟩, ⟨y3, y4⟩, y5⟩ := X.2.2.1
  have W := y5 w n3
  rcases setC (x := x1) X with ⟨b0, q0, rfl, C1, M1⟩ | ⟨C1, M1⟩
  · rcases setC (x := x2) X with ⟨b1, q1, rfl, C2, M2⟩ | ⟨C2, M2⟩
    · rcases AA with ⟨lev, ap, J, hl, a2, il, hS, vlt, A1, oS, CN, CT, SJ, MO⟩ | ⟨A1, MO⟩
      · have oC : onlyP scC I J := onlyP_mono oS (fun _ _ => atS_C)
        have j26 : J 2 6 = Int32.ofNat N := (oC 2 6 (by unfold scC; omega)).trans y1
        have j27 : J 2 7 = Int32.ofNat w := (oC 2 7 (by unfold scC; omega)).trans y3
        by_cases hN : N < 40
        · -- room
          have RM := fun d => c107 (d := d) (n := n) (I := J) (L := L) (R := sitR R 24 T (65 + 5 * w) B) (nc := nc) (ns := ns) (nx := nx) (by rw [j26]; exact (nu_lt (s := 40) (by omega) (by omega)).mpr hN)
          obtain ⟨J1, JU, o1, z8, z9, z10, z11, z12, zb0, zb1⟩ := c108 (d := 0) (n := n) (nc := nc) (ns := ns) (nx := nx) hR2 C24 CT CN SJ a2 q0 q1
          have JU' := fun d => cf_le JU (show 3 ≤ d + 12 by omega)
          have v8 : ∀ j, VI I w q j < 256 := fun j => Nat.lt_of_lt_of_le (vlt j) P8
          have hT := CT.1
          have CT1 : CTx T c (stdI I) (rstI I) (I 277) (winL L T) J1 L := CTx_P o1 (fun i hi k e => by
            rcases e with ⟨e, -⟩ | e
            · exact dis_T (j := 0) C24 hT hi (Or.inl rfl) e
            · exact dis_T (C := 24) (j := 15) C24 hT hi (by omega) e) CT
          have CN1 : CNd (65 + 5 * w) B c lev (VI I w q) (flI I w) J1 := CNd_P o1 (fun i hi k e => by unfold atJ at e; omega) (fun e => by unfold atJ at e; omega) CN
          have SJ1 := SIT_J o1 SJ
          have vd4 : ∀ i, (VI I w q 4).testBit i = true → (VI I w q 6).testBit i = false := fun i h => VI_4 W h
          generalize hjO : jO c (stdI I) (rstI I) (I 277) (winL L T) (VI I w q) (flI I w) lev ap b0 b1 = jo at *
          have hO : jo = 0 ∨ jo = 1 ∨ jo = 2 ∨ jo = 3 := by rw [← hjO]; exact outE_4
          have lS := jS_lt (c := c) (std := stdI I) (rst := rstI I) (br := I 277) (win := winL L T) (V := VI I w q) (fl := flI I w) (lev := lev) (ap := ap) q0 q1
          have lP := jP_lt (c := c) (std := stdI I) (rst := rstI I) (br := I 277) (win := winL L T) (V := VI I w q) (fl := flI I w) (lev := lev) (ap := ap) (b0 := b0) (b1 := b1) (vlt 6)
          have lT := jT_lt (c := c) (std := stdI I) (rst := rstI I) (br := I 277) (win := winL L T) (V := VI I w q) (fl := flI I w) (lev := lev) (ap := ap) (b0 := b0) (b1 := b1)
          have pV6 := fun i => jP_V6 (c := c) (std := stdI I) (rst := rstI I) (br := I 277) (win := winL L T) (V := VI I w q) (fl := flI I w) (lev := lev) (ap := ap) (b0 := b0) (b1 := b1) (i := i)
          have tP := fun i => jT_jP (c := c) (std := stdI I) (rst := rstI I) (br := I 277) (win := winL L T) (V := VI I w q) (fl := flI I w) (lev := lev) (ap := ap) (b0 := b0) (b1 := b1) (i := i) hc8 (vlt 6)
          have zE := jZ_eq (c := c) (std := stdI I) (rst := rstI I) (br := I 277) (win := winL L T) (V := VI I w q) (fl := flI I w) (lev := lev) (ap := ap) (b0 := b0) (b1 := b1) hc8 (vlt 4) vd4
          have stE : (jo = 0 ∨ jo = 1) → jP c (stdI I) (rstI I) (I 277) (winL L T) (VI I w q) (flI I w) lev ap b0 b1 = VI I w q 6 := by
            intro h
            unfold jP
            rw [hjO, if_pos h]
          have nA0 : isN (65 + 5 * N) := isN_nd hN
          obtain ⟨Kc, MK, o2, k0, k1, k2, k3, k4, k5, k6, k7, k8, k9, k10, k11, kb0, kb1, kk, kff⟩ := c114 (d := 0) (n := n) (nc := nc) (ns := ns) (nx := nx) (A := 65 + 5 * N) (ah := Int32.ofNat w) (num := Int32.ofNat N) hR2 C24 CT1 CN1 SJ1 a2 hl nA0 (by omega) z8 z9 z11 z12 zb0 zb1 (by omega) (by omega) (by omega) (fun i h => tb_lt lT h) (fun i h => by
            cases e : (VI I w q 6).testBit i with
            | false => rfl
            | true => have := tP i h; rw [pV6 i e] at this; cases this) pV6
          have MK' := fun d => cf_le MK (show 2 ≤ d + 12 by omega)
          have kc : ∀ a k, a < 24 ∨ 265 ≤ a → Kc a k = I a k := by
            intro a k h
            rw [o2 a k (fun e => by unfold inN at e; omega), o1 a k (fun e => by unfold atJ at e; omega)]
            exact oC a k (by unfold scC; omega)
          have kc6 : Kc 2 6 = Int32.ofNat N := (kc 2 6 (by omega)).trans y1
          generalize hI1 : ip_up (ip_up Kc 2 7 (Int32.ofNat N)) 2 6 (Int32.ofNat (N + 1)) = I1
          have i1 : ∀ a k, ¬ a = 2 → I1 a k = Kc a k := by intro a k h; rw [← hI1, up_a h, up_a h]
          have TN := fun d => c118 (d := d) (n := n) (I := Kc) (L := L) (R := sitR R 24 T (65 + 5 * w) B) (nc := nc) (ns := ns) (nx := true)
          simp only [kc6, nu_1, hI1] at TN
          have ag : ∀ a k, 265 ≤ a → ¬ (a = 265 ∧ k = 0) → I1 a k = I a k := fun a k h _ => (i1 a k (by omega)).trans (kc a k (by omega))
          obtain ⟨MT, MN, LA⟩ := MO I1 (ip_up L 307 0 (Int32.ofNat N).toInt64) (sitR R 24 T (65 + 5 * w) B) nc ns true hR2 ag
          generalize hK0 : lyI I1 lev ap (heardN c (stdI I) (rstI I) (I 277) (winL L T) (VI I w q) (flI I w) lev 0) (heardN c (stdI I) (rstI I) (I 277) (winL L T) (VI I w q) (flI I w) lev 1) 0 = K0
          have oK0 : onlyM scr I1 K0 := by rw [← hK0]; exact ly_on
          have Z0 : MSIT c (stdI I) (rstI I) (I 277) (winL L T) (VI I w q) (flI I w) lev ap K0 := by rw [← hK0]; exact ly_sit
          have e37 : K0 265 37 = Int32.ofNat N := (onlyM_get oK0 (by unfold scr; omega)).trans ((ag 265 37 (by omega) (by omega)).trans y2)
          have e00 : K0 265 0 = 0 := by rw [← hK0]; exact ly_0
          obtain ⟨K, E, oK, m37, m38, m0, m1, m2, m3, m6, m7, m8, m4, m9, m10, m99, mb0, mb1, mk, mf⟩ := l230 (d := 5) (n := n) (L := ip_up L 307 0 (Int32.ofNat N).toInt64) (nc := nc) (ns := ns) (nx := true) hR2 (MTx_on oK0 MT) (MNd_on oK0 MN) hl Z0 a2 e37 hN n3 (show b0 < 256 by omega) (show b1 < 256 by omega)
          rw [hjO] at m2 mf
          have low : ∀ a k, a < 265 → K a k = I1 a k := by
            intro a k h
            rw [oK a k (fun e => by unfold atQ at e; omega)]
            exact onlyM_a oK0 (by omega)
          have hi : ∀ a k, 265 < a → ¬ atQ N a k → K a k = I a k := by
            intro a k h hn
            rw [oK a k (fun e => e.elim (fun e => by omega) hn), onlyM_a oK0 (by omega)]
            exact ag a k (by omega) (by omega)
          have h65 : ∀ k, ¬ scr k → ¬ k = 37 → ¬ k = 38 → K 265 k = I 265 k := by
            intro k h1 h2 h3
            rw [oK 265 k (fun e => by
              rcases e with ⟨-, e⟩ | e
              · rcases e with e | e | e
                · exact h1 (f5_scr e)
                · exact h2 e
                · exact h3 e
              · unfold atQ at e; omega), onlyM_get oK0 h1]
            exact ag 265 k (by omega) (fun e => h1 (Or.inl e.2))
          have nodes : ∀ a j, 65 ≤ a → a < 65 + 5 * N → K a j = I a j := by
            intro a j h1 h2
            rw [low a j (by omega), i1 a j (by omega), o2 a j (fun e => by unfold inN at e; omega), o1 a j (fun e => by unfold atJ at e; omega)]
            exact oC a j (by unfold scC; omega)
          have KA : ∀ i j, i ≤ 4 → K (65 + 5 * N + i) j = Kc (65 + 5 * N + i) j := fun i j h => (low _ j (by omega)).trans (i1 _ j (by omega))
          have KA0 : ∀ j, K (65 + 5 * N) j = Kc (65 + 5 * N) j := fun j => KA 0 j (by omega)
          have J1F : ∀ i j, i ≤ 4 → J1 (65 + 5 * w + i) j = I (65 + 5 * w + i) j := fun i j h => (o1 _ j (fun e => by unfold atJ at e; omega)).trans (oC _ j (by unfold scC; omega))
          have Kw : ∀ i, i < N → K 289 i = I 289 i := fun i h => hi 289 i (by omega) (by unfold atQ; omega)
          have NEW : ND c N K := by
            refine ND_app hc8 hN n3 hl a2 q0 q1 W QQ hO lS lT lP (by rw [zE]; exact Nat.lt_of_le_of_lt Nat.and_le_left (Nat.xor_lt_two_pow (vlt 4) lT)) zE pV6 tP (jo = 0 ∨ jo = 1) stE (lost_eq hc8 a2 (vlt 4) (vlt 5) (fun i hi => VI_5 hc8 W hi) vd4) (lost_2c (lev := lev) (ap := ap) (vlt 4) (vlt 5)) ((KA0 0).trans k0) ((KA0 1).trans k1) ((KA0 2).trans k2) ((KA0 3).trans k3) ((KA0 4).trans k4) ((KA0 5).trans k5) ((KA0 6).trans k6) ((KA0 7).trans k7) ((KA0 8).trans k8) ((KA0 9).trans k9) ((KA0 10).trans k10) ((KA0 11).trans (k11.trans (J1F 0 11 (by omega)))) ((KA 1 0 (by omega)).trans kb0) ((KA 1 1 (by omega)).trans kb1) (fun s hs => (KA 2 s (by omega)).trans (kk s hs)) (fun i hi' => ?_) m0 m1 m2 m3 m6 m7 m8 m4 m9 m10 m99 mb0 mb1 mk (fun k hk => ?_) (nodes _ 11 (by omega) (by omega)) Kw
            · rw [KA 3 i (by omega), KA 4 i (by omega), (kff i hi').1, (kff i hi').2, J1F 3 i (by omega), J1F 4 i (by omega)]
              exact ⟨rfl, rfl⟩
            · have r : ∀ a, 265 < a → K0 a (8 * w + k) = I a (8 * w + k) := fun a h => (onlyM_a oK0 (by omega)).trans (ag a _ (by omega) (by omega))
              have := mf k hk
              rw [r 302 (by omega), r 303 (by omega), r 304 (by omega)] at this
              exact this
          have FIN : onlyP (fun a k => scC a k ∨ inN (65 + 5 * N) a ∨ (a = 2 ∧ (k = 6 ∨ k = 7)) ∨ (a = 265 ∧ (scr k ∨ k = 37 ∨ k = 38)) ∨ atQ N a k) I K := by
            intro a k h
            by_cases h1 : a < 265
            · rw [low a k h1]
              by_cases h2 : a = 2
              · subst h2
                rw [← hI1, up_k (fun e => h (by omega)), up_k (fun e => h (by omega))]
                exact kc 2 k (by omega)
              · rw [i1 a k h2, o2 a k (fun e => h (Or.inr (Or.inl e))), o1 a k (fun e => h (Or.inl (by unfold atJ at e; unfold scC; omega)))]
                exact oC a k (fun e => h (Or.inl e))
            · by_cases h2 : a = 265
              · subst h2
                exact h65 k (fun e => h (Or.inr (Or.inr (Or.inr (Or.inl ⟨rfl, Or.inl e⟩))))) (fun e => h (Or.inr (Or.inr (Or.inr (Or.inl ⟨rfl, by omega⟩))))) (fun e => h (Or.inr (Or.inr (Or.inr (Or.inl ⟨rfl, by omega⟩)))))
              · exact hi a k (by omega) (fun e => h (Or.inr (Or.inr (Or.inr (Or.inr e)))))
          have FN : ∀ a k, ¬ (scC a k ∨ inN (65 + 5 * N) a ∨ (a = 2 ∧ (k = 6 ∨ k = 7)) ∨ (a = 265 ∧ (scr k ∨ k = 37 ∨ k = 38)) ∨ atQ N a k) → K a k = I a k := FIN
          refine ⟨0, Int32.ofNat N, I1, K, ip_up L 307 0 (Int32.ofNat N).toInt64, ip_up L 307 0 (Int32.ofNat N).toInt64, sitR R 24 T (65 + 5 * w) B, nc, ns, true, T, c, N + 1, N, t, p, fun d => ?_, fun d => ?_, ?_, fun _ => by rw [up_eq], ?_, by omega, by omega, fun i => FN 0 i (by unfold scC inN scr atQ; omega)⟩
          · refine w96 (d := d + 13) ?_
            have bN := (nu_inb (t := N) (k := 40) (by omega)).mpr hN
            have eN := nd_of (k := N) (by omega)
            have j16 : J1 2 6 = Int32.ofNat N := (o1 2 6 (fun e => by unfold atJ at e; omega)).trans j26
            have j17 : J1 2 7 = Int32.ofNat w := (o1 2 7 (fun e => by unfold atJ at e; omega)).trans j27
            simp only [en97, e97_0, e97_1, e97_2, e97_5, e97_6, e97_7, e97_10, e97_11, e97_14, e97_15, e97_18, e97_19, e97_22, e97_23, e97_24, e97_27, e97_28, e97_31, e97_32, e97_35, e97_36, e97_39, e97_40, e97_41, e97_44, e97_45, e97_48, e97_51, e97_52, e97_55, rk_n, rk_v, nl_n, nl_i, nl_r, cat_n, ip_cat_int, ip_cat_ref, ip_cat_long, ip_rf_some, Nat.reduceAdd, Nat.reduceLeDiff, Nat.reduceLT, Nat.le_refl, Nat.zero_le, hR2, C1, C2, A1, RM, C24, JU', j16, j17, bN, eN, nA0, MK', TN, Bool.false_eq_true, Bool.true_eq_false, if_true, if_false, not_true_eq_false, not_false_eq_true, zle, eq_self]
          · refine cf_le (d := 8) ?_ (by omega)
            have k17 : I1 265 17 = I 265 17 := ag 265 17 (by omega) (by omega)
            have f : ip_up (layI I1 lev ap (heardN c (stdI I) (rstI I) (I 277) (winL L T) (VI I w q) (flI I w) lev 0) (heardN c (stdI I) (rstI I) (I 277) (winL L T) (VI I w q) (flI I w) lev 1)) 265 0 0 = K0 := hK0
            have e40 : (Int32.ofNat N = 40) = False := (nu_eq (k := 40) (by omega) (by omega)).trans (eq_false (by omega))
            have i37 : I1 265 37 = Int32.ofNat N := (ag 265 37 (by omega) (by omega)).trans y2
            rw [en230]
            simp only [e230_0, e230_1, e230_2, e230_3, e230_6, e230_9, e230_10, e230_11, e230_14, e230_21, e230_22, e230_25, e230_28, e230_29, e230_32, e230_34, e230_41, e230_42, e230_45, e230_46, e230_49, rk_n, rk_v, nl_n, nl_i, nl_r, cat_n, ip_cat_int, ip_cat_ref, ip_cat_long, ip_rf_some, Nat.reduceAdd, Nat.reduceLeDiff, Nat.reduceLT, Nat.le_refl, Nat.zero_le, M1 _ _ _ _ _ _ _ _ k17, M2 _ _ _ _ _ _ _ _ k17, LA, ly37, i37, e40, f, e00, Bool.false_eq_true, Bool.true_eq_false, if_true, if_false, not_true_eq_false, not_false_eq_true, zle, eq_self]
            exact E
          · rw [oK 265 0 (fun e => by unfold f5 atQ at e; omega)]; exact e00
          · have Lk : ∀ a k, ¬ a = 307 → ip_up L 307 0 (Int32.ofNat N).toInt64 a k = L a k := L307
            obtain ⟨x1', x2', x3', x4', x5', x6', x7'⟩ := X0
            have tt := x2'.1
            refine ⟨hR2, RTx_P x2' FIN (fun a k h e => by unfold scC inN scr atQ at e; omega) (fun a k h => Lk a k (by omega)) (by rw [sit_R 2 4 (by unfold isC; omega)]) (by rw [sit_R 4 2 (by unfold isC; omega)]), ⟨⟨by omega, by omega, by omega⟩, ⟨?_, m37⟩, ⟨?_, m38⟩, ?_⟩, RTa_P x4' FIN (fun a k h e => by unfold scC inN scr atQ at e; omega), RPa_P x5' FIN (fun a k h e => by unfold scC inN scr atQ at e; omega), ?_, fun k hk => by rw [Lk 1 k (by omega)]; exact x7' k hk⟩
            · rw [low 2 6 (by omega), ← hI1, up_eq]
            · rw [low 2 7 (by omega), ← hI1, up_k (by decide), up_eq]
            · intro k hk
              by_cases e : k = N
              · subst e; exact NEW
              · exact ND_old hc8 (by omega) (show k < N by omega) (y5 k (by omega)) nodes (fun a j h1 h2 h3 => hi a j (by omega) (by unfold atQ; omega)) (fun a j h1 h2 => hi a j (by omega) (by unfold atQ; omega)) (fun a j h1 h2 => hi a j (by omega) (by unfold atQ; omega))
            · rw [FN 2 2 (by unfold scC inN scr atQ; omega), FN 265 5 (by unfold scC inN scr atQ; omega)]; exact x6'
        · have n40 : N = 40 := by omega
          have RM := fun d => x107 (d := d) (n := n) (I := J) (L := L) (R := sitR R 24 T (65 + 5 * w) B) (nc := nc) (ns := ns) (nx := nx) (by rw [j26, n40]; decide)
          obtain ⟨MT, MN, LA⟩ := MO J L (sitR R 24 T (65 + 5 * w) B) (nc + 1) (ns + 6) true hR2 (J265 oC)
          have k17 : J 265 17 = I 265 17 := oC 265 17 (by unfold scC; omega)
          have i37 : J 265 37 = Int32.ofNat 40 := (oC 265 37 (by unfold scC; omega)).trans (by rw [y2, n40])
          refine same_x (I1 := J) (I2 := lyI J lev ap (heardN c (stdI I) (rstI I) (I 277) (winL L T) (VI I w q) (flI I w) lev 0) (heardN c (stdI I) (rstI I) (I 277) (winL L T) (VI I w q) (flI I w) lev 1) 2) (u := 0) (R1 := sitR R 24 T (65 + 5 * w) B) (code := 2) X0 (by decide) (fun d => ?_) oC sit_R (fun d => ?_) (on_scM ly_on) ly_0
          · refine w96x2 (d := d + 13) ?_
            simp only [en97, e97_0, e97_1, e97_2, e97_5, e97_6, e97_7, e97_10, e97_11, e97_14, e97_15, e97_18, e97_19, e97_22, e97_23, e97_24, e97_27, e97_28, e97_31, e97_32, e97_35, e97_36, e97_39, e97_40, e97_41, e97_44, e97_45, e97_48, e97_51, e97_52, e97_55, rk_n, rk_v, nl_n, nl_i, nl_r, cat_n, ip_cat_int, ip_cat_ref, ip_cat_long, ip_rf_some, Nat.reduceAdd, Nat.reduceLeDiff, Nat.reduceLT, Nat.le_refl, Nat.zero_le, C1, C2, A1, RM, rk_x hh97, Bool.false_eq_true, Bool.true_eq_false, if_true, if_false, not_true_eq_false, not_false_eq_true, zle, eq_self]
            rfl
          · have f : ip_up (layI J lev ap (heardN c (stdI I) (rstI I) (I 277) (winL L T) (VI I w q) (flI I w) lev 0) (heardN c (stdI I) (rstI I) (I 277) (winL L T) (VI I w q) (flI I w) lev 1)) 265 0 2 = lyI J lev ap (heardN c (stdI I) (rstI I) (I 277) (winL L T) (VI I w q) (flI I w) lev 0) (heardN c (stdI I) (rstI I) (I 277) (winL L T) (VI I w q) (flI I w) lev 1) 2 := rfl
            have e40 : (Int32.ofNat 40 = 40) = True := eq_true rfl
            simp only [en230, e230_0, e230_1, e230_2, e230_3, e230_6, e230_9, e230_10, e230_11, e230_14, e230_17, e230_18, e230_21, e230_22, e230_25, e230_28, e230_29, e230_32, e230_34, e230_37, e230_38, e230_41, e230_42, e230_45, e230_46, e230_49, e230_52, e230_53, e230_54, e230_55, e230_56, e230_57, e230_60, e230_61, e230_62, e230_63, e230_66, e230_67, e230_70, e230_71, e230_72, e230_75, e230_77, e230_78, e230_80, e230_81, e230_84, e230_87, e230_88, e230_91, e230_93, e230_94, e230_95, e230_96, e230_99, e230_101, e230_102, e230_105, e230_106, e230_107, e230_110, e230_111, e230_113, e230_114, e230_115, e230_116, e230_117, e230_120, e230_121, e230_123, e230_124, e230_125, e230_126, e230_127, e230_128, e230_129, e230_130, e230_133, e230_134, e230_138, e230_139, e230_142, e230_145, e230_146, e230_149, e230_151, e230_154, e230_157, e230_158, e230_160, e230_162, e230_165, e230_166, e230_169, e230_171, e230_174, e230_177, e230_180, e230_181, e230_184, e230_186, e230_188, e230_189, e230_191, e230_192, e230_194, e230_195, e230_198, e230_200, e230_202, e230_203, e230_205, e230_206, e230_207, e230_208, e230_209, e230_210, e230_213, e230_215, e230_217, e230_218, e230_220, e230_221, e230_222, e230_225, e230_226, e230_227, e230_230, e230_232, e230_234, e230_235, e230_237, e230_238, e230_240, e230_241, e230_244, e230_247, e230_248, e230_251, e230_253, e230_254, e230_257, e230_258, e230_259, e230_262, e230_264, e230_265, e230_268, e230_269, e230_270, e230_273, e230_275, e230_276, e230_279, e230_280, e230_281, e230_284, e230_285, e230_288, e230_289, e230_290, e230_293, e230_294, e230_295, e230_298, e230_299, e230_302, e230_303, e230_304, e230_307, e230_310, e230_313, e230_314, e230_315, e230_317, e230_318, e230_321, e230_323, e230_325, e230_326, e230_329, e230_331, e230_332, e230_333, e230_334, e230_335, e230_336, e230_337, e230_340, e230_342, e230_343, e230_344, e230_345, e230_348, e230_349, e230_350, e230_351, e230_352, e230_353, e230_357, e230_358, e230_361, e230_362, e230_365, e230_366, e230_368, e230_369, e230_371, e230_372, e230_373, e230_374, e230_375, e230_378, e230_380, e230_381, e230_382, e230_385, e230_387, e230_388, e230_389, e230_390, e230_391, e230_392, e230_393, e230_396, e230_399, e230_400, e230_403, e230_405, e230_406, e230_409, e230_411, e230_412, e230_413, e230_414, e230_414r, e230_415, e230_418, e230_419, e230_420, e230_423, e230_424, e230_426, e230_429, e230_431, rk_n, rk_v, nl_n, nl_i, nl_r, cat_n, ip_cat_int, ip_cat_ref, ip_cat_long, ip_rf_some, Nat.reduceAdd, Nat.reduceLeDiff, Nat.reduceLT, Nat.le_refl, Nat.zero_le, M1 _ _ _ _ _ _ _ _ k17, M2 _ _ _ _ _ _ _ _ k17, LA, ly37, i37, e40, f, ly_0, Bool.false_eq_true, Bool.true_eq_false, if_true, if_false, not_true_eq_false, not_false_eq_true, zle, eq_self]
      · have LA := MO I L (sitR R 24 T (65 + 5 * w) B) (nc + 1) (ns + 6) true hR2 (fun _ _ _ _ => rfl)
        refine same_x (I1 := I) (I2 := ip_up (ip_up I 265 58 (-1)) 265 0 2) (u := 0) (R1 := sitR R 24 T (65 + 5 * w) B) (code := 2) X0 (by decide) (fun d => ?_) onlyP_refl sit_R (fun d => ?_) (on_scM (on_0 (onlyM_up onlyM_refl (by unfold scr; omega)))) up_eq
        · refine w96x2 (d := d + 13) ?_
          simp only [en97, e97_0, e97_1, e97_2, e97_5, e97_6, e97_7, e97_10, e97_11, e97_14, e97_15, e97_18, e97_19, e97_22, e97_23, e97_24, e97_27, e97_28, e97_31, e97_32, e97_35, e97_36, e97_39, e97_40, e97_41, e97_44, e97_45, e97_48, e97_51, e97_52, e97_55, rk_n, rk_v, nl_n, nl_i, nl_r, cat_n, ip_cat_int, ip_cat_ref, ip_cat_long, ip_rf_some, Nat.reduceAdd, Nat.reduceLeDiff, Nat.reduceLT, Nat.le_refl, Nat.zero_le, C1, C2, A1, rk_x hh97, Bool.false_eq_true, Bool.true_eq_false, if_true, if_false, not_true_eq_false, not_false_eq_true, zle, eq_self]
          rfl
        · simp only [en230, e230_0, e230_1, e230_2, e230_3, e230_6, e230_9, e230_10, e230_11, e230_14, e230_17, e230_18, e230_21, e230_22, e230_25, e230_28, e230_29, e230_32, e230_34, e230_37, e230_38, e230_41, e230_42, e230_45, e230_46, e230_49, e230_52, e230_53, e230_54, e230_55, e230_56, e230_57, e230_60, e230_61, e230_62, e230_63, e230_66, e230_67, e230_70, e230_71, e230_72, e230_75, e230_77, e230_78, e230_80, e230_81, e230_84, e230_87, e230_88, e230_91, e230_93, e230_94, e230_95, e230_96, e230_99, e230_101, e230_102, e230_105, e230_106, e230_107, e230_110, e230_111, e230_113, e230_114, e230_115, e230_116, e230_117, e230_120, e230_121, e230_123, e230_124, e230_125, e230_126, e230_127, e230_128, e230_129, e230_130, e230_133, e230_134, e230_138, e230_139, e230_142, e230_145, e230_146, e230_149, e230_151, e230_154, e230_157, e230_158, e230_160, e230_162, e230_165, e230_166, e230_169, e230_171, e230_174, e230_177, e230_180, e230_181, e230_184, e230_186, e230_188, e230_189, e230_191, e230_192, e230_194, e230_195, e230_198, e230_200, e230_202, e230_203, e230_205, e230_206, e230_207, e230_208, e230_209, e230_210, e230_213, e230_215, e230_217, e230_218, e230_220, e230_221, e230_222, e230_225, e230_226, e230_227, e230_230, e230_232, e230_234, e230_235, e230_237, e230_238, e230_240, e230_241, e230_244, e230_247, e230_248, e230_251, e230_253, e230_254, e230_257, e230_258, e230_259, e230_262, e230_264, e230_265, e230_268, e230_269, e230_270, e230_273, e230_275, e230_276, e230_279, e230_280, e230_281, e230_284, e230_285, e230_288, e230_289, e230_290, e230_293, e230_294, e230_295, e230_298, e230_299, e230_302, e230_303, e230_304, e230_307, e230_310, e230_313, e230_314, e230_315, e230_317, e230_318, e230_321, e230_323, e230_325, e230_326, e230_329, e230_331, e230_332, e230_333, e230_334, e230_335, e230_336, e230_337, e230_340, e230_342, e230_343, e230_344, e230_345, e230_348, e230_349, e230_350, e230_351, e230_352, e230_353, e230_357, e230_358, e230_361, e230_362, e230_365, e230_366, e230_368, e230_369, e230_371, e230_372, e230_373, e230_374, e230_375, e230_378, e230_380, e230_381, e230_382, e230_385, e230_387, e230_388, e230_389, e230_390, e230_391, e230_392, e230_393, e230_396, e230_399, e230_400, e230_403, e230_405, e230_406, e230_409, e230_411, e230_412, e230_413, e230_414, e230_414r, e230_415, e230_418, e230_419, e230_420, e230_423, e230_424, e230_426, e230_429, e230_431, rk_n, rk_v, nl_n, nl_i, nl_r, cat_n, ip_cat_int, ip_cat_ref, ip_cat_long, ip_rf_some, Nat.reduceAdd, Nat.reduceLeDiff, Nat.reduceLT, Nat.le_refl, Nat.zero_le, M1 _ _ _ _ _ _ _ _ rfl, M2 _ _ _ _ _ _ _ _ rfl, LA, up_eq, Bool.false_eq_true, Bool.true_eq_false, if_true, if_false, not_true_eq_false, not_false_eq_true, zle, eq_self]
    · refine same_x (I1 := I) (I2 := ip_up I 265 0 1) (u := 0) (R1 := R) (code := 1) X0 (by decide) (fun d => ?_) onlyP_refl (fun _ _ _ => rfl) (fun d => ?_) scM_0 up_eq
      · refine w96x1 (d := d + 13) ?_
        simp only [en97, e97_0, e97_1, e97_2, e97_5, e97_6, e97_7, e97_10, e97_11, e97_14, e97_15, e97_18, e97_19, e97_22, e97_23, e97_24, e97_27, e97_28, e97_31, e97_32, e97_35, e97_36, e97_39, e97_40, e97_41, e97_44, e97_45, e97_48, e97_51, e97_52, e97_55, rk_n, rk_v, nl_n, nl_i, nl_r, cat_n, ip_cat_int, ip_cat_ref, ip_cat_long, ip_rf_some, Nat.reduceAdd, Nat.reduceLeDiff, Nat.reduceLT, Nat.le_refl, Nat.zero_le, C1, C2, rk_x hh97, Bool.false_eq_true, Bool.true_eq_false, if_true, if_false, not_true_eq_false, not_false_eq_true, zle, eq_self]
        rfl
      · simp only [en230, e230_0, e230_1, e230_2, e230_3, e230_6, e230_9, e230_10, e230_11, e230_14, e230_17, e230_18, e230_21, e230_22, e230_25, e230_28, e230_29, e230_32, e230_34, e230_37, e230_38, e230_41, e230_42, e230_45, e230_46, e230_49, e230_52, e230_53, e230_54, e230_55, e230_56, e230_57, e230_60, e230_61, e230_62, e230_63, e230_66, e230_67, e230_70, e230_71, e230_72, e230_75, e230_77, e230_78, e230_80, e230_81, e230_84, e230_87, e230_88, e230_91, e230_93, e230_94, e230_95, e230_96, e230_99, e230_101, e230_102, e230_105, e230_106, e230_107, e230_110, e230_111, e230_113, e230_114, e230_115, e230_116, e230_117, e230_120, e230_121, e230_123, e230_124, e230_125, e230_126, e230_127, e230_128, e230_129, e230_130, e230_133, e230_134, e230_138, e230_139, e230_142, e230_145, e230_146, e230_149, e230_151, e230_154, e230_157, e230_158, e230_160, e230_162, e230_165, e230_166, e230_169, e230_171, e230_174, e230_177, e230_180, e230_181, e230_184, e230_186, e230_188, e230_189, e230_191, e230_192, e230_194, e230_195, e230_198, e230_200, e230_202, e230_203, e230_205, e230_206, e230_207, e230_208, e230_209, e230_210, e230_213, e230_215, e230_217, e230_218, e230_220, e230_221, e230_222, e230_225, e230_226, e230_227, e230_230, e230_232, e230_234, e230_235, e230_237, e230_238, e230_240, e230_241, e230_244, e230_247, e230_248, e230_251, e230_253, e230_254, e230_257, e230_258, e230_259, e230_262, e230_264, e230_265, e230_268, e230_269, e230_270, e230_273, e230_275, e230_276, e230_279, e230_280, e230_281, e230_284, e230_285, e230_288, e230_289, e230_290, e230_293, e230_294, e230_295, e230_298, e230_299, e230_302, e230_303, e230_304, e230_307, e230_310, e230_313, e230_314, e230_315, e230_317, e230_318, e230_321, e230_323, e230_325, e230_326, e230_329, e230_331, e230_332, e230_333, e230_334, e230_335, e230_336, e230_337, e230_340, e230_342, e230_343, e230_344, e230_345, e230_348, e230_349, e230_350, e230_351, e230_352, e230_353, e230_357, e230_358, e230_361, e230_362, e230_365, e230_366, e230_368, e230_369, e230_371, e230_372, e230_373, e230_374, e230_375, e230_378, e230_380, e230_381, e230_382, e230_385, e230_387, e230_388, e230_389, e230_390, e230_391, e230_392, e230_393, e230_396, e230_399, e230_400, e230_403, e230_405, e230_406, e230_409, e230_411, e230_412, e230_413, e230_414, e230_414r, e230_415, e230_418, e230_419, e230_420, e230_423, e230_424, e230_426, e230_429, e230_431, rk_n, rk_v, nl_n, nl_i, nl_r, cat_n, ip_cat_int, ip_cat_ref, ip_cat_long, ip_rf_some, Nat.reduceAdd, Nat.reduceLeDiff, Nat.reduceLT, Nat.le_refl, Nat.zero_le, M1 _ _ _ _ _ _ _ _ rfl, M2 _ _ _ _ _ _ _ _ rfl, up_eq, Bool.false_eq_true, Bool.true_eq_false, if_true, if_false, not_true_eq_false, not_false_eq_true, zle, eq_self]
  · refine same_x (I1 := I) (I2 := ip_up I 265 0 1) (u := 0) (R1 := R) (code := 1) X0 (by decide) (fun d => ?_) onlyP_refl (fun _ _ _ => rfl) (fun d => ?_) scM_0 up_eq
    · refine w96x1 (d := d + 13) ?_
      simp only [en97, e97_0, e97_1, e97_2, e97_5, e97_6, e97_7, e97_10, e97_11, e97_14, e97_15, e97_18, e97_19, e97_22, e97_23, e97_24, e97_27, e97_28, e97_31, e97_32, e97_35, e97_36, e97_39, e97_40, e97_41, e97_44, e97_45, e97_48, e97_51, e97_52, e97_55, rk_n, rk_v, nl_n, nl_i, nl_r, cat_n, ip_cat_int, ip_cat_ref, ip_cat_long, ip_rf_some, Nat.reduceAdd, Nat.reduceLeDiff, Nat.reduceLT, Nat.le_refl, Nat.zero_le, C1, rk_x hh97, Bool.false_eq_true, Bool.true_eq_false, if_true, if_false, not_true_eq_false, not_false_eq_true, zle, eq_self]
      rfl
    · simp only [en230, e230_0, e230_1, e230_2, e230_3, e230_6, e230_9, e230_10, e230_11, e230_14, e230_17, e230_18, e230_21, e230_22, e230_25, e230_28, e230_29, e230_32, e230_34, e230_37, e230_38, e230_41, e230_42, e230_45, e230_46, e230_49, e230_52, e230_53, e230_54, e230_55, e230_56, e230_57, e230_60, e230_61, e230_62, e230_63, e230_66, e230_67, e230_70, e230_71, e230_72, e230_75, e230_77, e230_78, e230_80, e230_81, e230_84, e230_87, e230_88, e230_91, e230_93, e230_94, e230_95, e230_96, e230_99, e230_101, e230_102, e230_105, e230_106, e230_107, e230_110, e230_111, e230_113, e230_114, e230_115, e230_116, e230_117, e230_120, e230_121, e230_123, e230_124, e230_125, e230_126, e230_127, e230_128, e230_129, e230_130, e230_133, e230_134, e230_138, e230_139, e230_142, e230_145, e230_146, e230_149, e230_151, e230_154, e230_157, e230_158, e230_160, e230_162, e230_165, e230_166, e230_169, e230_171, e230_174, e230_177, e230_180, e230_181, e230_184, e230_186, e230_188, e230_189, e230_191, e230_192, e230_194, e230_195, e230_198, e230_200, e230_202, e230_203, e230_205, e230_206, e230_207, e230_208, e230_209, e230_210, e230_213, e230_215, e230_217, e230_218, e230_220, e230_221, e230_222, e230_225, e230_226, e230_227, e230_230, e230_232, e230_234, e230_235, e230_237, e230_238, e230_240, e230_241, e230_244, e230_247, e230_248, e230_251, e230_253, e230_254, e230_257, e230_258, e230_259, e230_262, e230_264, e230_265, e230_268, e230_269, e230_270, e230_273, e230_275, e230_276, e230_279, e230_280, e230_281, e230_284, e230_285, e230_288, e230_289, e230_290, e230_293, e230_294, e230_295, e230_298, e230_299, e230_302, e230_303, e230_304, e230_307, e230_310, e230_313, e230_314, e230_315, e230_317, e230_318, e230_321, e230_323, e230_325, e230_326, e230_329, e230_331, e230_332, e230_333, e230_334, e230_335, e230_336, e230_337, e230_340, e230_342, e230_343, e230_344, e230_345, e230_348, e230_349, e230_350, e230_351, e230_352, e230_353, e230_357, e230_358, e230_361, e230_362, e230_365, e230_366, e230_368, e230_369, e230_371, e230_372, e230_373, e230_374, e230_375, e230_378, e230_380, e230_381, e230_382, e230_385, e230_387, e230_388, e230_389, e230_390, e230_391, e230_392, e230_393, e230_396, e230_399, e230_400, e230_403, e230_405, e230_406, e230_409, e230_411, e230_412, e230_413, e230_414, e230_414r, e230_415, e230_418, e230_419, e230_420, e230_423, e230_424, e230_426, e230_429, e230_431, rk_n, rk_v, nl_n, nl_i, nl_r, cat_n, ip_cat_int, ip_cat_ref, ip_cat_long, ip_rf_some, Nat.reduceAdd, Nat.reduceLeDiff, Nat.reduceLT, Nat.le_refl, Nat.zero_le, M1 _ _ _ _ _ _ _ _ rfl, up_eq, Bool.false_eq_true, Bool.true_eq_false, if_true, if_false, not_true_eq_false, not_false_eq_true, zle, eq_self]
end S6
