/-! CHAIN: the model's loops -/
section CN
variable {n d a b T c s t z o w m p lev k side ap b0 b1 h0 h1 md C F B pg po u hi f0 gg mm ff oo hh : Nat} {I J K M : Nat → Nat → Int32} {L : Nat → Nat → Int64} {R : Nat → Nat → Option Nat} {nc ns : Nat} {nx : Bool} {x y j v lv hw0 what ah num hw came beh : Int32} {h : ip_H} {f g std rst V W : Nat → Nat} {win : Nat → Bool} {br fl : Nat → Int32}
def f9 (k : Nat) : Prop := f5 k ∨ (65 ≤ k ∧ k ≤ 68)
theorem f9_scr {k : Nat} (h : f9 k) : scr k := by unfold f9 f5 at h; unfold scr; omega
theorem MSIT_9 (H : onlyM f9 I J) (X : MSIT c std rst br win V fl lev ap I) : MSIT c std rst br win V fl lev ap J := by
  obtain ⟨h1, h2, h3, h4⟩ := X
  refine ⟨?_, ?_, ?_, ?_⟩
  · rw [onlyM_get H (by unfold f9 f5; omega)]; exact h1
  · rw [onlyM_get H (by unfold f9 f5; omega)]; exact h2
  · rw [onlyM_get H (by unfold f9 f5; omega)]; exact h3
  · rw [onlyM_get H (by unfold f9 f5; omega)]; exact h4
/-- the best chain of those seen -/
def MINI (c : Nat) (std rst : Nat → Nat) (br : Nat → Int32) (win : Nat → Bool) (V : Nat → Nat) (fl : Nat → Int32) (lev ap pg : Nat) (PR : Nat → Nat → Prop) (J : Nat → Nat → Int32) : Prop :=
  (J 265 65 = -1 ∧ ∀ g m f o, PR f o → ¬ CAND c std rst br win V fl lev ap pg g m f o) ∨ (∃ g m f o, CAND c std rst br win V fl lev ap pg g m f o ∧ J 265 65 = Int32.ofNat g ∧ J 265 66 = Int32.ofNat m ∧ J 265 67 = Int32.ofNat f ∧ J 265 68 = sec2 m o ∧ ∀ g' m' f' o', CAND c std rst br win V fl lev ap pg g' m' f' o' → PR f' o' → cle (Rk g m) (kf f) (kf o) (Rk g' m') (kf f') (kf o'))
theorem MINI_on {PR : Nat → Nat → Prop} (H : onlyM f5 J K) (X : MINI c std rst br win V fl lev ap pg PR J) : MINI c std rst br win V fl lev ap pg PR K := by
  have e : ∀ k, 65 ≤ k → k ≤ 68 → K 265 k = J 265 k := fun k h1 h2 => onlyM_get H (by unfold f5; omega)
  unfold MINI
  rw [e 65 (by omega) (by omega), e 66 (by omega) (by omega), e 67 (by omega) (by omega), e 68 (by omega) (by omega)]
  exact X
theorem MINI_pr {PR PR' : Nat → Nat → Prop} (H : ∀ g m f o, CAND c std rst br win V fl lev ap pg g m f o → PR' f o → PR f o) (X : MINI c std rst br win V fl lev ap pg PR J) : MINI c std rst br win V fl lev ap pg PR' J := by
  rcases X with ⟨h1, h2⟩ | ⟨g, m, f, o, h1, h2, h3, h4, h5, h6⟩
  · exact Or.inl ⟨h1, fun g m f o hp hc => h2 g m f o (H _ _ _ _ hc hp) hc⟩
  · exact Or.inr ⟨g, m, f, o, h1, h2, h3, h4, h5, fun g' m' f' o' hc hp => h6 g' m' f' o' hc (H _ _ _ _ hc hp)⟩
theorem cand_1 {g m f o g' m' : Nat} (h1 : CAND c std rst br win V fl lev ap pg g m f o) (h2 : CAND c std rst br win V fl lev ap pg g' m' f o) : g = g' ∧ m = m' := by
  obtain ⟨-, ⟨a1, a2, a3, a4⟩ | ⟨a1, a2, a3, a4⟩⟩ := h1
  · obtain ⟨-, ⟨b1, b2, b3, b4⟩ | ⟨b1, b2, b3, b4⟩⟩ := h2
    · omega
    · omega
  · obtain ⟨-, ⟨b1, b2, b3, b4⟩ | ⟨b1, b2, b3, b4⟩⟩ := h2
    · omega
    · omega
theorem try_step (hc8 : c ≤ 8) {PR : Nat → Nat → Prop} (X : MINI c std rst br win V fl lev ap pg PR J) {g' m' f' o' : Nat} (hc : CAND c std rst br win V fl lev ap pg g' m' f' o') :
    ∃ K, cf (d + 2) 256 [.ref 265, .int (Int32.ofNat g'), .int (Int32.ofNat m'), .int (Int32.ofNat f'), .int (sec2 m' o')] (SH n, J, L, R, nc, ns, nx) = some (.inl none, (SH n, K, L, R, nc, ns, nx)) ∧ onlyM f9 J K ∧ MINI c std rst br win V fl lev ap pg (fun f o => PR f o ∨ (f = f' ∧ o = o')) K := by
  obtain ⟨b1, b2, b3, b4⟩ := cand_b hc8 hc
  have on : onlyM f9 J (trI J g' m' f' (sec2 m' o')) := by
    unfold trI
    refine onlyM_up (onlyM_up (onlyM_up (onlyM_up onlyM_refl ?_) ?_) ?_) ?_ <;> unfold f9 <;> omega
  have t5 : trI J g' m' f' (sec2 m' o') 265 65 = Int32.ofNat g' := by unfold trI; rw [up_k (by decide), up_k (by decide), up_k (by decide), up_eq]
  have t6 : trI J g' m' f' (sec2 m' o') 265 66 = Int32.ofNat m' := by unfold trI; rw [up_k (by decide), up_k (by decide), up_eq]
  have t7 : trI J g' m' f' (sec2 m' o') 265 67 = Int32.ofNat f' := by unfold trI; rw [up_k (by decide), up_eq]
  have t8 : trI J g' m' f' (sec2 m' o') 265 68 = sec2 m' o' := by unfold trI; rw [up_eq]
  rcases X with ⟨h1, h2⟩ | ⟨g, m, f, o, h1, h2, h3, h4, h5, h6⟩
  · refine ⟨_, c256a h1 b1, on, Or.inr ⟨g', m', f', o', hc, t5, t6, t7, t8, ?_⟩⟩
    rintro g2 m2 f2 o2 hc2 (hp | ⟨e1, e2⟩)
    · exact absurd hc2 (h2 _ _ _ _ hp)
    · subst e1; subst e2
      obtain ⟨e3, e4⟩ := cand_1 hc2 hc
      subst e3; subst e4
      unfold cle; omega
  · obtain ⟨d1, d2, d3, d4⟩ := cand_b hc8 h1
    have C := c256 (d := d) (n := n) (I := J) (L := L) (R := R) (nc := nc) (ns := ns) (nx := nx) h2 h3 h4 h5 d1 d2 d3 d4 b1 b2 b3 b4
    have ki : f' = f ↔ kf f' = kf f := ⟨fun e => by rw [e], kf_inj b3 d3⟩
    have k0 := kf_0
    have m1o : m = 1 → kf o = 0 := by
      intro e
      obtain ⟨-, ⟨a1, a2, a3, a4⟩ | ⟨a1, a2, a3, a4⟩⟩ := h1
      · rw [a4]; exact k0
      · omega
    have m1o' : m' = 1 → kf o' = 0 := by
      intro e
      obtain ⟨-, ⟨a1, a2, a3, a4⟩ | ⟨a1, a2, a3, a4⟩⟩ := hc
      · rw [a4]; exact k0
      · omega
    by_cases q : g < g' ∨ (g = g' ∧ (m' < m ∨ (m' = m ∧ (kf f' < kf f ∨ (f' = f ∧ m' = 2 ∧ kf o' < kf o)))))
    · rw [if_pos q] at C
      refine ⟨_, C, on, Or.inr ⟨g', m', f', o', hc, t5, t6, t7, t8, ?_⟩⟩
      rw [ki] at q
      rintro g2 m2 f2 o2 hc2 (hp | ⟨e1, e2⟩)
      · have := h6 g2 m2 f2 o2 hc2 hp
        unfold cle Rk at this ⊢
        omega
      · subst e1; subst e2
        obtain ⟨e3, e4⟩ := cand_1 hc2 hc
        subst e3; subst e4
        unfold cle; omega
    · rw [if_neg q] at C
      refine ⟨J, C, onlyM_refl, Or.inr ⟨g, m, f, o, h1, h2, h3, h4, h5, ?_⟩⟩
      rw [ki] at q
      rintro g2 m2 f2 o2 hc2 (hp | ⟨e1, e2⟩)
      · exact h6 g2 m2 f2 o2 hc2 hp
      · subst e1; subst e2
        obtain ⟨e3, e4⟩ := cand_1 hc2 hc
        subst e3; subst e4
        unfold cle Rk
        omega
def chA (what : Int32) (g m f o : Nat) : Int32 := if what = 1 then Int32.ofNat f else if what = 2 then sec2 m o else hwG g
theorem l255 (hR : LYR R) (X : MTx c std rst br win I) (M : MNd w p 1 V fl I) (Z : MSIT c std rst br win V fl 1 ap I) (a2 : ap < 2) (hp : pg < 2147483648) (og0 : ogI c std rst br win V fl 1 ap 0 = 0) :
    ∃ J g m f o, rf (d + 5) 255 64 [some (.ref 265), some (.int (Int32.ofNat pg)), some (.int what), none, none, none, none, none, none] [] (SH n, I, L, R, nc, ns, nx) = some (.inl (some (.int (chA what g m f o))), (SH n, J, L, R, nc, ns, nx)) ∧ onlyM f9 I J ∧ isMinC c std rst br win V fl 1 ap pg g m f o := by
  have hc8 := X.1
  have P8 := p2le hc8
  have P1 : 0 < 2 ^ c := Nat.two_pow_pos c
  have hr := X.2.2.2.1
  have v8 := M.2.2.1
  generalize hI1 : ip_up (ip_up I 265 65 (-1)) 265 66 0 = I1
  have o1 : onlyM f9 I I1 := by rw [← hI1]; exact onlyM_up (onlyM_up onlyM_refl (by unfold f9; omega)) (by unfold f9; omega)
  have z1 : I1 265 65 = -1 := by rw [← hI1, up_k (by decide), up_eq]
  have head : rf (d + 5) 255 64 [some (.ref 265), some (.int (Int32.ofNat pg)), some (.int what), none, none, none, none, none, none] [] (SH n, I, L, R, nc, ns, nx) = rf (d + 5) 255 96 [some (.ref 265), some (.int (Int32.ofNat pg)), some (.int what), some (.int (Int32.ofNat (heardN c std rst br win V fl 1 ap))), some (.int (Int32.ofNat 0)), none, none, none, none] [] (SH n, I1, L, R, nc, ns, nx) := by
    obtain ⟨y1, y2, y3, y4⟩ := MSIT_9 o1 Z
    rcases lt2 a2 with rfl | rfl
    · simp only [e255_64, e255_65, e255_66, e255_69, e255_70, e255_71, e255_74, e255_75, e255_78, e255_81, e255_82, e255_85, e255_88, e255_89, e255_92, e255_93, e255_94, rk_n, rk_v, nl_n, nl_i, nl_r, cat_n, ip_cat_int, ip_cat_ref, ip_cat_long, ip_rf_some, Nat.reduceAdd, Nat.reduceLeDiff, Nat.reduceLT, Nat.le_refl, Nat.zero_le, hI1, y2, y3, y4, nz0, Bool.false_eq_true, Bool.true_eq_false, if_true, if_false, not_true_eq_false, not_false_eq_true, zle, eq_self]
      rfl
    · simp only [e255_64, e255_65, e255_66, e255_69, e255_70, e255_71, e255_74, e255_75, e255_78, e255_81, e255_82, e255_85, e255_88, e255_89, e255_92, e255_93, e255_94, rk_n, rk_v, nl_n, nl_i, nl_r, cat_n, ip_cat_int, ip_cat_ref, ip_cat_long, ip_rf_some, Nat.reduceAdd, Nat.reduceLeDiff, Nat.reduceLT, Nat.le_refl, Nat.zero_le, hI1, y2, y3, y4, nz1, Bool.false_eq_true, Bool.true_eq_false, if_true, if_false, not_true_eq_false, not_false_eq_true, zle, eq_self]
      rfl
  refine Exists.elim (for_ex (c := 2 ^ c) (fun k (x : (Option Value × Option Value × Option Value × Option Value) × (Nat → Nat → Int32)) => rf (d + 5) 255 96 [some (.ref 265), some (.int (Int32.ofNat pg)), some (.int what), some (.int (Int32.ofNat (heardN c std rst br win V fl 1 ap))), some (.int (Int32.ofNat k)), x.1.1, x.1.2.1, x.1.2.2.1, x.1.2.2.2] [] (SH n, x.2, L, R, nc, ns, nx)) (fun k x => (ip_nl x.1.1 = true ∧ ip_nl x.1.2.1 = true ∧ ip_nl x.1.2.2.1 = true ∧ ip_nl x.1.2.2.2 = true) ∧ onlyM f9 I x.2 ∧ MINI c std rst br win V fl 1 ap pg (fun f o => f < k) x.2) ?_ ((none, none, none, none), I1) ⟨⟨nl_n, nl_n, nl_n, nl_n⟩, o1, Or.inl ⟨z1, fun g m f o hq => by omega⟩⟩) ?_
  · rintro k ⟨⟨l5, l6, l7, l8⟩, J⟩ hk ⟨⟨n5, n6, n7, n8⟩, o2, MI⟩
    dsimp only at n5 n6 n7 n8 o2 MI ⊢
    have X1 := MTx_on (onlyM_mono o2 (fun _ => f9_scr)) X
    have M1 := MNd_on (onlyM_mono o2 (fun _ => f9_scr)) M
    have Z1 := MSIT_9 o2 Z
    have k8 : k < 256 := by omega
    have lk : k < 2147483648 := by omega
    have lc : 2 ^ c - 1 < 2147483648 := by omega
    have AL := all_n (d := d + 4) (n := n) (L := L) (R := R) (nc := nc) (ns := ns) (nx := nx) hc8 X1.2.1
    have g1 : (Int32.ofNat (2 ^ c - 1) < Int32.ofNat k) = False := eq_false (fun e => by
      have := (nu_lt lc lk).mp e
      omega)
    have PG := c247 (d := d + 3) (n := n) (L := L) (nc := nc) (ns := ns) (nx := nx) hR X1 k8
    have pl := pgM_le (s := k) (c := c) (f := rst) (fun k hk => (hr k hk).2) c (Nat.le_refl c)
    have gp : (Int32.ofNat (pgM k rst c) ≤ Int32.ofNat pg) = (pgM k rst c ≤ pg) := nu_ge (by omega) hp
    by_cases q1 : pgM k rst c ≤ pg
    · obtain ⟨J1, E1, o3⟩ := c249o (d := d + 1) (n := n) (L := L) (nc := nc) (ns := ns) (nx := nx) hR X1 M1 (Or.inl rfl) Z1 a2 (s := k) k8
      have o4 : onlyM f9 I J1 := onlyM_tr o2 (onlyM_mono o3 (fun k h => Or.inl h))
      have MI1 := MINI_on o3 MI
      have rl := rkN_le (ogI c std rst br win V fl 1 ap (k &&& errS c std rst br win V fl 1 ap))
      have g0 : (Int32.ofNat (rkN (ogI c std rst br win V fl 1 ap (k &&& errS c std rst br win V fl 1 ap))) ≤ 0) = (rkN (ogI c std rst br win V fl 1 ap (k &&& errS c std rst br win V fl 1 ap)) ≤ 0) := nu_lit (k := 0) (by omega) (by omega)
      by_cases q2 : rkN (ogI c std rst br win V fl 1 ap (k &&& errS c std rst br win V fl 1 ap)) ≤ 0
      · -- the second appeals
        have X2 := MTx_on (onlyM_mono o4 (fun _ => f9_scr)) X
        have M2 := MNd_on (onlyM_mono o4 (fun _ => f9_scr)) M
        have Z2 := MSIT_9 o4 Z
        have kh8 : k &&& heardN c std rst br win V fl 1 ap < 256 := Nat.lt_of_le_of_lt Nat.and_le_left k8
        obtain ⟨-, -, -, -, HB⟩ := c258 (d := d + 2) (n := n) (L := L) (nc := nc) (ns := ns) (nx := nx) hR X2 M2 a2 Z2.2.1 k8 kh8
        have hb8 : setN (fun i => E2b V fl ap k (k &&& heardN c std rst br win V fl 1 ap) i) c < 256 := setN_256 _ hc8
        have front : rf (d + 5) 255 96 [some (.ref 265), some (.int (Int32.ofNat pg)), some (.int what), some (.int (Int32.ofNat (heardN c std rst br win V fl 1 ap))), some (.int (Int32.ofNat k)), l5, l6, l7, l8] [] (SH n, J, L, R, nc, ns, nx) = rf (d + 5) 255 163 [some (.ref 265), some (.int (Int32.ofNat pg)), some (.int what), some (.int (Int32.ofNat (heardN c std rst br win V fl 1 ap))), some (.int (Int32.ofNat k)), some (.int (Int32.ofNat (rkN (ogI c std rst br win V fl 1 ap (k &&& errS c std rst br win V fl 1 ap))))), some (.int (Int32.ofNat (setN (fun i => E2b V fl ap k (k &&& heardN c std rst br win V fl 1 ap) i) c))), some (.int (Int32.ofNat 0)), l8] [] (SH n, J1, L, R, nc, ns, nx) := by
          rw [e255_96]
          simp only [e255_98, e255_99, e255_102, e255_105, e255_106, e255_108, e255_111, e255_112, e255_118, e255_119, e255_121, e255_122, e255_125, e255_128, e255_130, e255_132, e255_148, e255_149, e255_151, e255_153, e255_154, e255_155, e255_158, e255_160, e255_161, rk_n, rk_v, nl_n, nl_i, nl_r, cat_n, ip_cat_int, ip_cat_ref, ip_cat_long, ip_rf_some, Nat.reduceAdd, Nat.reduceLeDiff, Nat.reduceLT, Nat.le_refl, Nat.zero_le, AL, g1, PG, gp, q1, E1, c250, g0, q2, of_and, HB, n5, n6, n7, n8, Bool.false_eq_true, Bool.true_eq_false, if_true, if_false, not_true_eq_false, not_false_eq_true, zle, eq_self]
          rfl
        refine Exists.elim (for_ex (c := 2 ^ c) (fun j (x : Option Value × (Nat → Nat → Int32)) => rf (d + 5) 255 163 [some (.ref 265), some (.int (Int32.ofNat pg)), some (.int what), some (.int (Int32.ofNat (heardN c std rst br win V fl 1 ap))), some (.int (Int32.ofNat k)), some (.int (Int32.ofNat (rkN (ogI c std rst br win V fl 1 ap (k &&& errS c std rst br win V fl 1 ap))))), some (.int (Int32.ofNat (setN (fun i => E2b V fl ap k (k &&& heardN c std rst br win V fl 1 ap) i) c))), some (.int (Int32.ofNat j)), x.1] [] (SH n, x.2, L, R, nc, ns, nx)) (fun j x => ip_nl x.1 = true ∧ onlyM f9 I x.2 ∧ MINI c std rst br win V fl 1 ap pg (fun f o => f < k ∨ (f = k ∧ o < j)) x.2) ?_ (l8, J1) ⟨n8, o4, MINI_pr (fun g m f o _ hq => by omega) MI1⟩) ?_
        · rintro j ⟨l8, J⟩ hj ⟨n8, o2, MI⟩
          dsimp only at n8 o2 MI ⊢
          have X1 := MTx_on (onlyM_mono o2 (fun _ => f9_scr)) X
          have M1 := MNd_on (onlyM_mono o2 (fun _ => f9_scr)) M
          have Z1 := MSIT_9 o2 Z
          have j8 : j < 256 := by omega
          have lj : j < 2147483648 := by omega
          have AL := all_n (d := d + 4) (n := n) (L := L) (R := R) (nc := nc) (ns := ns) (nx := nx) hc8 X1.2.1
          have g1 : (Int32.ofNat (2 ^ c - 1) < Int32.ofNat j) = False := eq_false (fun e => by
            have := (nu_lt lc lj).mp e
            omega)
          have PG := c247 (d := d + 3) (n := n) (L := L) (nc := nc) (ns := ns) (nx := nx) hR X1 j8
          have pl := pgM_le (s := j) (c := c) (f := rst) (fun k hk => (hr k hk).2) c (Nat.le_refl c)
          have gp : (Int32.ofNat (pgM j rst c) ≤ Int32.ofNat pg) = (pgM j rst c ≤ pg) := nu_ge (by omega) hp
          by_cases q3 : pgM j rst c ≤ pg
          · have EO := c238g (d := d + 3) (n := n) (L := L) (nc := nc) (ns := ns) (nx := nx) (lev := 2) hR X1 M1 (Or.inr rfl) (s := j &&& setN (fun i => E2b V fl ap k (k &&& heardN c std rst br win V fl 1 ap) i) c) (Nat.lt_of_le_of_lt Nat.and_le_left j8)
            rw [err_E2 (lev := 1)] at EO
            have e8 : j &&& E2 c std rst br win V fl 1 ap k < 256 := Nat.lt_of_le_of_lt Nat.and_le_left j8
            have LT := c239 (d := d + 3) (n := n) (L := L) (nc := nc) (ns := ns) (nx := nx) hR X1 M1 e8
            generalize hJ1 : thenI J (opnN c std rst br win V fl 1 (j &&& E2 c std rst br win V fl 1 ap k)) (trnN c std rst br win V fl 1 (j &&& E2 c std rst br win V fl 1 ap k)) (zrnN c std rst br win V fl 1 (j &&& E2 c std rst br win V fl 1 ap k)) = J1 at LT
            have p1 : onlyM f5 J J1 := by
              rw [← hJ1]
              unfold thenI
              refine onlyM_up (onlyM_up (onlyM_up onlyM_refl ?_) ?_) ?_ <;> unfold f5 <;> omega
            have o3 : onlyM f9 I J1 := onlyM_tr o2 (onlyM_mono p1 (fun k h => Or.inl h))
            have MI1 := MINI_on p1 MI
            have r57 : J1 265 57 = Int32.ofNat (zrnN c std rst br win V fl 1 (j &&& E2 c std rst br win V fl 1 ap k)) := by rw [← hJ1]; unfold thenI; rw [up_eq]
            have r55 : J1 265 55 = Int32.ofNat (opnN c std rst br win V fl 1 (j &&& E2 c std rst br win V fl 1 ap k)) := by rw [← hJ1]; unfold thenI; rw [up_k (by decide), up_k (by decide), up_eq]
            have r59 : J1 265 59 = Int32.ofNat ap := (MSIT_9 o3 Z).2.1
            have X3 := MTx_on (onlyM_mono o3 (fun _ => f9_scr)) X
            have SU := c234 (d := d + 4) (n := n) (L := L) (nc := nc) (ns := ns) (nx := nx) hR X3.2.2.2.2.2 (zrnN_lt (std := std) (rst := rst) (br := br) (win := win) (fl := fl) (lev := 1) (m := j &&& E2 c std rst br win V fl 1 ap k) hc8 v8) (opnN_lt (std := std) (rst := rst) (br := br) (win := win) (fl := fl) (lev := 1) hc8 v8 e8)
            have af : sureI win (zrnN c std rst br win V fl 1 (j &&& E2 c std rst br win V fl 1 ap k)) (opnN c std rst br win V fl 1 (j &&& E2 c std rst br win V fl 1 ap k)) = aftN c std rst br win V fl 1 (j &&& E2 c std rst br win V fl 1 ap k) := rfl
            rw [af] at SU
            have WG := whoG (c := c) (std := std) (rst := rst) (br := br) (win := win) (V := V) (fl := fl) (lev := 1) (m := j &&& E2 c std rst br win V fl 1 ap k) a2
            have CD : CAND c std rst br win V fl 1 ap pg (rkN (ogI c std rst br win V fl 1 ap (j &&& E2 c std rst br win V fl 1 ap k))) 2 k j := ⟨⟨hk, q1⟩, Or.inr ⟨rfl, by omega, ⟨hj, q3⟩, rfl⟩⟩
            obtain ⟨K, TR, p2, MI2⟩ := try_step (d := d + 2) (n := n) (L := L) (R := R) (nc := nc) (ns := ns) (nx := nx) hc8 MI1 CD
            have s2 : sec2 2 j = Int32.ofNat j := rfl
            rw [s2] at TR
            refine ⟨(some (.int (aftN c std rst br win V fl 1 (j &&& E2 c std rst br win V fl 1 ap k))), K), ⟨nl_i, onlyM_tr o3 p2, MINI_pr (fun g m f o _ hq => by omega) MI2⟩, ?_⟩
            rw [e255_163]
            have z2 : Int32.ofNat 2 = 2 := rfl
            rw [z2] at EO TR
            by_cases w1 : aftN c std rst br win V fl 1 (j &&& E2 c std rst br win V fl 1 ap k) = -1
            · rw [if_pos w1] at WG
              rw [← WG] at TR
              simp only [e255_165, e255_166, e255_169, e255_172, e255_173, e255_175, e255_178, e255_179, e255_185, e255_186, e255_187, e255_189, e255_191, e255_192, e255_193, e255_196, e255_199, e255_200, e255_201, e255_204, e255_205, e255_208, e255_211, e255_213, e255_214, e255_216, e255_217, e255_220, e255_221, e255_224, e255_226, e255_227, e255_230, e255_233, e255_234, e255_237, e255_238, e255_239, e255_241, e255_243, e255_246, e255_249, rk_n, rk_v, nl_n, nl_i, nl_r, cat_n, ip_cat_int, ip_cat_ref, ip_cat_long, ip_rf_some, Nat.reduceAdd, Nat.reduceLeDiff, Nat.reduceLT, Nat.le_refl, Nat.zero_le, AL, g1, PG, gp, q3, of_and, EO, LT, r57, r55, SU, w1, TR, n8, nu_1, Bool.false_eq_true, Bool.true_eq_false, if_true, if_false, not_true_eq_false, not_false_eq_true, zle, eq_self]
            · by_cases w2 : aftN c std rst br win V fl 1 (j &&& E2 c std rst br win V fl 1 ap k) = Int32.ofNat ap
              · rw [if_neg w1, if_pos w2] at WG
                rw [← WG] at TR
                have w3 : ¬ Int32.ofNat ap = -1 := nu_m1 (by omega)
                simp only [e255_165, e255_166, e255_169, e255_172, e255_173, e255_175, e255_178, e255_179, e255_185, e255_186, e255_187, e255_189, e255_191, e255_192, e255_193, e255_196, e255_199, e255_200, e255_201, e255_204, e255_205, e255_208, e255_211, e255_213, e255_214, e255_216, e255_217, e255_220, e255_221, e255_224, e255_226, e255_227, e255_230, e255_233, e255_234, e255_237, e255_238, e255_239, e255_241, e255_243, e255_246, e255_249, rk_n, rk_v, nl_n, nl_i, nl_r, cat_n, ip_cat_int, ip_cat_ref, ip_cat_long, ip_rf_some, Nat.reduceAdd, Nat.reduceLeDiff, Nat.reduceLT, Nat.le_refl, Nat.zero_le, AL, g1, PG, gp, q3, of_and, EO, LT, r57, r55, r59, SU, w2, w3, TR, n8, nu_1, Bool.false_eq_true, Bool.true_eq_false, if_true, if_false, not_true_eq_false, not_false_eq_true, zle, eq_self]
              · rw [if_neg w1, if_neg w2] at WG
                rw [← WG] at TR
                simp only [e255_165, e255_166, e255_169, e255_172, e255_173, e255_175, e255_178, e255_179, e255_185, e255_186, e255_187, e255_189, e255_191, e255_192, e255_193, e255_196, e255_199, e255_200, e255_201, e255_204, e255_205, e255_208, e255_211, e255_213, e255_214, e255_216, e255_217, e255_220, e255_221, e255_224, e255_226, e255_227, e255_230, e255_233, e255_234, e255_237, e255_238, e255_239, e255_241, e255_243, e255_246, e255_249, rk_n, rk_v, nl_n, nl_i, nl_r, cat_n, ip_cat_int, ip_cat_ref, ip_cat_long, ip_rf_some, Nat.reduceAdd, Nat.reduceLeDiff, Nat.reduceLT, Nat.le_refl, Nat.zero_le, AL, g1, PG, gp, q3, of_and, EO, LT, r57, r55, r59, SU, w1, w2, TR, n8, nu_1, Bool.false_eq_true, Bool.true_eq_false, if_true, if_false, not_true_eq_false, not_false_eq_true, zle, eq_self]
          · refine ⟨(l8, J), ⟨n8, o2, MINI_pr ?_ MI⟩, ?_⟩
            · intro g m f o hc hq
              by_cases e : f = k ∧ o = j
              · obtain ⟨e1, e2⟩ := e
                subst e1; subst e2
                obtain ⟨-, ⟨a1, a2', a3, a4⟩ | ⟨a1, a2', a3, a4⟩⟩ := hc
                · omega
                · exact absurd a3.2 q3
              · omega
            · rw [e255_163]
              simp only [e255_165, e255_166, e255_169, e255_172, e255_173, e255_175, e255_178, e255_179, e255_182, e255_246, e255_249, rk_n, rk_v, nl_n, nl_i, nl_r, cat_n, ip_cat_int, ip_cat_ref, ip_cat_long, ip_rf_some, Nat.reduceAdd, Nat.reduceLeDiff, Nat.reduceLT, Nat.le_refl, Nat.zero_le, AL, g1, PG, gp, q3, nu_1, n8, Bool.false_eq_true, Bool.true_eq_false, if_true, if_false, not_true_eq_false, not_false_eq_true, zle, eq_self]
        · rintro ⟨l8, J⟩ ⟨⟨n8, o2, MI⟩, e⟩
          dsimp only at n8 o2 MI
          have X1 := MTx_on (onlyM_mono o2 (fun _ => f9_scr)) X
          have AL := all_n (d := d + 4) (n := n) (L := L) (R := R) (nc := nc) (ns := ns) (nx := nx) hc8 X1.2.1
          have g1 : (Int32.ofNat (2 ^ c - 1) < Int32.ofNat (2 ^ c)) = True := eq_true ((nu_lt (by omega) (by omega)).mpr (by omega))
          refine ⟨((some (.int (Int32.ofNat (rkN (ogI c std rst br win V fl 1 ap (k &&& errS c std rst br win V fl 1 ap))))), some (.int (Int32.ofNat (setN (fun i => E2b V fl ap k (k &&& heardN c std rst br win V fl 1 ap) i) c))), some (.int (Int32.ofNat (2 ^ c))), l8), J), ⟨⟨nl_i, nl_i, nl_i, n8⟩, o2, MINI_pr ?_ MI⟩, ?_⟩
          · intro g m f o hc hq
            by_cases e : f = k
            · right
              refine ⟨e, ?_⟩
              obtain ⟨-, ⟨a1, a2', a3, a4⟩ | ⟨a1, a2', a3, a4⟩⟩ := hc
              · omega
              · exact a3.1
            · left; omega
          · refine Eq.trans front (Eq.trans e ?_)
            dsimp only
            rw [e255_163]
            simp only [e255_165, e255_166, e255_169, e255_252, e255_255, rk_n, rk_v, nl_n, nl_i, nl_r, cat_n, ip_cat_int, ip_cat_ref, ip_cat_long, ip_rf_some, Nat.reduceAdd, Nat.reduceLeDiff, Nat.reduceLT, Nat.le_refl, Nat.zero_le, AL, g1, nu_1, n8, Bool.false_eq_true, Bool.true_eq_false, if_true, if_false, not_true_eq_false, not_false_eq_true, zle, eq_self]
      · have CD : CAND c std rst br win V fl 1 ap pg (rkN (ogI c std rst br win V fl 1 ap (k &&& errS c std rst br win V fl 1 ap))) 1 k 0 := ⟨⟨hk, q1⟩, Or.inl ⟨rfl, rfl, by omega, rfl⟩⟩
        obtain ⟨K, TR, p2, MI2⟩ := try_step (d := d + 2) (n := n) (L := L) (R := R) (nc := nc) (ns := ns) (nx := nx) hc8 MI1 CD
        have s2 : sec2 1 0 = -1 := rfl
        have z1' : Int32.ofNat 1 = 1 := rfl
        rw [s2, z1'] at TR
        refine ⟨((some (.int (Int32.ofNat (rkN (ogI c std rst br win V fl 1 ap (k &&& errS c std rst br win V fl 1 ap))))), l6, l7, l8), K), ⟨⟨nl_i, n6, n7, n8⟩, onlyM_tr o4 p2, MINI_pr ?_ MI2⟩, ?_⟩
        · intro g m f o hc hq
          by_cases e : f = k
          · right
            refine ⟨e, ?_⟩
            subst e
            obtain ⟨-, ⟨a1, a2', a3, a4⟩ | ⟨a1, a2', a3, a4⟩⟩ := hc
            · exact a4
            · omega
          · left; omega
        · rw [e255_96]
          simp only [e255_98, e255_99, e255_102, e255_105, e255_106, e255_108, e255_111, e255_112, e255_118, e255_119, e255_121, e255_122, e255_125, e255_128, e255_130, e255_132, e255_135, e255_136, e255_138, e255_139, e255_141, e255_142, e255_145, e255_252, e255_255, rk_n, rk_v, nl_n, nl_i, nl_r, cat_n, ip_cat_int, ip_cat_ref, ip_cat_long, ip_rf_some, Nat.reduceAdd, Nat.reduceLeDiff, Nat.reduceLT, Nat.le_refl, Nat.zero_le, AL, g1, PG, gp, q1, E1, c250, g0, q2, TR, n5, n6, n7, n8, nu_1, Bool.false_eq_true, Bool.true_eq_false, if_true, if_false, not_true_eq_false, not_false_eq_true, zle, eq_self]
    · refine ⟨((l5, l6, l7, l8), J), ⟨⟨n5, n6, n7, n8⟩, o2, MINI_pr ?_ MI⟩, ?_⟩
      · intro g m f o hc hq
        by_cases e : f = k
        · subst e; exact absurd hc.1.2 q1
        · omega
      · rw [e255_96]
        simp only [e255_98, e255_99, e255_102, e255_105, e255_106, e255_108, e255_111, e255_112, e255_115, e255_252, e255_255, rk_n, rk_v, nl_n, nl_i, nl_r, cat_n, ip_cat_int, ip_cat_ref, ip_cat_long, ip_rf_some, Nat.reduceAdd, Nat.reduceLeDiff, Nat.reduceLT, Nat.le_refl, Nat.zero_le, AL, g1, PG, gp, q1, n5, n6, n7, n8, nu_1, Bool.false_eq_true, Bool.true_eq_false, if_true, if_false, not_true_eq_false, not_false_eq_true, zle, eq_self]
  · rintro ⟨⟨l5, l6, l7, l8⟩, J⟩ ⟨⟨⟨n5, n6, n7, n8⟩, o2, MI⟩, e⟩
    dsimp only at n5 n6 n7 n8 o2 MI
    have c0 : CAND c std rst br win V fl 1 ap pg 0 2 0 0 := (cand_0 (c := c) (std := std) (rst := rst) (br := br) (win := win) (V := V) (fl := fl) (lev := 1) (ap := ap) (pg := pg)).resolve_right (fun e => e (by rw [og0]; rfl))
    rcases MI with ⟨h1, h2⟩ | ⟨g, m, f, o, h1, h2, h3, h4, h5, h6⟩
    · exact absurd c0 (h2 _ _ _ _ P1)
    · obtain ⟨b1, b2, b3, b4⟩ := cand_b hc8 h1
      refine ⟨J, g, m, f, o, ?_, o2, h1, fun g' m' f' o' hc => h6 g' m' f' o' hc hc.1.1⟩
      refine Eq.trans head (Eq.trans e ?_)
      dsimp only
      have X1 := MTx_on (onlyM_mono o2 (fun _ => f9_scr)) X
      have AL := all_n (d := d + 4) (n := n) (L := L) (R := R) (nc := nc) (ns := ns) (nx := nx) hc8 X1.2.1
      have g1 : (Int32.ofNat (2 ^ c - 1) < Int32.ofNat (2 ^ c)) = True := eq_true ((nu_lt (by omega) (by omega)).mpr (by omega))
      have w2 : (Int32.ofNat g = 2) = (g = 2) := nu_eq (k := 2) (by omega) (by omega)
      have w1 : (Int32.ofNat g = 1) = (g = 1) := nu_eq (k := 1) (by omega) (by omega)
      rw [e255_96]
      unfold chA hwG
      by_cases q1 : what = 1
      · simp only [e255_0, e255_1, e255_2, e255_3, e255_5, e255_8, e255_11, e255_12, e255_15, e255_16, e255_19, e255_20, e255_23, e255_24, e255_27, e255_28, e255_31, e255_34, e255_35, e255_38, e255_39, e255_40, e255_41, e255_44, e255_47, e255_48, e255_51, e255_52, e255_55, e255_56, e255_59, e255_62, e255_63, e255_64, e255_65, e255_66, e255_69, e255_70, e255_71, e255_74, e255_75, e255_78, e255_81, e255_82, e255_85, e255_88, e255_89, e255_92, e255_93, e255_94, e255_98, e255_99, e255_102, e255_105, e255_106, e255_108, e255_111, e255_112, e255_115, e255_118, e255_119, e255_121, e255_122, e255_125, e255_128, e255_130, e255_132, e255_135, e255_136, e255_138, e255_139, e255_141, e255_142, e255_145, e255_148, e255_149, e255_151, e255_153, e255_154, e255_155, e255_158, e255_160, e255_161, e255_165, e255_166, e255_169, e255_172, e255_173, e255_175, e255_178, e255_179, e255_182, e255_185, e255_186, e255_187, e255_189, e255_191, e255_192, e255_193, e255_196, e255_199, e255_200, e255_201, e255_204, e255_205, e255_208, e255_211, e255_213, e255_214, e255_216, e255_217, e255_220, e255_221, e255_224, e255_226, e255_227, e255_230, e255_233, e255_234, e255_237, e255_238, e255_239, e255_241, e255_243, e255_246, e255_249, e255_252, e255_255, e255_258, e255_259, e255_260, e255_263, e255_264, e255_267, e255_270, e255_271, e255_272, e255_275, e255_276, e255_279, e255_282, e255_283, e255_286, e255_287, e255_290, e255_291, e255_294, e255_295, e255_298, e255_299, e255_302, e255_303, e255_306, e255_307, rk_n, rk_v, nl_n, nl_i, nl_r, cat_n, ip_cat_int, ip_cat_ref, ip_cat_long, ip_rf_some, Nat.reduceAdd, Nat.reduceLeDiff, Nat.reduceLT, Nat.le_refl, Nat.zero_le, AL, g1, q1, h4, Bool.false_eq_true, Bool.true_eq_false, if_true, if_false, not_true_eq_false, not_false_eq_true, zle, eq_self]
      · by_cases q2 : what = 2
        · rw [if_neg q1, if_pos q2]
          subst q2
          simp only [e255_0, e255_1, e255_2, e255_3, e255_5, e255_8, e255_11, e255_12, e255_15, e255_16, e255_19, e255_20, e255_23, e255_24, e255_27, e255_28, e255_31, e255_34, e255_35, e255_38, e255_39, e255_40, e255_41, e255_44, e255_47, e255_48, e255_51, e255_52, e255_55, e255_56, e255_59, e255_62, e255_63, e255_64, e255_65, e255_66, e255_69, e255_70, e255_71, e255_74, e255_75, e255_78, e255_81, e255_82, e255_85, e255_88, e255_89, e255_92, e255_93, e255_94, e255_98, e255_99, e255_102, e255_105, e255_106, e255_108, e255_111, e255_112, e255_115, e255_118, e255_119, e255_121, e255_122, e255_125, e255_128, e255_130, e255_132, e255_135, e255_136, e255_138, e255_139, e255_141, e255_142, e255_145, e255_148, e255_149, e255_151, e255_153, e255_154, e255_155, e255_158, e255_160, e255_161, e255_165, e255_166, e255_169, e255_172, e255_173, e255_175, e255_178, e255_179, e255_182, e255_185, e255_186, e255_187, e255_189, e255_191, e255_192, e255_193, e255_196, e255_199, e255_200, e255_201, e255_204, e255_205, e255_208, e255_211, e255_213, e255_214, e255_216, e255_217, e255_220, e255_221, e255_224, e255_226, e255_227, e255_230, e255_233, e255_234, e255_237, e255_238, e255_239, e255_241, e255_243, e255_246, e255_249, e255_252, e255_255, e255_258, e255_259, e255_260, e255_263, e255_264, e255_267, e255_270, e255_271, e255_272, e255_275, e255_276, e255_279, e255_282, e255_283, e255_286, e255_287, e255_290, e255_291, e255_294, e255_295, e255_298, e255_299, e255_302, e255_303, e255_306, e255_307, rk_n, rk_v, nl_n, nl_i, nl_r, cat_n, ip_cat_int, ip_cat_ref, ip_cat_long, ip_rf_some, Nat.reduceAdd, Nat.reduceLeDiff, Nat.reduceLT, Nat.le_refl, Nat.zero_le, AL, g1, q1, h5, Bool.false_eq_true, Bool.true_eq_false, if_true, if_false, not_true_eq_false, not_false_eq_true, zle, eq_self]
        · by_cases q3 : g = 2
          · have w2' := w2.trans (eq_true q3)
            simp only [e255_0, e255_1, e255_2, e255_3, e255_5, e255_8, e255_11, e255_12, e255_15, e255_16, e255_19, e255_20, e255_23, e255_24, e255_27, e255_28, e255_31, e255_34, e255_35, e255_38, e255_39, e255_40, e255_41, e255_44, e255_47, e255_48, e255_51, e255_52, e255_55, e255_56, e255_59, e255_62, e255_63, e255_64, e255_65, e255_66, e255_69, e255_70, e255_71, e255_74, e255_75, e255_78, e255_81, e255_82, e255_85, e255_88, e255_89, e255_92, e255_93, e255_94, e255_98, e255_99, e255_102, e255_105, e255_106, e255_108, e255_111, e255_112, e255_115, e255_118, e255_119, e255_121, e255_122, e255_125, e255_128, e255_130, e255_132, e255_135, e255_136, e255_138, e255_139, e255_141, e255_142, e255_145, e255_148, e255_149, e255_151, e255_153, e255_154, e255_155, e255_158, e255_160, e255_161, e255_165, e255_166, e255_169, e255_172, e255_173, e255_175, e255_178, e255_179, e255_182, e255_185, e255_186, e255_187, e255_189, e255_191, e255_192, e255_193, e255_196, e255_199, e255_200, e255_201, e255_204, e255_205, e255_208, e255_211, e255_213, e255_214, e255_216, e255_217, e255_220, e255_221, e255_224, e255_226, e255_227, e255_230, e255_233, e255_234, e255_237, e255_238, e255_239, e255_241, e255_243, e255_246, e255_249, e255_252, e255_255, e255_258, e255_259, e255_260, e255_263, e255_264, e255_267, e255_270, e255_271, e255_272, e255_275, e255_276, e255_279, e255_282, e255_283, e255_286, e255_287, e255_290, e255_291, e255_294, e255_295, e255_298, e255_299, e255_302, e255_303, e255_306, e255_307, rk_n, rk_v, nl_n, nl_i, nl_r, cat_n, ip_cat_int, ip_cat_ref, ip_cat_long, ip_rf_some, Nat.reduceAdd, Nat.reduceLeDiff, Nat.reduceLT, Nat.le_refl, Nat.zero_le, AL, g1, q1, q2, h2, w2', Bool.false_eq_true, Bool.true_eq_false, if_true, if_false, not_true_eq_false, not_false_eq_true, zle, eq_self]
            rw [if_pos q3]
          · by_cases q4 : g = 1
            · have w1' := w1.trans (eq_true q4)
              simp only [e255_0, e255_1, e255_2, e255_3, e255_5, e255_8, e255_11, e255_12, e255_15, e255_16, e255_19, e255_20, e255_23, e255_24, e255_27, e255_28, e255_31, e255_34, e255_35, e255_38, e255_39, e255_40, e255_41, e255_44, e255_47, e255_48, e255_51, e255_52, e255_55, e255_56, e255_59, e255_62, e255_63, e255_64, e255_65, e255_66, e255_69, e255_70, e255_71, e255_74, e255_75, e255_78, e255_81, e255_82, e255_85, e255_88, e255_89, e255_92, e255_93, e255_94, e255_98, e255_99, e255_102, e255_105, e255_106, e255_108, e255_111, e255_112, e255_115, e255_118, e255_119, e255_121, e255_122, e255_125, e255_128, e255_130, e255_132, e255_135, e255_136, e255_138, e255_139, e255_141, e255_142, e255_145, e255_148, e255_149, e255_151, e255_153, e255_154, e255_155, e255_158, e255_160, e255_161, e255_165, e255_166, e255_169, e255_172, e255_173, e255_175, e255_178, e255_179, e255_182, e255_185, e255_186, e255_187, e255_189, e255_191, e255_192, e255_193, e255_196, e255_199, e255_200, e255_201, e255_204, e255_205, e255_208, e255_211, e255_213, e255_214, e255_216, e255_217, e255_220, e255_221, e255_224, e255_226, e255_227, e255_230, e255_233, e255_234, e255_237, e255_238, e255_239, e255_241, e255_243, e255_246, e255_249, e255_252, e255_255, e255_258, e255_259, e255_260, e255_263, e255_264, e255_267, e255_270, e255_271, e255_272, e255_275, e255_276, e255_279, e255_282, e255_283, e255_286, e255_287, e255_290, e255_291, e255_294, e255_295, e255_298, e255_299, e255_302, e255_303, e255_306, e255_307, rk_n, rk_v, nl_n, nl_i, nl_r, cat_n, ip_cat_int, ip_cat_ref, ip_cat_long, ip_rf_some, Nat.reduceAdd, Nat.reduceLeDiff, Nat.reduceLT, Nat.le_refl, Nat.zero_le, AL, g1, q1, q2, h2, w2, q3, w1', Bool.false_eq_true, Bool.true_eq_false, if_true, if_false, not_true_eq_false, not_false_eq_true, zle, eq_self]
              rw [if_pos q4]
            · simp only [e255_0, e255_1, e255_2, e255_3, e255_5, e255_8, e255_11, e255_12, e255_15, e255_16, e255_19, e255_20, e255_23, e255_24, e255_27, e255_28, e255_31, e255_34, e255_35, e255_38, e255_39, e255_40, e255_41, e255_44, e255_47, e255_48, e255_51, e255_52, e255_55, e255_56, e255_59, e255_62, e255_63, e255_64, e255_65, e255_66, e255_69, e255_70, e255_71, e255_74, e255_75, e255_78, e255_81, e255_82, e255_85, e255_88, e255_89, e255_92, e255_93, e255_94, e255_98, e255_99, e255_102, e255_105, e255_106, e255_108, e255_111, e255_112, e255_115, e255_118, e255_119, e255_121, e255_122, e255_125, e255_128, e255_130, e255_132, e255_135, e255_136, e255_138, e255_139, e255_141, e255_142, e255_145, e255_148, e255_149, e255_151, e255_153, e255_154, e255_155, e255_158, e255_160, e255_161, e255_165, e255_166, e255_169, e255_172, e255_173, e255_175, e255_178, e255_179, e255_182, e255_185, e255_186, e255_187, e255_189, e255_191, e255_192, e255_193, e255_196, e255_199, e255_200, e255_201, e255_204, e255_205, e255_208, e255_211, e255_213, e255_214, e255_216, e255_217, e255_220, e255_221, e255_224, e255_226, e255_227, e255_230, e255_233, e255_234, e255_237, e255_238, e255_239, e255_241, e255_243, e255_246, e255_249, e255_252, e255_255, e255_258, e255_259, e255_260, e255_263, e255_264, e255_267, e255_270, e255_271, e255_272, e255_275, e255_276, e255_279, e255_282, e255_283, e255_286, e255_287, e255_290, e255_291, e255_294, e255_295, e255_298, e255_299, e255_302, e255_303, e255_306, e255_307, rk_n, rk_v, nl_n, nl_i, nl_r, cat_n, ip_cat_int, ip_cat_ref, ip_cat_long, ip_rf_some, Nat.reduceAdd, Nat.reduceLeDiff, Nat.reduceLT, Nat.le_refl, Nat.zero_le, AL, g1, q1, q2, h2, w2, w1, q3, q4, Bool.false_eq_true, Bool.true_eq_false, if_true, if_false, not_true_eq_false, not_false_eq_true, zle, eq_self]
end CN
