/-! CHAIN: the class's findChain -/
section CK
variable {n d a b T c s t z o w m p lev k side ap b0 b1 h0 h1 md C F B pg po u hi f0 gg mm ff oo : Nat} {I J K M : Nat → Nat → Int32} {L : Nat → Nat → Int64} {R : Nat → Nat → Option Nat} {nc ns : Nat} {nx : Bool} {x y j v lv hw0 what ah num hw came beh : Int32} {h : ip_H} {f g std rst V W : Nat → Nat} {win : Nat → Bool} {br fl : Nat → Int32}
def sec2 (m o : Nat) : Int32 := if m = 1 then -1 else Int32.ofNat o
/-- the planner's state is a chain, the best of those seen -/
def CST (c : Nat) (std rst : Nat → Nat) (br : Nat → Int32) (win : Nat → Bool) (V : Nat → Nat) (fl : Nat → Int32) (lev ap pg s : Nat) (J : Nat → Nat → Int32) (g m f o : Nat) : Prop :=
  CAND c std rst br win V fl lev ap pg g m f o ∧ (g = 0 → f = 0 ∧ o = 0) ∧ (f < s ∨ g = 0) ∧ J 40 6 = Int32.ofNat (Rk g m) ∧ J 40 3 = hwG g ∧ J 40 4 = Int32.ofNat f ∧ J 40 5 = sec2 m o ∧ (∀ g' m' f' o', CAND c std rst br win V fl lev ap pg g' m' f' o' → f' < s → f' &&& heardN c std rst br win V fl lev ap = f' → cle (Rk g m) (kf f) (kf o) (Rk g' m') (kf f') (kf o'))
theorem c147 (hR : LYR R) (X : CTx T c std rst br win I L) (hT9 : T = 9 ∨ T = 16) (N : CNd F B c 1 V fl I) (hF : 65 ≤ F) (hB : 65 ≤ B) (S : SIT 24 T F B c std rst br win V fl 1 ap I R) (a2 : ap < 2) (hVc : ∀ j, V j < 2 ^ c) (hSu : sureI win (V 4) (V 6) = Int32.ofNat (1 - ap)) (hp : pg < 2147483648) :
    ∃ J R' nx' g m f o, cf (d + 6) 147 [.ref 40, .ref 24, .int (Int32.ofNat pg)] (SH n, I, L, R, nc, ns, nx) = some (.inl none, (SH n, J, L, R', nc, ns, nx')) ∧ onlyP at147 I J ∧ (∀ a k, ¬ (a = 41 ∧ k < 3) → R' a k = R a k) ∧ isMinC c std rst br win V fl 1 ap pg g m f o ∧ J 40 3 = hwG g ∧ J 40 4 = Int32.ofNat f ∧ J 40 5 = sec2 m o := by
  have hC : isC 24 := Or.inl rfl
  have hc8 := X.2.1
  have P8 := p2le hc8
  have hT := X.1
  have kT : ∀ J, onlyP at147 I J → CTx T c std rst br win J L := fun J o => CTx_P o (T147 hT9) X
  have kN : ∀ J, onlyP at147 I J → CNd F B c 1 V fl J := fun J o => CNd_P o (fun i hi => F147 hF i (by omega)) (F147 (F := B) hB 0 (by omega) 7) N
  have kS : ∀ J R', onlyP at147 I J → (∀ a k, ¬ (a = 41 ∧ k < 3) → R' a k = R a k) → SIT 24 T F B c std rst br win V fl 1 ap J R' := by
    intro J R' o hr
    obtain ⟨r0, r1, r2, rest⟩ := S147 (P := at147) o S
    exact ⟨by rw [hr 24 0 (by omega)]; exact r0, by rw [hr 24 1 (by omega)]; exact r1, by rw [hr 24 2 (by omega)]; exact r2, rest⟩
  have kR : ∀ R', (∀ a k, ¬ (a = 41 ∧ k < 3) → R' a k = R a k) → LYR R' := fun R' hr => LYR_on (fun a k h => hr a k (fun e => h (Or.inl ⟨Or.inr e.1, e.2⟩))) hR
  have og0 : ogI c std rst br win V fl 1 ap 0 = 0 := og_none hc8 (hVc 4) N.2.2.2.2.2.2.2.2.2.2.2.2.2 hSu
  have hE : errS c std rst br win V fl 1 ap < 2 ^ c := errS_lt
  have hH : heardN c std rst br win V fl 1 ap < 2 ^ c := heardN_lt
  have H8 : heardN c std rst br win V fl 1 ap < 256 := by omega
  have P2 := pow_pop H8
  have P3 := pow_pop_le H8
  -- the memo is wiped
  simp only [en147, e147_0, e147_1, rk_n, rk_v, nl_n, nl_i, nl_r, cat_n, ip_cat_int, ip_cat_ref, ip_cat_long, ip_rf_some, Nat.reduceAdd, Nat.reduceLeDiff, Nat.reduceLT, Nat.le_refl, Nat.zero_le, Bool.false_eq_true, Bool.true_eq_false, if_true, if_false, not_true_eq_false, not_false_eq_true, zle, eq_self]
  refine Exists.elim (for_ex (c := 256) (fun k (J : Nat → Nat → Int32) => rf (d + 6) 147 2 [some (.ref 40), some (.ref 24), some (.int (Int32.ofNat pg)), some (.int (Int32.ofNat k)), none, none, none, none] [] (SH n, J, L, R, nc, ns, nx)) (fun k J => onlyP at147 I J ∧ ∀ u, u < k → J 62 u = -1) ?_ I ⟨onlyP_refl, fun u hu => by omega⟩) ?_
  · rintro k J hk ⟨o1, H⟩
    have lk : k < 2147483648 := by omega
    have g0 : ((256 : Int32) ≤ Int32.ofNat k) = (256 ≤ k) := nu_lit (c := 256) (by omega) lk
    have g1 : ¬ 256 ≤ k := by omega
    refine ⟨ip_up J 62 k (-1), ⟨onlyP_up o1 (by unfold at147; omega), ?_⟩, ?_⟩
    · intro u hu
      by_cases e : u = k
      · subst e; exact up_eq
      · rw [up_k e]; exact H u (by omega)
    · rw [e147_2]
      simp only [e147_0, e147_1, e147_3, e147_6, e147_9, e147_10, e147_13, e147_14, e147_15, e147_16, e147_19, e147_22, e147_23, e147_24, e147_27, e147_28, e147_29, e147_32, e147_33, e147_34, e147_37, e147_38, e147_39, e147_42, e147_43, e147_46, e147_47, e147_48, e147_50, e147_51, e147_55, e147_56, e147_57, e147_60, e147_61, e147_64, e147_65, e147_68, e147_70, e147_73, e147_74, e147_77, e147_78, e147_81, e147_82, e147_84, e147_86, e147_89, e147_90, e147_92, e147_93, e147_96, e147_97, e147_98, e147_101, e147_104, e147_105, e147_107, e147_109, e147_112, e147_113, e147_114, e147_116, e147_117, e147_120, e147_123, e147_125, e147_128, e147_129, e147_131, e147_132, e147_134, e147_137, e147_138, e147_139, e147_140, e147_142, e147_143, e147_146, e147_148, e147_149, e147_152, e147_154, e147_157, e147_160, rk_n, rk_v, nl_n, nl_i, nl_r, cat_n, ip_cat_int, ip_cat_ref, ip_cat_long, ip_rf_some, Nat.reduceAdd, Nat.reduceLeDiff, Nat.reduceLT, Nat.le_refl, Nat.zero_le, hR, ia_lit, nu_i, nu_tn, lk, hk, g0, g1, nu_1, Bool.false_eq_true, Bool.true_eq_false, if_true, if_false, not_true_eq_false, not_false_eq_true, zle, eq_self]
  · rintro J0 ⟨⟨o0, H0⟩, e0⟩
    have q256 : ((256 : Int32) ≤ Int32.ofNat 256) = True := eq_true (by decide)
    generalize hJ1 : ip_up (ip_up (ip_up (ip_up J0 40 3 0) 40 4 0) 40 5 0) 40 6 0 = J1
    have o1 : onlyP at147 I J1 := by rw [← hJ1]; exact onlyP_up (onlyP_up (onlyP_up (onlyP_up o0 (by unfold at147; omega)) (by unfold at147; omega)) (by unfold at147; omega)) (by unfold at147; omega)
    have OH := c148 (d := d + 5) (n := n) (L := L) (nc := nc) (ns := ns) (nx := nx) hR hC (kS J1 R o1 (fun _ _ _ => rfl)) a2
    have head : rf (d + 6) 147 2 [some (.ref 40), some (.ref 24), some (.int (Int32.ofNat pg)), some (.int (Int32.ofNat 256)), none, none, none, none] [] (SH n, J0, L, R, nc, ns, nx) = rf (d + 6) 147 53 [some (.ref 40), some (.ref 24), some (.int (Int32.ofNat pg)), some (.int (Int32.ofNat (heardN c std rst br win V fl 1 ap))), some (.int (Int32.ofNat 0)), some (.int (Int32.ofNat 0)), none, none] [] (SH n, J1, L, R, nc, ns, nx) := by
      rw [e147_2]
      simp only [e147_3, e147_6, e147_22, e147_23, e147_24, e147_27, e147_28, e147_29, e147_32, e147_33, e147_34, e147_37, e147_38, e147_39, e147_42, e147_43, e147_46, e147_47, e147_48, e147_50, e147_51, rk_n, rk_v, nl_n, nl_i, nl_r, cat_n, ip_cat_int, ip_cat_ref, ip_cat_long, ip_rf_some, Nat.reduceAdd, Nat.reduceLeDiff, Nat.reduceLT, Nat.le_refl, Nat.zero_le, q256, hJ1, hC, OH, Bool.false_eq_true, Bool.true_eq_false, if_true, if_false, not_true_eq_false, not_false_eq_true, zle, eq_self]
      rfl
    have c0 : CAND c std rst br win V fl 1 ap pg 0 2 0 0 := (cand_0 (c := c) (std := std) (rst := rst) (br := br) (win := win) (V := V) (fl := fl) (lev := 1) (ap := ap) (pg := pg)).resolve_right (fun e => e (by rw [og0]; rfl))
    refine Exists.elim (sub_walk H8 (fun k t (x : (Option Value × Option Value) × Bool × (Nat → Nat → Option Nat) × (Nat → Nat → Int32)) => rf (d + 6) 147 53 [some (.ref 40), some (.ref 24), some (.int (Int32.ofNat pg)), some (.int (Int32.ofNat (heardN c std rst br win V fl 1 ap))), some (.int (Int32.ofNat t)), some (.int (Int32.ofNat k)), x.1.1, x.1.2] [] (SH n, x.2.2.2, L, x.2.2.1, nc, ns, x.2.1)) (fun t x => (ip_nl x.1.1 = true ∧ ip_nl x.1.2 = true) ∧ onlyP at147 I x.2.2.2 ∧ (∀ a k, ¬ (a = 41 ∧ k < 3) → x.2.2.1 a k = R a k) ∧ MBe c std rst br win V fl 1 ap pg x.2.2.2 ∧ ∃ g m f o, CST c std rst br win V fl 1 ap pg t x.2.2.2 g m f o) ?_ ?_ ((none, none), nx, R, J1) ?_) ?_
    · rintro k s ⟨⟨l6, l7⟩, nx', R', J⟩ hk hs8 hsH ⟨⟨n6, n7⟩, o2, hr, MB, g, m, f, o, CA, z0, fs, j6, j3, j4, j5, MIN⟩
      dsimp only at n6 n7 o2 hr MB j6 j3 j4 j5 ⊢
      have s2 := sub_lt2 hH hsH
      have hR' := kR R' hr
      have S' := kS J R' o2 hr
      have X' := kT J o2
      have N' := kN J o2
      obtain ⟨gb, mb, fb, ob⟩ := cand_b hc8 CA
      have lk : k < 2147483648 := by omega
      have lp : 2 ^ pop (heardN c std rst br win V fl 1 ap) < 2147483648 := by omega
      have g1 : ¬ 2 ^ pop (heardN c std rst br win V fl 1 ap) ≤ k := by omega
      have TD := c143 (d := d + 5) (n := n) (I := J) (L := L) (nc := nc) (ns := ns) (nx := nx') hC S'.1
      have PG := c131 (d := d + 4) (n := n) (L := L) (nc := nc) (ns := ns) (nx := nx') hR' hT X'.2.2.1 hc8 X'.2.2.2.2.1 hs8
      have lpg := pgC_le (c := c) (f := rst) hs8 (fun k hk => (X.2.2.2.2.1 k hk).2) c (by omega)
      have lpg2 : pgC s rst c < 2147483648 := by omega
      have gp : (Int32.ofNat pg < Int32.ofNat (pgC s rst c)) = (pg < pgC s rst c) := propext (nu_lt hp lpg2)
      have pe := pg_eq (f := rst) s2 hc8
      have OE := c109 (d := d + 5) (n := n) (L := L) (nc := nc) (ns := ns) (nx := nx') hR' hC S' a2
      have sE : s &&& errS c std rst br win V fl 1 ap < 2 ^ c := Nat.lt_of_le_of_lt Nat.and_le_left s2
      have OB := c111 (d := d + 3) (n := n) (nc := nc) (ns := ns) (nx := nx') hR' hC X' N' S' sE (o := 0) (Nat.two_pow_pos c)
      rw [Nat.or_zero, show Int32.ofNat 0 = 0 from rfl] at OB
      have oge : outE c std rst br win V fl 1 ap (s &&& errS c std rst br win V fl 1 ap) (s &&& errS c std rst br win V fl 1 ap) = ogI c std rst br win V fl 1 ap (s &&& errS c std rst br win V fl 1 ap) := rfl
      rw [oge] at OB
      have m1z : ((-1 : Int32) = 0) = False := eq_false (by decide)
      have tail : ∀ (l6 l7 : Option Value) (J' : Nat → Nat → Int32) (R'' : Nat → Nat → Option Nat) (nx'' : Bool), ip_nl l6 = true → ip_nl l7 = true → rf (d + 6) 147 146 [some (.ref 40), some (.ref 24), some (.int (Int32.ofNat pg)), some (.int (Int32.ofNat (heardN c std rst br win V fl 1 ap))), some (.int (Int32.ofNat s)), some (.int (Int32.ofNat k)), l6, l7] [] (SH n, J', L, R'', nc, ns, nx'') = rf (d + 6) 147 53 [some (.ref 40), some (.ref 24), some (.int (Int32.ofNat pg)), some (.int (Int32.ofNat (heardN c std rst br win V fl 1 ap))), some (.int (Int32.ofNat (nxs (heardN c std rst br win V fl 1 ap) s))), some (.int (Int32.ofNat (k + 1))), l6, l7] [] (SH n, J', L, R'', nc, ns, nx'') := by
        intro l6 l7 J' R'' nx'' h6 h7
        simp only [e147_146, e147_148, e147_149, e147_152, e147_154, e147_157, rk_n, rk_v, nl_n, nl_i, nl_r, cat_n, ip_cat_int, ip_cat_ref, ip_cat_long, ip_rf_some, Nat.reduceAdd, Nat.reduceLeDiff, Nat.reduceLT, Nat.le_refl, Nat.zero_le, c20s H8 hs8, h6, h7, nu_1, Bool.false_eq_true, Bool.true_eq_false, if_true, if_false, not_true_eq_false, not_false_eq_true, zle, eq_self]
      by_cases q1 : pg < pgC s rst c
      · refine ⟨((some (.int 0), some (.int (-1))), nx', R', J), ⟨⟨nl_i, nl_i⟩, o2, hr, MB, g, m, f, o, CA, z0, by omega, j6, j3, j4, j5, ?_⟩, ?_⟩
        · intro g' m' f' o' h1 h2 h3
          by_cases e : f' = s
          · subst e; have := h1.1.2; omega
          · exact MIN g' m' f' o' h1 (by omega) h3
        · rw [← tail _ _ _ _ _ nl_i nl_i, e147_53]
          simp only [e147_0, e147_1, e147_3, e147_6, e147_9, e147_10, e147_13, e147_14, e147_15, e147_16, e147_19, e147_22, e147_23, e147_24, e147_27, e147_28, e147_29, e147_32, e147_33, e147_34, e147_37, e147_38, e147_39, e147_42, e147_43, e147_46, e147_47, e147_48, e147_50, e147_51, e147_55, e147_56, e147_57, e147_60, e147_61, e147_64, e147_65, e147_68, e147_70, e147_73, e147_74, e147_77, e147_78, e147_81, e147_82, e147_84, e147_86, e147_89, e147_90, e147_92, e147_93, e147_96, e147_97, e147_98, e147_101, e147_104, e147_105, e147_107, e147_109, e147_112, e147_113, e147_114, e147_116, e147_117, e147_120, e147_123, e147_125, e147_128, e147_129, e147_131, e147_132, e147_134, e147_137, e147_138, e147_139, e147_140, e147_142, e147_143, e147_146, e147_148, e147_149, e147_152, e147_154, e147_157, e147_160, rk_n, rk_v, nl_n, nl_i, nl_r, cat_n, ip_cat_int, ip_cat_ref, ip_cat_long, ip_rf_some, Nat.reduceAdd, Nat.reduceLeDiff, Nat.reduceLT, Nat.le_refl, Nat.zero_le, hC, hT, TD, c19s H8, P2, nu_ge, lk, lp, g1, PG, gp, q1, m1z, n6, Bool.false_eq_true, Bool.true_eq_false, if_true, if_false, not_true_eq_false, not_false_eq_true, zle, eq_self]
      · have q1' : pgM s rst c ≤ pg := by omega
        have front : rf (d + 6) 147 53 [some (.ref 40), some (.ref 24), some (.int (Int32.ofNat pg)), some (.int (Int32.ofNat (heardN c std rst br win V fl 1 ap))), some (.int (Int32.ofNat s)), some (.int (Int32.ofNat k)), l6, l7] [] (SH n, J, L, R', nc, ns, nx') = rf (d + 6) 147 107 [some (.ref 40), some (.ref 24), some (.int (Int32.ofNat pg)), some (.int (Int32.ofNat (heardN c std rst br win V fl 1 ap))), some (.int (Int32.ofNat s)), some (.int (Int32.ofNat k)), some (.int 1), some (.int (ogI c std rst br win V fl 1 ap (s &&& errS c std rst br win V fl 1 ap)))] [] (SH n, J, L, R', nc, ns, nx') := by
          rw [e147_53]
          simp only [e147_55, e147_56, e147_57, e147_60, e147_61, e147_64, e147_65, e147_68, e147_70, e147_73, e147_74, e147_77, e147_78, e147_82, e147_84, e147_86, e147_89, e147_90, e147_92, e147_93, e147_96, e147_97, e147_98, e147_101, e147_105, rk_n, rk_v, nl_n, nl_i, nl_r, cat_n, ip_cat_int, ip_cat_ref, ip_cat_long, ip_rf_some, Nat.reduceAdd, Nat.reduceLeDiff, Nat.reduceLT, Nat.le_refl, Nat.zero_le, hC, hT, TD, c19s H8, P2, nu_ge, lk, lp, g1, PG, gp, q1, OE, of_and, OB, n6, Bool.false_eq_true, Bool.true_eq_false, if_true, if_false, not_true_eq_false, not_false_eq_true, zle, eq_self]
        by_cases q2 : ogI c std rst br win V fl 1 ap (s &&& errS c std rst br win V fl 1 ap) = 0
        · have lR : Rk g m < 2147483648 := by unfold Rk; omega
          obtain ⟨J', B, TS, p1, MB', BB, UP, KP⟩ := c149 (d := d) (n := n) (nc := nc) (ns := ns) (nx := nx') hR' X' hT9 N' hF hB S' a2 hVc s2 q2 hSu hp MB j6 j4 lR fb
          have o3 := onlyP_tr o2 p1
          have B2 := sub_lt2 E2_lt BB.1.1
          have rB := rkN_le (ogI c std rst br win V fl 1 ap B)
          have BC : CAND c std rst br win V fl 1 ap pg (rkN (ogI c std rst br win V fl 1 ap B)) 2 s B := ⟨⟨s2, q1'⟩, Or.inr ⟨rfl, og_0.mp q2, ⟨B2, by rw [← pg_eq B2 hc8]; exact BB.1.2⟩, by rw [BB.1.1]⟩⟩
          -- all chains over s
          have ALL : ∀ g' m' o', CAND c std rst br win V fl 1 ap pg g' m' s o' → cle (Rk (rkN (ogI c std rst br win V fl 1 ap B)) 2) (kf s) (kf B) (Rk g' m') (kf s) (kf o') := by
            intro g' m' o' hc
            obtain ⟨-, ⟨h3, h4, h5, h6⟩ | ⟨h3, h4, ⟨h5, h6⟩, h7⟩⟩ := hc
            · rw [q2] at h4
              have : rkN (0 : Int32) = 0 := by decide
              omega
            · have oE : o' &&& E2 c std rst br win V fl 1 ap s < 256 := Nat.lt_of_le_of_lt Nat.and_le_left (by omega)
              have v1 := BB.2.2 (o' &&& E2 c std rst br win V fl 1 ap s) oE ⟨by rw [Nat.and_assoc, Nat.and_self], by
                have : o' &&& E2 c std rst br win V fl 1 ap s < 2 ^ c := Nat.lt_of_le_of_lt Nat.and_le_left h5
                rw [pg_eq this hc8]
                exact Nat.le_trans (pgM_and c) h6⟩
              rw [val_kf, val_kf] at v1
              try dsimp only at v1
              rw [← h7] at v1
              have k1 := kf_and o' (E2 c std rst br win V fl 1 ap s)
              have k2 := kf_lt BB.2.1
              have k3 := kf_lt oE
              have g2 : g' ≤ 2 := by rw [h7]; exact rkN_le _
              subst h3
              unfold cle Rk
              omega
          have step : rf (d + 6) 147 53 [some (.ref 40), some (.ref 24), some (.int (Int32.ofNat pg)), some (.int (Int32.ofNat (heardN c std rst br win V fl 1 ap))), some (.int (Int32.ofNat s)), some (.int (Int32.ofNat k)), l6, l7] [] (SH n, J, L, R', nc, ns, nx') = rf (d + 6) 147 53 [some (.ref 40), some (.ref 24), some (.int (Int32.ofNat pg)), some (.int (Int32.ofNat (heardN c std rst br win V fl 1 ap))), some (.int (Int32.ofNat (nxs (heardN c std rst br win V fl 1 ap) s))), some (.int (Int32.ofNat (k + 1))), some (.int 1), some (.int (ogI c std rst br win V fl 1 ap (s &&& errS c std rst br win V fl 1 ap)))] [] (SH n, J', L, sitR R' 41 T 57 F, nc, ns, true) := by
            rw [front, ← tail _ _ _ _ _ nl_i nl_i]
            simp only [e147_107, e147_109, e147_112, e147_113, e147_114, e147_116, e147_117, e147_120, rk_n, rk_v, nl_n, nl_i, nl_r, cat_n, ip_cat_int, ip_cat_ref, ip_cat_long, ip_rf_some, Nat.reduceAdd, Nat.reduceLeDiff, Nat.reduceLT, Nat.le_refl, Nat.zero_le, q2, TS, Bool.false_eq_true, Bool.true_eq_false, if_true, if_false, not_true_eq_false, not_false_eq_true, zle, eq_self]
          have hr' : ∀ a k, ¬ (a = 41 ∧ k < 3) → sitR R' 41 T 57 F a k = R a k := fun a k h => (sitR_on (Or.inr rfl) a k h).trans (hr a k h)
          by_cases up : Rk g m < 2 * rkN (ogI c std rst br win V fl 1 ap B) ∨ (2 * rkN (ogI c std rst br win V fl 1 ap B) = Rk g m ∧ 0 < 2 * rkN (ogI c std rst br win V fl 1 ap B) ∧ smN s f = true)
          · obtain ⟨u6, u3, u4, u5⟩ := UP up
            refine ⟨((some (.int 1), some (.int (ogI c std rst br win V fl 1 ap (s &&& errS c std rst br win V fl 1 ap)))), true, sitR R' 41 T 57 F, J'), ⟨⟨nl_i, nl_i⟩, o3, hr', MB', rkN (ogI c std rst br win V fl 1 ap B), 2, s, B, BC, by omega, Or.inl (by omega), u6, u3.trans og_hw, u4, u5, ?_⟩, step⟩
            intro g' m' f' o' h1 h2 h3
            by_cases e : f' = s
            · subst e; exact ALL g' m' o' h1
            · have := MIN g' m' f' o' h1 (by omega) h3
              rw [smN_kf hs8 fb] at up
              unfold cle at this ⊢
              have r2 : Rk (rkN (ogI c std rst br win V fl 1 ap B)) 2 = 2 * rkN (ogI c std rst br win V fl 1 ap B) := by unfold Rk; omega
              rw [r2]
              omega
          · obtain ⟨u6, u3, u4, u5⟩ := KP up
            refine ⟨((some (.int 1), some (.int (ogI c std rst br win V fl 1 ap (s &&& errS c std rst br win V fl 1 ap)))), true, sitR R' 41 T 57 F, J'), ⟨⟨nl_i, nl_i⟩, o3, hr', MB', g, m, f, o, CA, z0, by omega, u6.trans j6, u3.trans j3, u4.trans j4, u5.trans j5, ?_⟩, step⟩
            intro g' m' f' o' h1 h2 h3
            by_cases e : f' = s
            · subst e
              have a1 := ALL g' m' o' h1
              rw [smN_kf hs8 fb] at up
              have r2 : Rk (rkN (ogI c std rst br win V fl 1 ap B)) 2 = 2 * rkN (ogI c std rst br win V fl 1 ap B) := by unfold Rk; omega
              rw [r2] at a1
              have ki : kf f = kf f' → f = f' := kf_inj fb hs8
              have z1 := kf_0
              have zk : g = 0 → kf f = 0 ∧ kf o = 0 := fun e => by obtain ⟨e1, e2⟩ := z0 e; rw [e1, e2]; exact ⟨z1, z1⟩
              have gR : Rk g m = 0 → g = 0 := by unfold Rk; omega
              unfold cle at a1 ⊢
              omega
            · exact MIN g' m' f' o' h1 (by omega) h3
        · -- one appeal is enough
          have rs := rkN_le (ogI c std rst br win V fl 1 ap (s &&& errS c std rst br win V fl 1 ap))
          have r0 : 0 < rkN (ogI c std rst br win V fl 1 ap (s &&& errS c std rst br win V fl 1 ap)) := Nat.pos_of_ne_zero (fun e => q2 (og_0.mpr e))
          have lR : Rk g m < 2147483648 := by unfold Rk; omega
          have TK := c152 (d := d + 3) (n := n) (I := J) (L := L) (R := R') (nc := nc) (ns := ns) (nx := nx') (hi := Rk g m) (f0 := f) (m := 2 * rkN (ogI c std rst br win V fl 1 ap (s &&& errS c std rst br win V fl 1 ap)) + 1) (s := s) (came := ogI c std rst br win V fl 1 ap (s &&& errS c std rst br win V fl 1 ap)) (beh := -1) j6 j4 lR fb (by omega) hs8
          have BC : CAND c std rst br win V fl 1 ap pg (rkN (ogI c std rst br win V fl 1 ap (s &&& errS c std rst br win V fl 1 ap))) 1 s 0 := ⟨⟨s2, q1'⟩, Or.inl ⟨rfl, rfl, r0, rfl⟩⟩
          have ALL : ∀ g' m' o', CAND c std rst br win V fl 1 ap pg g' m' s o' → g' = rkN (ogI c std rst br win V fl 1 ap (s &&& errS c std rst br win V fl 1 ap)) ∧ m' = 1 ∧ o' = 0 := by
            intro g' m' o' hc
            obtain ⟨-, ⟨h3, h4, h5, h6⟩ | ⟨h3, h4, ⟨h5, h6⟩, h7⟩⟩ := hc
            · exact ⟨h4, h3, h6⟩
            · omega
          have mul2 : (2 : Int32) * Int32.ofNat (rkN (ogI c std rst br win V fl 1 ap (s &&& errS c std rst br win V fl 1 ap))) = Int32.ofNat (2 * rkN (ogI c std rst br win V fl 1 ap (s &&& errS c std rst br win V fl 1 ap))) := mu2
          have step : rf (d + 6) 147 53 [some (.ref 40), some (.ref 24), some (.int (Int32.ofNat pg)), some (.int (Int32.ofNat (heardN c std rst br win V fl 1 ap))), some (.int (Int32.ofNat s)), some (.int (Int32.ofNat k)), l6, l7] [] (SH n, J, L, R', nc, ns, nx') = rf (d + 6) 147 53 [some (.ref 40), some (.ref 24), some (.int (Int32.ofNat pg)), some (.int (Int32.ofNat (heardN c std rst br win V fl 1 ap))), some (.int (Int32.ofNat (nxs (heardN c std rst br win V fl 1 ap) s))), some (.int (Int32.ofNat (k + 1))), some (.int 1), some (.int (ogI c std rst br win V fl 1 ap (s &&& errS c std rst br win V fl 1 ap)))] [] (SH n, (if Rk g m < 2 * rkN (ogI c std rst br win V fl 1 ap (s &&& errS c std rst br win V fl 1 ap)) + 1 ∨ (2 * rkN (ogI c std rst br win V fl 1 ap (s &&& errS c std rst br win V fl 1 ap)) + 1 = Rk g m ∧ 0 < 2 * rkN (ogI c std rst br win V fl 1 ap (s &&& errS c std rst br win V fl 1 ap)) + 1 ∧ smN s f = true) then ip_up (ip_up (ip_up (ip_up J 40 6 (Int32.ofNat (2 * rkN (ogI c std rst br win V fl 1 ap (s &&& errS c std rst br win V fl 1 ap)) + 1))) 40 3 (ogI c std rst br win V fl 1 ap (s &&& errS c std rst br win V fl 1 ap))) 40 4 (Int32.ofNat s)) 40 5 (-1) else J), L, R', nc, ns, nx') := by
            rw [front, ← tail _ _ _ _ _ nl_i nl_i]
            simp only [e147_107, e147_109, e147_123, e147_125, e147_128, e147_129, e147_131, e147_132, e147_134, e147_137, e147_138, e147_139, e147_140, e147_142, e147_143, rk_n, rk_v, nl_n, nl_i, nl_r, cat_n, ip_cat_int, ip_cat_ref, ip_cat_long, ip_rf_some, Nat.reduceAdd, Nat.reduceLeDiff, Nat.reduceLT, Nat.le_refl, Nat.zero_le, q2, c132n, mul2, nu_1, TK, Bool.false_eq_true, Bool.true_eq_false, if_true, if_false, not_true_eq_false, not_false_eq_true, zle, eq_self]
          have r1 : Rk (rkN (ogI c std rst br win V fl 1 ap (s &&& errS c std rst br win V fl 1 ap))) 1 = 2 * rkN (ogI c std rst br win V fl 1 ap (s &&& errS c std rst br win V fl 1 ap)) + 1 := by unfold Rk; omega
          by_cases up : Rk g m < 2 * rkN (ogI c std rst br win V fl 1 ap (s &&& errS c std rst br win V fl 1 ap)) + 1 ∨ (2 * rkN (ogI c std rst br win V fl 1 ap (s &&& errS c std rst br win V fl 1 ap)) + 1 = Rk g m ∧ 0 < 2 * rkN (ogI c std rst br win V fl 1 ap (s &&& errS c std rst br win V fl 1 ap)) + 1 ∧ smN s f = true)
          · rw [if_pos up] at step
            refine ⟨((some (.int 1), some (.int (ogI c std rst br win V fl 1 ap (s &&& errS c std rst br win V fl 1 ap)))), nx', R', ip_up (ip_up (ip_up (ip_up J 40 6 (Int32.ofNat (2 * rkN (ogI c std rst br win V fl 1 ap (s &&& errS c std rst br win V fl 1 ap)) + 1))) 40 3 (ogI c std rst br win V fl 1 ap (s &&& errS c std rst br win V fl 1 ap))) 40 4 (Int32.ofNat s)) 40 5 (-1)), ⟨⟨nl_i, nl_i⟩, ?_, hr, ?_, rkN (ogI c std rst br win V fl 1 ap (s &&& errS c std rst br win V fl 1 ap)), 1, s, 0, BC, by omega, Or.inl (by omega), ?_, ?_, ?_, ?_, ?_⟩, step⟩
            · exact onlyP_up (onlyP_up (onlyP_up (onlyP_up o2 (by unfold at147; omega)) (by unfold at147; omega)) (by unfold at147; omega)) (by unfold at147; omega)
            · intro e he
              have ne : ¬ (62 : Nat) = 40 := by decide
              dsimp only
              rw [up_a ne, up_a ne, up_a ne, up_a ne]
              exact MB e he
            · dsimp only; rw [up_k (by decide), up_k (by decide), up_k (by decide), up_eq, r1]
            · dsimp only; rw [up_k (by decide), up_k (by decide), up_eq]; exact og_hw
            · dsimp only; rw [up_k (by decide), up_eq]
            · dsimp only; rw [up_eq]; rfl
            · intro g' m' f' o' h1 h2 h3
              by_cases e : f' = s
              · subst e
                obtain ⟨e1, e2, e3⟩ := ALL g' m' o' h1
                subst e1; subst e2; subst e3
                unfold cle
                omega
              · have := MIN g' m' f' o' h1 (by omega) h3
                rw [smN_kf hs8 fb] at up
                rw [r1]
                unfold cle at this ⊢
                omega
          · rw [if_neg up] at step
            refine ⟨((some (.int 1), some (.int (ogI c std rst br win V fl 1 ap (s &&& errS c std rst br win V fl 1 ap)))), nx', R', J), ⟨⟨nl_i, nl_i⟩, o2, hr, MB, g, m, f, o, CA, z0, by omega, j6, j3, j4, j5, ?_⟩, step⟩
            intro g' m' f' o' h1 h2 h3
            by_cases e : f' = s
            · subst e
              obtain ⟨e1, e2, e3⟩ := ALL g' m' o' h1
              subst e1; subst e2; subst e3
              rw [smN_kf hs8 fb] at up
              rw [r1]
              have k0 := kf_0
              have om : Rk g m = 2 * rkN (ogI c std rst br win V fl 1 ap (f' &&& errS c std rst br win V fl 1 ap)) + 1 → kf o = 0 := by
                intro e
                obtain ⟨-, ⟨h3, h4, h5, h6⟩ | ⟨h3, h4, ⟨h5, h6⟩, h7⟩⟩ := CA
                · rw [h6]; exact k0
                · unfold Rk at e; omega
              unfold cle
              omega
            · exact MIN g' m' f' o' h1 (by omega) h3
    · rintro s ⟨⟨l6, l7⟩, nx', R', J⟩ hs8 hsH ⟨⟨n6, n7⟩, o2, hr, MB, g, m, f, o, CA, z0, fs, j6, j3, j4, j5, MIN⟩
      refine ⟨⟨n6, n7⟩, o2, hr, MB, g, m, f, o, CA, z0, by omega, j6, j3, j4, j5, ?_⟩
      intro g' m' f' o' h1 h2 h3
      by_cases e : f' = s
      · subst e; exact absurd h3 hsH
      · exact MIN g' m' f' o' h1 (by omega) h3
    · refine ⟨⟨nl_n, nl_n⟩, o1, fun _ _ _ => rfl, ?_, 0, 2, 0, 0, c0, fun _ => ⟨rfl, rfl⟩, Or.inr rfl, ?_, ?_, ?_, ?_, fun g' m' f' o' h1 h2 => by omega⟩
      · intro e he
        left
        have ne : ¬ (62 : Nat) = 40 := by decide
        show J1 62 e = -1
        rw [← hJ1, up_a ne, up_a ne, up_a ne, up_a ne]
        exact H0 e he
      · show J1 40 6 = _
        rw [← hJ1, up_eq]; rfl
      · show J1 40 3 = _
        rw [← hJ1, up_k (by decide), up_k (by decide), up_k (by decide), up_eq]; rfl
      · show J1 40 4 = _
        rw [← hJ1, up_k (by decide), up_k (by decide), up_eq]; rfl
      · show J1 40 5 = _
        rw [← hJ1, up_k (by decide), up_eq]; rfl
    · rintro t ⟨⟨⟨l6, l7⟩, nx', R', J⟩, ⟨⟨n6, n7⟩, o2, hr, MB, g, m, f, o, CA, z0, fs, j6, j3, j4, j5, MIN⟩, e1⟩
      refine ⟨J, R', nx', g, m, f, o, ?_, o2, hr, ⟨CA, ?_⟩, j3, j4, j5⟩
      · refine Eq.trans (Eq.trans e0 (Eq.trans head e1)) ?_
        rw [e147_53]
        simp only [e147_0, e147_1, e147_3, e147_6, e147_9, e147_10, e147_13, e147_14, e147_15, e147_16, e147_19, e147_22, e147_23, e147_24, e147_27, e147_28, e147_29, e147_32, e147_33, e147_34, e147_37, e147_38, e147_39, e147_42, e147_43, e147_46, e147_47, e147_48, e147_50, e147_51, e147_55, e147_56, e147_57, e147_60, e147_61, e147_64, e147_65, e147_68, e147_70, e147_73, e147_74, e147_77, e147_78, e147_81, e147_82, e147_84, e147_86, e147_89, e147_90, e147_92, e147_93, e147_96, e147_97, e147_98, e147_101, e147_104, e147_105, e147_107, e147_109, e147_112, e147_113, e147_114, e147_116, e147_117, e147_120, e147_123, e147_125, e147_128, e147_129, e147_131, e147_132, e147_134, e147_137, e147_138, e147_139, e147_140, e147_142, e147_143, e147_146, e147_148, e147_149, e147_152, e147_154, e147_157, e147_160, rk_n, rk_v, nl_n, nl_i, nl_r, cat_n, ip_cat_int, ip_cat_ref, ip_cat_long, ip_rf_some, Nat.reduceAdd, Nat.reduceLeDiff, Nat.reduceLT, Nat.le_refl, Nat.zero_le, c19s H8, P2, Int32.le_refl, Bool.false_eq_true, Bool.true_eq_false, if_true, if_false, not_true_eq_false, not_false_eq_true, zle, eq_self]
      · intro g' m' f' o' h1
        obtain ⟨b1, b2, b3, b4⟩ := cand_b hc8 h1
        have h2 := cand_and a2 rfl hc8 h1
        have h3 := MIN _ _ _ _ h2 (by have := cand_b hc8 h2; omega) (by rw [Nat.and_assoc, Nat.and_self])
        have k1 := kf_and f' (heardN c std rst br win V fl 1 ap)
        unfold cle at h3 ⊢
        omega
end CK
