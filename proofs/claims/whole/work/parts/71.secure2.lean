/-! SECURED: the class, over its own sets -/
section SG
variable {n d a b T c s t z o w m p lev k side ap b0 b1 h0 h1 md C F B pg po : Nat} {I J K : Nat → Nat → Int32} {L : Nat → Nat → Int64} {R : Nat → Nat → Option Nat} {nc ns : Nat} {nx : Bool} {x y j v lv hw0 : Int32} {h : ip_H} {f g std rst V : Nat → Nat} {win : Nat → Bool} {br fl : Nat → Int32}
/-- the answer as a function -/
noncomputable def ansN (c : Nat) (std rst : Nat → Nat) (br : Nat → Int32) (win : Nat → Bool) (V : Nat → Nat) (fl : Nat → Int32) (lev ap pg s : Nat) : Nat := Classical.choose (ans_ex (c := c) (std := std) (rst := rst) (br := br) (win := win) (V := V) (fl := fl) (lev := lev) (ap := ap) (pg := pg) (s := s))
theorem ansN_ok : isAns c std rst br win V fl lev ap pg s (ansN c std rst br win V fl lev ap pg s) := Classical.choose_spec ans_ex
theorem ansN_eq {f : Nat} (h : isAns c std rst br win V fl lev ap pg s f) : f = ansN c std rst br win V fl lev ap pg s := worst_uniq h ansN_ok
noncomputable def wrk (c : Nat) (std rst : Nat → Nat) (br : Nat → Int32) (win : Nat → Bool) (V : Nat → Nat) (fl : Nat → Int32) (lev ap pg s : Nat) : Nat := r2N c std rst br win V fl lev ap s (ansN c std rst br win V fl lev ap pg s)
theorem wrk_le : wrk c std rst br win V fl lev ap pg s ≤ 2 := rkN_le _
/-- how, with affirmed of whatever sort as 0 -/
def hwI (x : Int32) : Int32 := if x = 1 then 0 else x
theorem hwI_rk (x : Int32) (h : x = 0 ∨ x = 1 ∨ x = 2 ∨ x = 3) : hwI x = (if rkN x = 2 then 2 else if rkN x = 1 then 3 else 0) := by
  rcases h with rfl | rfl | rfl | rfl <;> decide
theorem outE_4 {e1 e2 : Nat} : outE c std rst br win V fl lev ap e1 e2 = 0 ∨ outE c std rst br win V fl lev ap e1 e2 = 1 ∨ outE c std rst br win V fl lev ap e1 e2 = 2 ∨ outE c std rst br win V fl lev ap e1 e2 = 3 := by
  unfold outE
  split
  · exact Or.inl rfl
  · split
    · exact Or.inr (Or.inl rfl)
    · split
      · exact Or.inr (Or.inr (Or.inr rfl))
      · exact Or.inr (Or.inr (Or.inl rfl))
def at36 (a k : Nat) : Prop := a = 40 ∧ 3 ≤ k ∧ k ≤ 8
theorem c142 (hR : LYR R) (hC : isC C) (X : CTx T c std rst br win I L) (N : CNd F B c lev V fl I) (S : SIT C T F B c std rst br win V fl lev ap I R) (a2 : ap < 2) (hp : pg < 2147483648) (hq : po < 2147483648) :
    ∃ J f, cf (d + 4) 142 [.ref 40, .ref C, .int (Int32.ofNat po), .int (Int32.ofNat pg)] (SH n, I, L, R, nc, ns, nx) = some (.inl none, (SH n, J, L, R, nc, ns, nx)) ∧ onlyP at40 I J ∧ J 40 4 = Int32.ofNat f ∧ J 40 5 = Int32.ofNat (ansN c std rst br win V fl lev ap pg f) ∧ J 40 3 = (if wrk c std rst br win V fl lev ap pg f = 2 then 2 else if wrk c std rst br win V fl lev ap pg f = 1 then 3 else 0) ∧ isBest (fun s => wrk c std rst br win V fl lev ap pg s) (fun s => s &&& errS c std rst br win V fl lev ap = s ∧ pgC s rst c ≤ po) f := by
  have hc8 := X.2.1
  have hT := X.1
  have nF := N.1
  have nB := N.2.1
  have hE : errS c std rst br win V fl lev ap < 2 ^ c := errS_lt
  have E8 : errS c std rst br win V fl lev ap < 256 := Nat.lt_of_lt_of_le hE (p2le hc8)
  have r0 := S.1
  have kT : ∀ J, onlyP at40 I J → CTx T c std rst br win J L := fun J o => CTx_P o (T40 hT) X
  have kN : ∀ J, onlyP at40 I J → CNd F B c lev V fl J := fun J o => CNd_P o (fun i hi => N40 nF i (by omega)) (N40 nB 0 (by omega) 7) N
  have kS : ∀ J, onlyP at40 I J → SIT C T F B c std rst br win V fl lev ap J R := fun J o => SIT_P o (fun k => C40 hC 0 (by omega) k (by omega)) (fun k => C40 hC 13 (by omega) k (by omega)) (fun k => C40 hC 14 (by omega) k (by omega)) S
  have OE := c109 (d := d + 3) (n := n) (L := L) (nc := nc) (ns := ns) (nx := nx) hR hC S a2
  have P2 := pow_pop E8
  have P3 := pow_pop_le E8
  generalize hEE : errS c std rst br win V fl lev ap = E at *
  simp only [en142, e142_0, e142_1, e142_4, e142_6, e142_7, e142_8, e142_11, e142_12, e142_14, e142_15, e142_19, e142_20, e142_22, e142_25, e142_26, e142_29, e142_30, e142_33, e142_35, e142_38, e142_39, e142_42, e142_43, e142_44, e142_46, e142_47, e142_50, e142_51, e142_54, e142_57, e142_59, e142_61, e142_62, e142_65, e142_68, e142_70, e142_71, e142_74, e142_77, e142_79, e142_80, e142_83, e142_86, e142_89, e142_90, e142_92, e142_95, e142_96, e142_98, e142_101, e142_102, e142_103, e142_106, e142_109, e142_110, e142_111, e142_114, e142_115, e142_118, e142_119, e142_122, e142_123, e142_126, e142_129, e142_131, e142_133, e142_136, e142_138, e142_141, e142_144, rk_n, rk_v, nl_n, nl_i, nl_r, cat_n, ip_cat_int, ip_cat_ref, ip_cat_long, ip_rf_some, Nat.reduceAdd, Nat.reduceLeDiff, Nat.reduceLT, Nat.le_refl, Nat.zero_le, hC, OE]
  refine Exists.elim (sub_walk E8 (fun k t (x : Nat × Option Value × (Nat → Nat → Int32)) => rf (d + 4) 142 17 [some (.ref 40), some (.ref C), some (.int (Int32.ofNat po)), some (.int (Int32.ofNat pg)), some (.int (Int32.ofNat E)), some (.int (Int32.ofNat t)), some (.int (Int32.ofNat k)), x.2.1] [] (SH n, x.2.2, L, R, nc, ns, nx)) (fun t x => onlyP at40 I x.2.2 ∧ ((t = 0 ∧ x.2.2 40 6 = -1) ∨ (0 < t ∧ x.2.2 40 4 = Int32.ofNat x.1 ∧ x.2.2 40 5 = Int32.ofNat (ansN c std rst br win V fl lev ap pg x.1) ∧ x.2.2 40 3 = (if wrk c std rst br win V fl lev ap pg x.1 = 2 then 2 else if wrk c std rst br win V fl lev ap pg x.1 = 1 then 3 else 0) ∧ x.2.2 40 6 = Int32.ofNat (wrk c std rst br win V fl lev ap pg x.1) ∧ (x.1 &&& E = x.1 ∧ pgC x.1 rst c ≤ po) ∧ x.1 < 256 ∧ ∀ u, u < t → u &&& E = u ∧ pgC u rst c ≤ po → val (fun s => wrk c std rst br win V fl lev ap pg s) x.1 ≤ val (fun s => wrk c std rst br win V fl lev ap pg s) u))) ?_ ?_ (0, none, ip_up I 40 6 (-1)) ?_) ?_
  · rintro k t ⟨f, l7, J⟩ hk ht htE ⟨o, H⟩
    dsimp only at o H ⊢
    have X1 := kT J o
    have t2 := sub_lt2 hE htE
    have lk : k < 2147483648 := by omega
    have lp : 2 ^ pop E < 2147483648 := by omega
    have g1 : ¬ 2 ^ pop E ≤ k := by omega
    have PG := c131 (d := d + 2) (n := n) (L := L) (nc := nc) (ns := ns) (nx := nx) hR hT X1.2.2.1 hc8 X1.2.2.2.2.1 ht
    have lpg := pgC_le (c := c) (f := rst) ht (fun k hk => (X.2.2.2.2.1 k hk).2) c (by omega)
    have lpg2 : pgC t rst c < 2147483648 := by omega
    have gp : (Int32.ofNat po < Int32.ofNat (pgC t rst c)) = (po < pgC t rst c) := propext (nu_lt hq lpg2)
    have TD := c143 (d := d + 3) (n := n) (I := J) (L := L) (nc := nc) (ns := ns) (nx := nx) hC r0
    obtain ⟨J1, g, A1, o1, y7, y8, hA⟩ := c144 (d := d) (n := n) (nc := nc) (ns := ns) (nx := nx) hR hC X1 (kN J o) (kS J o) a2 t2 hp
    have eg := ansN_eq hA
    subst eg
    have o2 : onlyP at40 I J1 := onlyP_tr o (onlyP_mono o1 (fun a k e => ⟨e.1, by omega⟩))
    have kk : ∀ i, ¬ i = 7 → ¬ i = 8 → J1 40 i = J 40 i := fun i h7 h8 => o1 40 i (fun e => by rcases e.2 with e | e <;> omega)
    have wl : wrk c std rst br win V fl lev ap pg t ≤ 2 := wrk_le
    have rk : rkN (outE c std rst br win V fl lev ap t (t ||| ansN c std rst br win V fl lev ap pg t)) = wrk c std rst br win V fl lev ap pg t := rfl
    have hwE : hwI (outE c std rst br win V fl lev ap t (t ||| ansN c std rst br win V fl lev ap pg t)) = (if wrk c std rst br win V fl lev ap pg t = 2 then 2 else if wrk c std rst br win V fl lev ap pg t = 1 then 3 else 0) := hwI_rk _ outE_4
    -- what is taken
    have TAKE : ∃ M, onlyP at40 I M ∧ M 40 4 = Int32.ofNat t ∧ M 40 5 = Int32.ofNat (ansN c std rst br win V fl lev ap pg t) ∧ M 40 3 = (if wrk c std rst br win V fl lev ap pg t = 2 then 2 else if wrk c std rst br win V fl lev ap pg t = 1 then 3 else 0) ∧ M 40 6 = Int32.ofNat (wrk c std rst br win V fl lev ap pg t) ∧ M = ip_up (ip_up (ip_up (ip_up J1 40 6 (Int32.ofNat (wrk c std rst br win V fl lev ap pg t))) 40 4 (Int32.ofNat t)) 40 5 (Int32.ofNat (ansN c std rst br win V fl lev ap pg t))) 40 3 (hwI (outE c std rst br win V fl lev ap t (t ||| ansN c std rst br win V fl lev ap pg t))) := by
      refine ⟨_, ?_, ?_, ?_, ?_, ?_, rfl⟩
      · exact onlyP_up (onlyP_up (onlyP_up (onlyP_up o2 ⟨rfl, by omega⟩) ⟨rfl, by omega⟩) ⟨rfl, by omega⟩) ⟨rfl, by omega⟩
      · rw [up_k (by decide), up_k (by decide), up_eq]
      · rw [up_k (by decide), up_eq]
      · rw [up_eq, hwE]
      · rw [up_k (by decide), up_k (by decide), up_k (by decide), up_eq]
    obtain ⟨M, m1, m4, m5, m3, m6, mE⟩ := TAKE
    have hw1 : ∀ u : Int32, (if u = 1 then (0 : Int32) else u) = hwI u := fun u => rfl
    by_cases q1 : po < pgC t rst c
    · refine ⟨(f, l7, J), ⟨o, Or.inr ?_⟩, ?_⟩
      · rcases H with ⟨h1, h2⟩ | ⟨h1, h4, h5, h3, h6, b1, b2, b3⟩
        · subst h1
          rw [pgC_0] at q1
          omega
        · refine ⟨by omega, h4, h5, h3, h6, b1, b2, ?_⟩
          intro u hu hB
          by_cases e : u = t
          · subst e; omega
          · exact b3 u (by omega) hB
      · rw [e142_17]
        simp only [e142_0, e142_1, e142_4, e142_6, e142_7, e142_8, e142_11, e142_12, e142_14, e142_15, e142_19, e142_20, e142_22, e142_25, e142_26, e142_29, e142_30, e142_33, e142_35, e142_38, e142_39, e142_42, e142_43, e142_44, e142_46, e142_47, e142_50, e142_51, e142_54, e142_57, e142_59, e142_61, e142_62, e142_65, e142_68, e142_70, e142_71, e142_74, e142_77, e142_79, e142_80, e142_83, e142_86, e142_89, e142_90, e142_92, e142_95, e142_96, e142_98, e142_101, e142_102, e142_103, e142_106, e142_109, e142_110, e142_111, e142_114, e142_115, e142_118, e142_119, e142_122, e142_123, e142_126, e142_129, e142_131, e142_133, e142_136, e142_138, e142_141, e142_144, rk_n, rk_v, nl_n, nl_i, nl_r, cat_n, ip_cat_int, ip_cat_ref, ip_cat_long, ip_rf_some, Nat.reduceAdd, Nat.reduceLeDiff, Nat.reduceLT, Nat.le_refl, Nat.zero_le, hC, hT, TD, c19s E8, P2, nu_ge, lk, lp, g1, PG, gp, q1, c20s E8 ht, nu_1, Bool.false_eq_true, Bool.true_eq_false, if_true, if_false, not_true_eq_false, not_false_eq_true, zle, eq_self]
    · have front : ∀ l7, rf (d + 4) 142 17 [some (.ref 40), some (.ref C), some (.int (Int32.ofNat po)), some (.int (Int32.ofNat pg)), some (.int (Int32.ofNat E)), some (.int (Int32.ofNat t)), some (.int (Int32.ofNat k)), l7] [] (SH n, J, L, R, nc, ns, nx) = rf (d + 4) 142 59 [some (.ref 40), some (.ref C), some (.int (Int32.ofNat po)), some (.int (Int32.ofNat pg)), some (.int (Int32.ofNat E)), some (.int (Int32.ofNat t)), some (.int (Int32.ofNat k)), some (.int (Int32.ofNat (wrk c std rst br win V fl lev ap pg t)))] [] (SH n, J1, L, R, nc, ns, nx) := by
        intro l7
        rw [e142_17]
        simp only [e142_19, e142_20, e142_22, e142_25, e142_26, e142_29, e142_30, e142_33, e142_35, e142_38, e142_39, e142_42, e142_43, e142_44, e142_46, e142_47, e142_50, e142_51, e142_54, e142_57, rk_n, rk_v, nl_n, nl_i, nl_r, cat_n, ip_cat_int, ip_cat_ref, ip_cat_long, ip_rf_some, Nat.reduceAdd, Nat.reduceLeDiff, Nat.reduceLT, Nat.le_refl, Nat.zero_le, hC, hT, TD, c19s E8, P2, nu_ge, lk, lp, g1, PG, gp, q1, A1, y8, c132n, rk, Bool.false_eq_true, Bool.true_eq_false, if_true, if_false, not_true_eq_false, not_false_eq_true, zle, eq_self]
      have back : ∀ u, rf (d + 4) 142 89 [some (.ref 40), some (.ref C), some (.int (Int32.ofNat po)), some (.int (Int32.ofNat pg)), some (.int (Int32.ofNat E)), some (.int (Int32.ofNat t)), some (.int (Int32.ofNat k)), some (.int (Int32.ofNat (wrk c std rst br win V fl lev ap pg t)))] [] (SH n, J1, L, R, nc, ns, nx) = rf (d + 4) 142 17 [some (.ref 40), some (.ref C), some (.int (Int32.ofNat po)), some (.int (Int32.ofNat pg)), some (.int (Int32.ofNat E)), some (.int (Int32.ofNat (nxs E t))), some (.int (Int32.ofNat (k + 1))), some (.int (Int32.ofNat (wrk c std rst br win V fl lev ap pg t)))] [] (SH n, M, L, R, nc, ns, u) ∨ u ≠ nx := by
        intro u
        by_cases hu : u = nx
        · left
          subst hu
          rw [mE]
          by_cases g1 : outE c std rst br win V fl lev ap t (t ||| ansN c std rst br win V fl lev ap pg t) = 1
          · simp only [e142_89, e142_90, e142_92, e142_95, e142_96, e142_98, e142_101, e142_102, e142_103, e142_106, e142_109, e142_110, e142_111, e142_114, e142_115, e142_118, e142_119, e142_122, e142_123, e142_126, e142_129, e142_131, e142_133, e142_136, e142_138, e142_141, rk_n, rk_v, nl_n, nl_i, nl_r, cat_n, ip_cat_int, ip_cat_ref, ip_cat_long, ip_rf_some, Nat.reduceAdd, Nat.reduceLeDiff, Nat.reduceLT, Nat.le_refl, Nat.zero_le, up_eq, up_k, Nat.reduceEqDiff, y7, y8, g1, hwI, c20s E8 ht, nu_1, Bool.false_eq_true, Bool.true_eq_false, if_true, if_false, not_true_eq_false, not_false_eq_true, zle, eq_self]
          · simp only [e142_89, e142_90, e142_92, e142_95, e142_96, e142_98, e142_101, e142_102, e142_103, e142_106, e142_109, e142_110, e142_111, e142_114, e142_115, e142_118, e142_119, e142_122, e142_123, e142_126, e142_129, e142_131, e142_133, e142_136, e142_138, e142_141, rk_n, rk_v, nl_n, nl_i, nl_r, cat_n, ip_cat_int, ip_cat_ref, ip_cat_long, ip_rf_some, Nat.reduceAdd, Nat.reduceLeDiff, Nat.reduceLT, Nat.le_refl, Nat.zero_le, up_eq, up_k, Nat.reduceEqDiff, y7, y8, g1, hwI, c20s E8 ht, nu_1, Bool.false_eq_true, Bool.true_eq_false, if_true, if_false, not_true_eq_false, not_false_eq_true, zle, eq_self]
        · exact Or.inr hu
      have back2 := (back nx).resolve_right (fun h => h rfl)
      have skip : rf (d + 4) 142 129 [some (.ref 40), some (.ref C), some (.int (Int32.ofNat po)), some (.int (Int32.ofNat pg)), some (.int (Int32.ofNat E)), some (.int (Int32.ofNat t)), some (.int (Int32.ofNat k)), some (.int (Int32.ofNat (wrk c std rst br win V fl lev ap pg t)))] [] (SH n, J1, L, R, nc, ns, nx) = rf (d + 4) 142 17 [some (.ref 40), some (.ref C), some (.int (Int32.ofNat po)), some (.int (Int32.ofNat pg)), some (.int (Int32.ofNat E)), some (.int (Int32.ofNat (nxs E t))), some (.int (Int32.ofNat (k + 1))), some (.int (Int32.ofNat (wrk c std rst br win V fl lev ap pg t)))] [] (SH n, J1, L, R, nc, ns, nx) := by
        simp only [e142_129, e142_131, e142_133, e142_136, e142_138, e142_141, rk_n, rk_v, nl_n, nl_i, nl_r, cat_n, ip_cat_int, ip_cat_ref, ip_cat_long, ip_rf_some, Nat.reduceAdd, Nat.reduceLeDiff, Nat.reduceLT, Nat.le_refl, Nat.zero_le, c20s E8 ht, nu_1, Bool.false_eq_true, Bool.true_eq_false, if_true, if_false, not_true_eq_false, not_false_eq_true, zle, eq_self]
      rcases H with ⟨h1, h6⟩ | ⟨h1, h4, h5, h3, h6, b1, b2, b3⟩
      · refine ⟨(t, some (.int (Int32.ofNat (wrk c std rst br win V fl lev ap pg t))), M), ⟨m1, Or.inr ⟨by omega, m4, m5, m3, m6, ⟨htE, Nat.le_of_not_lt q1⟩, ht, ?_⟩⟩, ?_⟩
        · intro u hu hB
          have : u = t := by omega
          subst this
          exact Nat.le_refl _
        · rw [front, ← back2]
          have gm : ((-1 : Int32) < Int32.ofNat (wrk c std rst br win V fl lev ap pg t)) = True := eq_true (by
            rw [Int32.lt_iff_toInt_lt, nu_int (by omega)]
            have : (-1 : Int32).toInt = -1 := by decide
            omega)
          simp only [e142_59, e142_61, e142_62, e142_65, rk_n, rk_v, nl_n, nl_i, nl_r, cat_n, ip_cat_int, ip_cat_ref, ip_cat_long, ip_rf_some, Nat.reduceAdd, Nat.reduceLeDiff, Nat.reduceLT, Nat.le_refl, Nat.zero_le, kk 6 (by omega) (by omega), h6, gm, Bool.false_eq_true, Bool.true_eq_false, if_true, if_false, not_true_eq_false, not_false_eq_true, zle, eq_self]
      · have VL := val_lt (r := fun s => wrk c std rst br win V fl lev ap pg s) ht b2 wl wrk_le
        have lr : (Int32.ofNat (wrk c std rst br win V fl lev ap pg f) < Int32.ofNat (wrk c std rst br win V fl lev ap pg t)) = (wrk c std rst br win V fl lev ap pg f < wrk c std rst br win V fl lev ap pg t) := propext (nu_lt (by have := wrk_le (c := c) (std := std) (rst := rst) (br := br) (win := win) (V := V) (fl := fl) (lev := lev) (ap := ap) (pg := pg) (s := f); omega) (by omega))
        have er : (Int32.ofNat (wrk c std rst br win V fl lev ap pg t) = Int32.ofNat (wrk c std rst br win V fl lev ap pg f)) = (wrk c std rst br win V fl lev ap pg t = wrk c std rst br win V fl lev ap pg f) := nu_eq (by omega) (by have := wrk_le (c := c) (std := std) (rst := rst) (br := br) (win := win) (V := V) (fl := fl) (lev := lev) (ap := ap) (pg := pg) (s := f); omega)
        have take : val (fun s => wrk c std rst br win V fl lev ap pg s) t < val (fun s => wrk c std rst br win V fl lev ap pg s) f → ∀ u, u < t + 1 → u &&& E = u ∧ pgC u rst c ≤ po → val (fun s => wrk c std rst br win V fl lev ap pg s) t ≤ val (fun s => wrk c std rst br win V fl lev ap pg s) u := by
          intro q u hu hB
          by_cases e : u = t
          · subst e; exact Nat.le_refl _
          · have := b3 u (by omega) hB
            omega
        have keep : ¬ val (fun s => wrk c std rst br win V fl lev ap pg s) t < val (fun s => wrk c std rst br win V fl lev ap pg s) f → ∀ u, u < t + 1 → u &&& E = u ∧ pgC u rst c ≤ po → val (fun s => wrk c std rst br win V fl lev ap pg s) f ≤ val (fun s => wrk c std rst br win V fl lev ap pg s) u := by
          intro q u hu hB
          by_cases e : u = t
          · subst e; omega
          · exact b3 u (by omega) hB
        have k4 := (kk 4 (by omega) (by omega)).trans h4
        have k5 := (kk 5 (by omega) (by omega)).trans h5
        have k3 := (kk 3 (by omega) (by omega)).trans h3
        have k6 := (kk 6 (by omega) (by omega)).trans h6
        by_cases q2 : wrk c std rst br win V fl lev ap pg f < wrk c std rst br win V fl lev ap pg t
        · refine ⟨(t, some (.int (Int32.ofNat (wrk c std rst br win V fl lev ap pg t))), M), ⟨m1, Or.inr ⟨by omega, m4, m5, m3, m6, ⟨htE, Nat.le_of_not_lt q1⟩, ht, take (VL.mpr (Or.inl q2))⟩⟩, ?_⟩
          rw [front, ← back2]
          simp only [e142_59, e142_61, e142_62, e142_65, rk_n, rk_v, nl_n, nl_i, nl_r, cat_n, ip_cat_int, ip_cat_ref, ip_cat_long, ip_rf_some, Nat.reduceAdd, Nat.reduceLeDiff, Nat.reduceLT, Nat.le_refl, Nat.zero_le, k6, lr, q2, Bool.false_eq_true, Bool.true_eq_false, if_true, if_false, not_true_eq_false, not_false_eq_true, zle, eq_self]
        · by_cases q3 : wrk c std rst br win V fl lev ap pg t = wrk c std rst br win V fl lev ap pg f
          · by_cases q4 : smN t f = true
            · refine ⟨(t, some (.int (Int32.ofNat (wrk c std rst br win V fl lev ap pg t))), M), ⟨m1, Or.inr ⟨by omega, m4, m5, m3, m6, ⟨htE, Nat.le_of_not_lt q1⟩, ht, take (VL.mpr (Or.inr ⟨q3, q4⟩))⟩⟩, ?_⟩
              rw [front, ← back2]
              simp only [e142_59, e142_61, e142_62, e142_65, e142_68, e142_70, e142_71, e142_74, e142_77, e142_79, e142_80, e142_83, e142_86, rk_n, rk_v, nl_n, nl_i, nl_r, cat_n, ip_cat_int, ip_cat_ref, ip_cat_long, ip_rf_some, Nat.reduceAdd, Nat.reduceLeDiff, Nat.reduceLT, Nat.le_refl, Nat.zero_le, k6, k4, lr, er, q2, q3, c133 ht b2, q4, Bool.false_eq_true, Bool.true_eq_false, if_true, if_false, not_true_eq_false, not_false_eq_true, zle, eq_self, Int32.lt_irrefl, Nat.lt_irrefl]
            · refine ⟨(f, some (.int (Int32.ofNat (wrk c std rst br win V fl lev ap pg t))), J1), ⟨o2, Or.inr ⟨by omega, k4, k5, k3, k6, b1, b2, keep (fun e => (VL.mp e).elim q2 (fun e => q4 e.2))⟩⟩, ?_⟩
              rw [front, ← skip]
              simp only [e142_59, e142_61, e142_62, e142_65, e142_68, e142_70, e142_71, e142_74, e142_77, e142_79, e142_80, e142_83, e142_86, rk_n, rk_v, nl_n, nl_i, nl_r, cat_n, ip_cat_int, ip_cat_ref, ip_cat_long, ip_rf_some, Nat.reduceAdd, Nat.reduceLeDiff, Nat.reduceLT, Nat.le_refl, Nat.zero_le, k6, k4, lr, er, q2, q3, c133 ht b2, q4, Bool.false_eq_true, Bool.true_eq_false, if_true, if_false, not_true_eq_false, not_false_eq_true, zle, eq_self, Int32.lt_irrefl, Nat.lt_irrefl]
          · refine ⟨(f, some (.int (Int32.ofNat (wrk c std rst br win V fl lev ap pg t))), J1), ⟨o2, Or.inr ⟨by omega, k4, k5, k3, k6, b1, b2, keep (fun e => (VL.mp e).elim q2 (fun e => q3 e.1))⟩⟩, ?_⟩
            rw [front, ← skip]
            simp only [e142_59, e142_61, e142_62, e142_65, e142_68, e142_70, e142_71, e142_74, rk_n, rk_v, nl_n, nl_i, nl_r, cat_n, ip_cat_int, ip_cat_ref, ip_cat_long, ip_rf_some, Nat.reduceAdd, Nat.reduceLeDiff, Nat.reduceLT, Nat.le_refl, Nat.zero_le, k6, lr, er, q2, q3, Bool.false_eq_true, Bool.true_eq_false, if_true, if_false, not_true_eq_false, not_false_eq_true, zle, eq_self]
  · rintro t ⟨f, l7, J⟩ ht htE ⟨o, H⟩
    refine ⟨o, ?_⟩
    rcases H with ⟨h1, h6⟩ | ⟨h1, h4, h5, h3, h6, b1, b2, b3⟩
    · subst h1; exact absurd (Nat.zero_and _) htE
    · refine Or.inr ⟨by omega, h4, h5, h3, h6, b1, b2, ?_⟩
      intro u hu hB
      by_cases e : u = t
      · subst e; exact absurd hB.1 htE
      · exact b3 u (by omega) hB
  · exact ⟨onlyP_up onlyP_refl ⟨rfl, by omega⟩, Or.inl ⟨rfl, by dsimp only; rw [up_eq]⟩⟩
  · rintro t ⟨⟨f, l7, J⟩, ⟨o, H⟩, e⟩
    rcases H with ⟨h1, h6⟩ | ⟨h1, h4, h5, h3, h6, b1, b2, b3⟩
    · omega
    · refine ⟨J, f, ?_, o, h4, h5, h3, b1, b2, b3⟩
      refine Eq.trans e ?_
      rw [e142_17]
      simp only [e142_0, e142_1, e142_4, e142_6, e142_7, e142_8, e142_11, e142_12, e142_14, e142_15, e142_19, e142_20, e142_22, e142_25, e142_26, e142_29, e142_30, e142_33, e142_35, e142_38, e142_39, e142_42, e142_43, e142_44, e142_46, e142_47, e142_50, e142_51, e142_54, e142_57, e142_59, e142_61, e142_62, e142_65, e142_68, e142_70, e142_71, e142_74, e142_77, e142_79, e142_80, e142_83, e142_86, e142_89, e142_90, e142_92, e142_95, e142_96, e142_98, e142_101, e142_102, e142_103, e142_106, e142_109, e142_110, e142_111, e142_114, e142_115, e142_118, e142_119, e142_122, e142_123, e142_126, e142_129, e142_131, e142_133, e142_136, e142_138, e142_141, e142_144, rk_n, rk_v, nl_n, nl_i, nl_r, cat_n, ip_cat_int, ip_cat_ref, ip_cat_long, ip_rf_some, Nat.reduceAdd, Nat.reduceLeDiff, Nat.reduceLT, Nat.le_refl, Nat.zero_le, c19s E8, P2, Int32.le_refl, Bool.false_eq_true, Bool.true_eq_false, if_true, if_false, not_true_eq_false, not_false_eq_true, zle, eq_self]
end SG
