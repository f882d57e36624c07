/-! READ: class and model read alike -/
section RA
variable {t T : Nat} {B : Nat → Int32} {R : Nat → Nat → Option Nat}
theorem okc_up {c : Nat} {cs : List CD} (h : okc c cs) : okc (c + 1) cs := fun q hq => ⟨(h q hq).1, (h q hq).2.1, fun e => by have := (h q hq).2.2.1 e; omega, (h q hq).2.2.2⟩
theorem oX_t {L1 L2 L3 : Nat → Nat → Int64} (a : oX T L1 L2) (b : oX T L2 L3) : oX T L1 L3 := fun x k h1 h2 h3 => (b x k h1 h2 h3).trans (a x k h1 h2 h3)
theorem rd_end (hR : LYR R) (hT : isT T) (rT : R 4 2 = some T) (ht : t ≤ 400) (hB : ∀ i, i < t → ¬ B i = -1) {p c nm : Nat} {f : Nat → List Nat} {sd rs br : Nat → Nat} {cl : Bool} {v : Nat → Nat} {cs : List CD} (hp : p ≤ t) (h15 : kdT B t p = 15) :
    (cl = false → rdCF B t T R c f sd rs br cl nm v p p ∧ rdMF B t c f sd rs br cl nm cs p p) ∧ (cl = true → rdCG B t T R c f sd rs br cl nm v p c f sd rs br nm v ∧ rdMG B t c f sd rs br cl nm cs p c f sd rs br nm cs) := by
  have hv1 := (kd_end hB).mp h15
  constructor
  · intro hcl
    subst hcl
    refine ⟨?_, ?_⟩
    · intro n J L nc ns nx l l1 l4 l2 X hl
      obtain ⟨h, st, X0, T0⟩ := X
      have k6 := X0.1.2.2.2.1
      rw [h15] at k6
      have k6 : J 4 6 = 15 := k6
      have t8 : J T 8 = 0 := T0.2.2.2.2.2.2.1
      have g4 : ((400 : Int32) < Int32.ofNat l) = False := eq_false (fun e => by have := (nu_lt (t := 400) (by omega) (by omega)).mp e; omega)
      refine ⟨J, L, nx, fun D hD => ?_, onlyP_refl, fun _ _ _ _ _ => rfl⟩
      rw [e38_40]
      simp only [e38_0, e38_1, e38_2, e38_5, e38_6, e38_7, e38_8, e38_9, e38_12, e38_15, e38_16, e38_17, e38_20, e38_21, e38_24, e38_27, e38_28, e38_31, e38_34, e38_35, e38_38, e38_39, e38_41, e38_44, e38_47, e38_48, e38_51, e38_53, e38_56, e38_57, e38_59, e38_60, e38_63, e38_66, e38_67, e38_70, e38_73, e38_75, e38_78, e38_79, e38_82, e38_85, e38_86, e38_89, e38_90, e38_92, e38_95, e38_96, e38_99, e38_100, e38_103, e38_104, e38_107, e38_109, e38_112, e38_113, e38_116, e38_118, e38_121, e38_122, e38_125, e38_128, e38_131, e38_132, e38_135, e38_138, e38_139, e38_142, e38_143, e38_145, e38_147, e38_150, e38_151, e38_154, e38_155, e38_158, e38_161, e38_162, e38_165, e38_168, e38_171, e38_172, e38_175, e38_176, e38_179, rk_n, rk_v, nl_n, nl_i, nl_r, cat_n, ip_cat_int, ip_cat_ref, ip_cat_long, ip_rf_some, Nat.reduceAdd, Nat.reduceLeDiff, Nat.reduceLT, Nat.le_refl, Nat.zero_le, g4, k6, rT, hT, t8, X0.1.2.2.1, Bool.false_eq_true, Bool.true_eq_false, if_true, if_false, not_true_eq_false, not_false_eq_true, zle, eq_self]
    · intro n K L R nc ns nx a l1 hR Y hs
      have H := fun d => c193 (d := d) (n := n) (L := L) (nc := nc) (ns := ns) (nx := nx) hR ht Y.1 Y.2.1 hs
      rw [hv1] at H
      have Z := MSX_at (p := p) Y hp
      have W := fun d => c197 (d := d) (n := n) (L := L) (R := R) (nc := nc) (ns := ns) (nx := nx) Z.1.2.1 Z.2.2.1
      have z7 : atM K p 265 7 = 0 := Z.2.2.2.2.2.2.2.2.1
      refine ⟨ip_up (atM K p) 265 5 (Int32.ofNat p), L, fun D hD => ?_, up_eq, onlyP_up (onlyP_up onlyP_refl (by unfold scL; omega)) (by unfold scL; omega), fun _ _ _ => rfl⟩
      obtain ⟨E, rfl⟩ : ∃ E, D = E + 1 := ⟨D - 1, by omega⟩
      rw [e192_70]
      simp only [e192_71, e192_74, e192_75, e192_78, e192_79, e192_82, e192_83, e192_147, e192_148, e192_151, e192_152, e192_155, e192_156, e192_159, e192_162, e192_163, rk_n, rk_v, nl_n, nl_i, nl_r, cat_n, ip_cat_int, ip_cat_ref, ip_cat_long, ip_rf_some, Nat.reduceAdd, Nat.reduceLeDiff, Nat.reduceLT, Nat.le_refl, Nat.zero_le, Y.2.2.1, Z.2.2.1, H, z7, W, Bool.false_eq_true, Bool.true_eq_false, if_true, if_false, not_true_eq_false, not_false_eq_true, zle, eq_self]
  · intro hcl
    subst hcl
    refine ⟨?_, ?_⟩
    · intro n J L nc ns nx l l1 l4 l2 X hl
      have X' := X
      obtain ⟨h, st, X0, T0⟩ := X
      have k6 := X0.1.2.2.2.1
      rw [h15] at k6
      have k6 : J 4 6 = 15 := k6
      have t8 : J T 8 = 1 := T0.2.2.2.2.2.2.1
      have g4 : ((400 : Int32) < Int32.ofNat l) = False := eq_false (fun e => by have := (nu_lt (t := 400) (by omega) (by omega)).mp e; omega)
      refine ⟨J, L, nx, p, fun D hD => ?_, X', onlyP_refl, fun _ _ _ _ _ => rfl⟩
      rw [e38_40]
      simp only [e38_0, e38_1, e38_2, e38_5, e38_6, e38_7, e38_8, e38_9, e38_12, e38_15, e38_16, e38_17, e38_20, e38_21, e38_24, e38_27, e38_28, e38_31, e38_34, e38_35, e38_38, e38_39, e38_41, e38_44, e38_47, e38_48, e38_51, e38_53, e38_56, e38_57, e38_59, e38_60, e38_63, e38_66, e38_67, e38_70, e38_73, e38_75, e38_78, e38_79, e38_82, e38_85, e38_86, e38_89, e38_90, e38_92, e38_95, e38_96, e38_99, e38_100, e38_103, e38_104, e38_107, e38_109, e38_112, e38_113, e38_116, e38_118, e38_121, e38_122, e38_125, e38_128, e38_131, e38_132, e38_135, e38_138, e38_139, e38_142, e38_143, e38_145, e38_147, e38_150, e38_151, e38_154, e38_155, e38_158, e38_161, e38_162, e38_165, e38_168, e38_171, e38_172, e38_175, e38_176, e38_179, rk_n, rk_v, nl_n, nl_i, nl_r, cat_n, ip_cat_int, ip_cat_ref, ip_cat_long, ip_rf_some, Nat.reduceAdd, Nat.reduceLeDiff, Nat.reduceLT, Nat.le_refl, Nat.zero_le, g4, k6, rT, hT, t8, (by decide : ¬ (1 : Int32) = 0), Bool.false_eq_true, Bool.true_eq_false, if_true, if_false, not_true_eq_false, not_false_eq_true, zle, eq_self]
    · intro n K L R nc ns nx a l1 hR Y hs
      have H := fun d => c193 (d := d) (n := n) (L := L) (nc := nc) (ns := ns) (nx := nx) hR ht Y.1 Y.2.1 hs
      rw [hv1] at H
      have Z := MSX_at (p := p) Y hp
      have z7 : atM K p 265 7 = 1 := Z.2.2.2.2.2.2.2.2.1
      refine ⟨atM K p, L, p, fun D hD => ?_, Z, onlyP_up onlyP_refl (by unfold scL; omega), fun _ _ _ => rfl⟩
      obtain ⟨E, rfl⟩ : ∃ E, D = E + 1 := ⟨D - 1, by omega⟩
      rw [e192_70]
      simp only [e192_71, e192_74, e192_75, e192_78, e192_79, e192_82, e192_83, e192_147, e192_148, e192_151, e192_152, e192_155, e192_156, e192_159, rk_n, rk_v, nl_n, nl_i, nl_r, cat_n, ip_cat_int, ip_cat_ref, ip_cat_long, ip_rf_some, Nat.reduceAdd, Nat.reduceLeDiff, Nat.reduceLT, Nat.le_refl, Nat.zero_le, Y.2.2.1, Z.2.2.1, H, z7, (by decide : ¬ (1 : Int32) = 0), Bool.false_eq_true, Bool.true_eq_false, if_true, if_false, not_true_eq_false, not_false_eq_true, zle, eq_self]
theorem rd_all (hR : LYR R) (ht : t ≤ 400) (hB : ∀ i, i < t → ¬ B i = -1) (hT2 : T = 9 ∨ T = 16) (hT : isT T) (hr : R 4 1 = some 3) (rT : R 4 2 = some T) : ∀ m p c f sd rs br cl nm v cs, t - p ≤ m → p ≤ t → skT B t p = p → c ≤ 8 → OKT c cl cs v →
    (∃ q, q ≤ t ∧ rdCF B t T R c f sd rs br cl nm v p q ∧ rdMF B t c f sd rs br cl nm cs p q) ∨ (∃ c' f' sd' rs' br' nm' v' cs', c' ≤ 8 ∧ OKT c' true cs' v' ∧ rdCG B t T R c f sd rs br cl nm v p c' f' sd' rs' br' nm' v' ∧ rdMG B t c f sd rs br cl nm cs p c' f' sd' rs' br' nm' cs') := by
  intro m
  induction m with
  | zero =>
    intro p c f sd rs br cl nm v cs hm hp hs hc ho
    have h15 : kdT B t p = 15 := by unfold kdT; rw [if_neg (by omega)]
    have E := rd_end (c := c) (nm := nm) (f := f) (sd := sd) (rs := rs) (br := br) (cl := cl) (v := v) (cs := cs) hR hT rT ht hB hp h15
    cases cl with
    | false => exact Or.inl ⟨p, hp, E.1 rfl⟩
    | true => exact Or.inr ⟨c, f, sd, rs, br, nm, v, cs, hc, ho, E.2 rfl⟩
  | succ m ih =>
    intro p c f sd rs br cl nm v cs hm hp hs hc ho
    by_cases h15 : kdT B t p = 15
    · have E := rd_end (c := c) (nm := nm) (f := f) (sd := sd) (rs := rs) (br := br) (cl := cl) (v := v) (cs := cs) hR hT rT ht hB hp h15
      cases cl with
      | false => exact Or.inl ⟨p, hp, E.1 rfl⟩
      | true => exact Or.inr ⟨c, f, sd, rs, br, nm, v, cs, hc, ho, E.2 rfl⟩
    · have pt : p < t := by
        refine Classical.byContradiction (fun z => h15 ?_)
        unfold kdT; rw [if_neg z]
      by_cases hI : kdT B t p = 0 ∧ c < 8
      · -- an issue
        obtain ⟨h0, hc8⟩ := hI
        obtain ⟨o, eo, bo⟩ := isp_tot (B := B) (f := f) (c := c) ht hc8 pt
        cases o with
        | inl q =>
          refine Or.inl ⟨q, bo, ?_, ?_⟩
          · intro n J L nc ns nx l l1 l4 l2 X hl
            obtain ⟨J', A, X', O⟩ := ci_issue (n := n) (nc := nc) (ns := ns) (nx := nx) hR ht hT2 hT hr rT hc8 X pt _ eo
            refine ⟨J', L, nx, fun D hD => ?_, O, fun _ _ _ _ _ => rfl⟩
            have := kl_line (n := n) (nc := nc) (ns := ns) (nx := nx) (l1 := l1) (l4 := l4) (l2 := l2) (b := false) hR hT rT X pt ht hl (Or.inl ⟨h0, hc8, rfl⟩) (fun D hD => A D (by omega)) D hD
            rw [if_neg (by decide), X'.2.2.1] at this
            exact this
          · intro n K L R nc ns nx a l1 hR Y hs'
            obtain ⟨K1, K2, L1, A, x5, O, OL⟩ := mi_issue (n := n) (nc := nc) (ns := ns) (nx := nx) hR ht hB hc8 (MSX_at (p := p) Y hp) hs h0 _ eo
            refine ⟨K2, L1, fun D hD => ?_, x5, onlyP_tr (onlyP_up onlyP_refl (by unfold scL; omega)) O, OL⟩
            exact (ml_line ht hB hR Y hs' pt (Or.inl ⟨h0, rfl⟩) (fun D hD => A D (by omega)) D hD).trans (ml_flt (by rw [x5]; exact nm1 (by dsimp only at bo; omega)) D)
        | inr z =>
          dsimp only at bo
          have ho' : OKT (c + 1) cl cs v := fun e => ⟨(ho e).1, (ho e).2.1, okc_up (ho e).2.2.1, (ho e).2.2.2⟩
          have ss : skT B t z.1 = z.1 := by
            have h1 : ∀ q, nxT B t q = z.1 → q ≤ t → skT B t z.1 = z.1 := fun q e hq => by rw [← e]; exact skT_sk (enT_le hq).2.1
            unfold isp at eo
            split at eo
            · split at eo
              · cases eo
              · split at eo
                · rcases isp4_c eo with ⟨q, -, e2⟩ | ⟨p4, r, e1, e2⟩
                  · cases e2
                  · have hp4 : p4 ≤ t := by
                      have M1 := nxT_le (B := B) (t := t) (p := p) hp
                      have M2 := nxT_le (B := B) (t := t) (p := nxT B t p) M1.2.1
                      have M3 := nxT_le (B := B) (t := t) (p := nxT B t (nxT B t p)) M2.2.1
                      split at e1
                      · rename_i h4
                        have lt4 := (kd_en (j := 4) (by omega) h4).2.1
                        exact (rsp_ok (by omega) 402 _ 0 p4 r lt4 (Nat.two_pow_pos c) e1).2.1
                      · have := Sum.inr.inj (Option.some.inj e1)
                        have := congrArg Prod.fst this
                        dsimp only at this
                        omega
                    rcases e2 with ⟨-, e2⟩ | ⟨-, e2⟩
                    · have e2 := Sum.inr.inj e2
                      exact h1 p4 (by rw [e2]) hp4
                    · cases e2
                · cases eo
            · cases eo
          have CI := fun n J L nc ns nx X => ci_issue (n := n) (nc := nc) (ns := ns) (nx := nx) (J := J) (L := L) (sd := sd) (rs := rs) (br := br) (cl := cl) (nm := nm) (v := v) hR ht hT2 hT hr rT hc8 X pt _ eo
          have MI := fun n K L R nc ns nx (hR : LYR R) Y => mi_issue (n := n) (nc := nc) (ns := ns) (nx := nx) (K := K) (L := L) (R := R) (sd := sd) (rs := rs) (br := br) (cl := cl) (nm := nm) (cs := cs) hR ht hB hc8 Y hs h0 _ eo
          rcases ih z.1 (c + 1) (fuN f c (wl B t (nxT B t p))) (fuN sd c z.2.1) (fuN rs c z.2.2) br cl nm v cs (by omega) bo.2 ss (by omega) ho' with ⟨q, hq, Q1, Q2⟩ | ⟨c', f', sd', rs', br', nm', v', cs', q1, q2, Q1, Q2⟩
          · refine Or.inl ⟨q, hq, ?_, ?_⟩
            · intro n J L nc ns nx l l1 l4 l2 X hl
              obtain ⟨J', A, X', O⟩ := CI n J L nc ns nx X
              obtain ⟨J2, L2, nx2, A2, O2, OL2⟩ := Q1 n J' L nc ns nx (l + 1) l1 (some (.int 1)) l2 X' (by omega)
              refine ⟨J2, L2, nx2, fun D hD => ?_, onlyP_tr O O2, OL2⟩
              have := kl_line (n := n) (nc := nc) (ns := ns) (nx := nx) (l1 := l1) (l4 := l4) (l2 := l2) (b := true) hR hT rT X pt ht hl (Or.inl ⟨h0, hc8, rfl⟩) (fun D hD => A D (by omega)) D hD
              rw [if_pos rfl] at this
              exact this.trans (A2 D hD)
            · intro n K L R nc ns nx a l1 hR Y hs'
              obtain ⟨K1, K2, L1, a', A, Y', s', O, OL⟩ := MI n (atM K p) L R nc ns nx hR (MSX_at (p := p) Y hp)
              obtain ⟨K3, L3, A3, x5, O3, OL3⟩ := Q2 n K2 L1 R nc ns nx a' l1 hR Y' s'
              refine ⟨K3, L3, fun D hD => ?_, x5, onlyP_tr (onlyP_up onlyP_refl (by unfold scL; omega)) (onlyP_tr O O3), fun a k h => (OL3 a k h).trans (OL a k h)⟩
              exact (ml_line ht hB hR Y hs' pt (Or.inl ⟨h0, rfl⟩) (fun D hD => A D (by omega)) D hD).trans (A3 D hD)
          · refine Or.inr ⟨c', f', sd', rs', br', nm', v', cs', q1, q2, ?_, ?_⟩
            · intro n J L nc ns nx l l1 l4 l2 X hl
              obtain ⟨J', A, X', O⟩ := CI n J L nc ns nx X
              obtain ⟨J2, L2, nx2, u2, A2, X2, O2, OL2⟩ := Q1 n J' L nc ns nx (l + 1) l1 (some (.int 1)) l2 X' (by omega)
              refine ⟨J2, L2, nx2, u2, fun D hD => ?_, X2, onlyP_tr O O2, OL2⟩
              have := kl_line (n := n) (nc := nc) (ns := ns) (nx := nx) (l1 := l1) (l4 := l4) (l2 := l2) (b := true) hR hT rT X pt ht hl (Or.inl ⟨h0, hc8, rfl⟩) (fun D hD => A D (by omega)) D hD
              rw [if_pos rfl] at this
              exact this.trans (A2 D hD)
            · intro n K L R nc ns nx a l1 hR Y hs'
              obtain ⟨K1, K2, L1, a', A, Y', s', O, OL⟩ := MI n (atM K p) L R nc ns nx hR (MSX_at (p := p) Y hp)
              obtain ⟨K3, L3, a3, A3, Y3, O3, OL3⟩ := Q2 n K2 L1 R nc ns nx a' l1 hR Y' s'
              refine ⟨K3, L3, a3, fun D hD => ?_, Y3, onlyP_tr (onlyP_up onlyP_refl (by unfold scL; omega)) (onlyP_tr O O3), fun a k h => (OL3 a k h).trans (OL a k h)⟩
              exact (ml_line ht hB hR Y hs' pt (Or.inl ⟨h0, rfl⟩) (fun D hD => A D (by omega)) D hD).trans (A3 D hD)
      · by_cases h5 : kdT B t p = 5
        · -- bars
          have bl := bsp_le (B := B) (t := t) (p := p) (br := br) pt
          have CI := fun n J L nc ns nx X => ci_bars (B := B) (n := n) (nc := nc) (ns := ns) (nx := nx) (J := J) (L := L) (c := c) (f := f) (sd := sd) (rs := rs) (br := br) (cl := cl) (nm := nm) (v := v) (p := p) hR ht hT2 hT hr rT X
          have MI := fun n K L R nc ns nx (hR : LYR R) Y => mi_bars (B := B) (n := n) (nc := nc) (ns := ns) (nx := nx) (K := K) (L := L) (R := R) (c := c) (f := f) (sd := sd) (rs := rs) (br := br) (cl := cl) (nm := nm) (cs := cs) hR ht hB Y hs h5
          cases eo : bsp B t p br with
          | inl q =>
            rw [eo] at bl CI MI
            refine Or.inl ⟨q, bl, ?_, ?_⟩
            · intro n J L nc ns nx l l1 l4 l2 X hl
              obtain ⟨J', A, X', O⟩ := CI n J L nc ns nx X
              refine ⟨J', L, nx, fun D hD => ?_, O, fun _ _ _ _ _ => rfl⟩
              have := kl_line (n := n) (nc := nc) (ns := ns) (nx := nx) (l1 := l1) (l4 := l4) (l2 := l2) (b := false) hR hT rT X pt ht hl (Or.inr (Or.inl ⟨h5, rfl⟩)) (fun D hD => A D (by omega)) D hD
              rw [if_neg (by decide), X'.2.2.1] at this
              exact this
            · intro n K L R nc ns nx a l1 hR Y hs'
              obtain ⟨K1, K2, A, x5, O⟩ := MI n (atM K p) L R nc ns nx hR (MSX_at (p := p) Y hp)
              refine ⟨K2, L, fun D hD => ?_, x5, onlyP_tr (onlyP_up onlyP_refl (by unfold scL; omega)) O, fun _ _ _ => rfl⟩
              exact (ml_line ht hB hR Y hs' pt (Or.inr (Or.inl ⟨h5, rfl⟩)) (fun D hD => A D (by omega)) D hD).trans (ml_flt (by rw [x5]; exact nm1 (by dsimp only at bl; omega)) D)
          | inr z =>
            rw [eo] at bl CI MI
            dsimp only at bl
            have ss : skT B t z.1 = z.1 := by
              have go : ∀ m k q br', q ≤ t → bsL B t (3 * (kdT B t (nxT B t p) - 6)) m k q br' = .inr z → skT B t z.1 = z.1 := by
                intro m
                induction m with
                | zero =>
                  intro k q br' hq e
                  rw [bsL] at e
                  split at e
                  · have := Sum.inr.inj e
                    rw [← this]
                    exact skT_sk (enT_le hq).2.1
                  · cases e
                | succ m ihm =>
                  intro k q br' hq e
                  rw [bsL] at e
                  split at e
                  · exact ihm _ _ _ (nxT_le hq).2.1 e
                  · cases e
              unfold bsp at eo
              split at eo
              · exact go 3 0 _ br (nxT_le (nxT_le hp).2.1).2.1 eo
              · cases eo
            rcases ih z.1 c f sd rs z.2 cl nm v cs (by omega) bl.2 ss hc ho with ⟨q, hq, Q1, Q2⟩ | ⟨c', f', sd', rs', br', nm', v', cs', q1, q2, Q1, Q2⟩
            · refine Or.inl ⟨q, hq, ?_, ?_⟩
              · intro n J L nc ns nx l l1 l4 l2 X hl
                obtain ⟨J', A, X', O⟩ := CI n J L nc ns nx X
                obtain ⟨J2, L2, nx2, A2, O2, OL2⟩ := Q1 n J' L nc ns nx (l + 1) l1 (some (.int 1)) l2 X' (by omega)
                refine ⟨J2, L2, nx2, fun D hD => ?_, onlyP_tr O O2, OL2⟩
                have := kl_line (n := n) (nc := nc) (ns := ns) (nx := nx) (l1 := l1) (l4 := l4) (l2 := l2) (b := true) hR hT rT X pt ht hl (Or.inr (Or.inl ⟨h5, rfl⟩)) (fun D hD => A D (by omega)) D hD
                rw [if_pos rfl] at this
                exact this.trans (A2 D hD)
              · intro n K L R nc ns nx a l1 hR Y hs'
                obtain ⟨K1, K2, a', A, Y', s', O⟩ := MI n (atM K p) L R nc ns nx hR (MSX_at (p := p) Y hp)
                obtain ⟨K3, L3, A3, x5, O3, OL3⟩ := Q2 n K2 L R nc ns nx a' l1 hR Y' s'
                refine ⟨K3, L3, fun D hD => ?_, x5, onlyP_tr (onlyP_up onlyP_refl (by unfold scL; omega)) (onlyP_tr O O3), OL3⟩
                exact (ml_line ht hB hR Y hs' pt (Or.inr (Or.inl ⟨h5, rfl⟩)) (fun D hD => A D (by omega)) D hD).trans (A3 D hD)
            · refine Or.inr ⟨c', f', sd', rs', br', nm', v', cs', q1, q2, ?_, ?_⟩
              · intro n J L nc ns nx l l1 l4 l2 X hl
                obtain ⟨J', A, X', O⟩ := CI n J L nc ns nx X
                obtain ⟨J2, L2, nx2, u2, A2, X2, O2, OL2⟩ := Q1 n J' L nc ns nx (l + 1) l1 (some (.int 1)) l2 X' (by omega)
                refine ⟨J2, L2, nx2, u2, fun D hD => ?_, X2, onlyP_tr O O2, OL2⟩
                have := kl_line (n := n) (nc := nc) (ns := ns) (nx := nx) (l1 := l1) (l4 := l4) (l2 := l2) (b := true) hR hT rT X pt ht hl (Or.inr (Or.inl ⟨h5, rfl⟩)) (fun D hD => A D (by omega)) D hD
                rw [if_pos rfl] at this
                exact this.trans (A2 D hD)
              · intro n K L R nc ns nx a l1 hR Y hs'
                obtain ⟨K1, K2, a', A, Y', s', O⟩ := MI n (atM K p) L R nc ns nx hR (MSX_at (p := p) Y hp)
                obtain ⟨K3, L3, a3, A3, Y3, O3, OL3⟩ := Q2 n K2 L R nc ns nx a' l1 hR Y' s'
                refine ⟨K3, L3, a3, fun D hD => ?_, Y3, onlyP_tr (onlyP_up onlyP_refl (by unfold scL; omega)) (onlyP_tr O O3), OL3⟩
                exact (ml_line ht hB hR Y hs' pt (Or.inr (Or.inl ⟨h5, rfl⟩)) (fun D hD => A D (by omega)) D hD).trans (A3 D hD)
        · by_cases hC : kdT B t p = 8 ∧ cl = false
          · -- the claim
            obtain ⟨h8, hcl⟩ := hC
            subst hcl
            obtain ⟨o, eo, bo⟩ := csp_tot (B := B) (f := f) ht hc pt
            cases o with
            | inl q =>
              dsimp only at bo
              refine Or.inl ⟨q, bo, ?_, ?_⟩
              · intro n J L nc ns nx l l1 l4 l2 X hl
                obtain ⟨J', L', A, X', O, OL⟩ := ci_claim (n := n) (nc := nc) (ns := ns) (nx := nx) hR ht hT2 hT hr rT hc X _ eo
                refine ⟨J', L', nx, fun D hD => ?_, O, OL⟩
                have := kl_line (n := n) (nc := nc) (ns := ns) (nx := nx) (l1 := l1) (l4 := l4) (l2 := l2) (b := false) hR hT rT X pt ht hl (Or.inr (Or.inr ⟨h8, rfl, rfl⟩)) (fun D hD => A D (by omega)) D hD
                rw [if_neg (by decide), X'.2.2.1] at this
                exact this
              · intro n K L R nc ns nx a l1 hR Y hs'
                obtain ⟨K1, K2, A, x5, O⟩ := mi_claim (n := n) (nc := nc) (ns := ns) (nx := nx) hR ht hB hc (MSX_at (p := p) Y hp) hs h8 _ eo (fun q' e => by have := Sum.inl.inj e; omega)
                refine ⟨K2, L, fun D hD => ?_, x5, onlyP_tr (onlyP_up onlyP_refl (by unfold scL; omega)) O, fun _ _ _ => rfl⟩
                exact (ml_line ht hB hR Y hs' pt (Or.inr (Or.inr ⟨h8, rfl⟩)) A D hD).trans (ml_flt (by rw [x5]; exact nm1 (by omega)) D)
            | inr z =>
              dsimp only at bo
              obtain ⟨b1, b2, b3, b4, b5, b6, b7⟩ := bo
              have ho' : OKT c true z.2.2.1 z.2.2.2.1 := fun _ => ⟨b4, b5, b6, b7⟩
              have ss : skT B t z.1 = z.1 := by
                unfold csp at eo
                rcases bnd_c eo with ⟨q, -, e2⟩ | ⟨p1, nm1', cs1, v1, j1, e1, e2⟩
                · cases e2
                · have ok := sp_ok ht hc _ _ _ _ _ _ _ _ _ (by omega) (nxT_le hp).2.1 (by omega) (by omega) e1
                  split at e2
                  · have e2 := Sum.inr.inj (Option.some.inj e2)
                    rw [← e2]
                    exact skT_sk (enT_le ok.2.1).2.1
                  · cases e2
              have CI := fun n J L nc ns nx X => ci_claim (n := n) (nc := nc) (ns := ns) (nx := nx) (J := J) (L := L) (sd := sd) (rs := rs) (br := br) (nm := nm) (v := v) hR ht hT2 hT hr rT hc X _ eo
              have MI := fun n K L R nc ns nx (hR : LYR R) Y => mi_claim (n := n) (nc := nc) (ns := ns) (nx := nx) (K := K) (L := L) (R := R) (sd := sd) (rs := rs) (br := br) (nm := nm) (cs := cs) hR ht hB hc Y hs h8 _ eo (fun q' e => by cases e)
              rcases ih z.1 c f sd rs br true z.2.1 z.2.2.2.1 z.2.2.1 (by omega) b2 ss hc ho' with ⟨q, hq, Q1, Q2⟩ | ⟨c', f', sd', rs', br', nm', v', cs', q1, q2, Q1, Q2⟩
              · refine Or.inl ⟨q, hq, ?_, ?_⟩
                · intro n J L nc ns nx l l1 l4 l2 X hl
                  obtain ⟨J', L', A, X', O, OL⟩ := CI n J L nc ns nx X
                  obtain ⟨J2, L2, nx2, A2, O2, OL2⟩ := Q1 n J' L' nc ns true (l + 1) l1 (some (.int 1)) l2 X' (by omega)
                  refine ⟨J2, L2, nx2, fun D hD => ?_, onlyP_tr O O2, oX_t OL OL2⟩
                  have := kl_line (n := n) (nc := nc) (ns := ns) (nx := nx) (l1 := l1) (l4 := l4) (l2 := l2) (b := true) hR hT rT X pt ht hl (Or.inr (Or.inr ⟨h8, rfl, rfl⟩)) (fun D hD => A D (by omega)) D hD
                  rw [if_pos rfl] at this
                  exact this.trans (A2 D hD)
                · intro n K L R nc ns nx a l1 hR Y hs'
                  obtain ⟨K1, K2, a', A, Y', s', O⟩ := MI n (atM K p) L R nc ns nx hR (MSX_at (p := p) Y hp)
                  obtain ⟨K3, L3, A3, x5, O3, OL3⟩ := Q2 n K2 L R nc ns nx a' l1 hR Y' s'
                  refine ⟨K3, L3, fun D hD => ?_, x5, onlyP_tr (onlyP_up onlyP_refl (by unfold scL; omega)) (onlyP_tr O O3), OL3⟩
                  exact (ml_line ht hB hR Y hs' pt (Or.inr (Or.inr ⟨h8, rfl⟩)) A D hD).trans (A3 D hD)
              · refine Or.inr ⟨c', f', sd', rs', br', nm', v', cs', q1, q2, ?_, ?_⟩
                · intro n J L nc ns nx l l1 l4 l2 X hl
                  obtain ⟨J', L', A, X', O, OL⟩ := CI n J L nc ns nx X
                  obtain ⟨J2, L2, nx2, u2, A2, X2, O2, OL2⟩ := Q1 n J' L' nc ns true (l + 1) l1 (some (.int 1)) l2 X' (by omega)
                  refine ⟨J2, L2, nx2, u2, fun D hD => ?_, X2, onlyP_tr O O2, oX_t OL OL2⟩
                  have := kl_line (n := n) (nc := nc) (ns := ns) (nx := nx) (l1 := l1) (l4 := l4) (l2 := l2) (b := true) hR hT rT X pt ht hl (Or.inr (Or.inr ⟨h8, rfl, rfl⟩)) (fun D hD => A D (by omega)) D hD
                  rw [if_pos rfl] at this
                  exact this.trans (A2 D hD)
                · intro n K L R nc ns nx a l1 hR Y hs'
                  obtain ⟨K1, K2, a', A, Y', s', O⟩ := MI n (atM K p) L R nc ns nx hR (MSX_at (p := p) Y hp)
                  obtain ⟨K3, L3, a3, A3, Y3, O3, OL3⟩ := Q2 n K2 L R nc ns nx a' l1 hR Y' s'
                  refine ⟨K3, L3, a3, fun D hD => ?_, Y3, onlyP_tr (onlyP_up onlyP_refl (by unfold scL; omega)) (onlyP_tr O O3), OL3⟩
                  exact (ml_line ht hB hR Y hs' pt (Or.inr (Or.inr ⟨h8, rfl⟩)) A D hD).trans (A3 D hD)
          · -- no line
            have hm' : (¬ kdT B t p = 0 ∨ c = 8) ∧ ¬ kdT B t p = 5 ∧ (¬ kdT B t p = 8 ∨ cl = true) := by
              refine ⟨?_, h5, ?_⟩
              · by_cases z : kdT B t p = 0
                · right
                  have : ¬ c < 8 := fun e => hI ⟨z, e⟩
                  omega
                · exact Or.inl z
              · by_cases z : kdT B t p = 8
                · right
                  cases cl with
                  | true => rfl
                  | false => exact absurd ⟨z, rfl⟩ hC
                · exact Or.inl z
            exact Or.inl ⟨p, hp, kl_no hR hT rT pt ht h15 hm', ml_no ht hB pt hc hm'⟩
end RA
