/-! READ: a line that tells an issue, in the model -/
section MI
variable {n d b c k t p T h nm g a q : Nat} {B : Nat → Int32} {f : Nat → List Nat} {sd rs br : Nat → Nat} {cl : Bool} {J K J' X : Nat → Nat → Int32} {L L' : Nat → Nat → Int64} {R : Nat → Nat → Option Nat} {nc ns : Nat} {nx : Bool} {x y : Int32} {cs : List CD}
theorem at_up {j : Nat} (ha : ¬ a = 265) : atM (ip_up X a j x) q = ip_up (atM X q) a j x := by
  unfold atM
  funext b k
  by_cases h1 : b = 265
  · subst h1
    by_cases h2 : k = 4
    · subst h2; rw [up_eq, up_a (fun e => ha e.symm), up_eq]
    · rw [up_k h2, up_a (fun e => ha e.symm), up_a (fun e => ha e.symm), up_k h2]
  · rw [up_a h1]
    by_cases h3 : b = a
    · subst h3
      by_cases h4 : k = j
      · subst h4; rw [up_eq, up_eq]
      · rw [up_k h4, up_k h4, up_a h1]
    · rw [up_a h3, up_a h3, up_a h1]
theorem RM_u {j : Nat} (h1 : ¬ a = 265) (h2 : ¬ a = 266) (Y : RM B t q X) : RM B t q (ip_up X a j x) := ⟨(up_a (fun e => h1 e.symm)).trans Y.1, (up_a (fun e => h1 e.symm)).trans Y.2.1, fun i hi => (up_a (fun e => h2 e.symm)).trans (Y.2.2 i hi)⟩
theorem mi_issue (hR : LYR R) (ht : t ≤ 400) (hB : ∀ i, i < t → ¬ B i = -1) (hc : c < 8) (Y : MSX B t c f sd rs br cl nm cs p K L) (ss : skT B t p = p) (hk : kdT B t p = 0) (o : Nat ⊕ (Nat × Nat × Nat)) (e : isp B t f c g p = some o) :
    match o with
    | .inl q => ∃ K1 K2 L1, (∀ D, 9 ≤ D → cf D 196 [.ref 265] (SH n, K, L, R, nc, ns, nx) = some (.inl none, (SH n, K1, L1, R, nc, ns, nx)) ∧ cf D 213 [.ref 265, .int 59] (SH n, K1, L1, R, nc, ns, nx) = some (.inl none, (SH n, K2, L1, R, nc, ns, nx))) ∧ K2 265 5 = Int32.ofNat q ∧ onlyP scL K K2 ∧ (∀ a k, ¬ a = 267 → L1 a k = L a k)
    | .inr z => ∃ K1 K2 L1 a', (∀ D, 9 ≤ D → cf D 196 [.ref 265] (SH n, K, L, R, nc, ns, nx) = some (.inl none, (SH n, K1, L1, R, nc, ns, nx)) ∧ cf D 213 [.ref 265, .int 59] (SH n, K1, L1, R, nc, ns, nx) = some (.inl none, (SH n, K2, L1, R, nc, ns, nx))) ∧ MSX B t (c + 1) (fuN f c (wl B t (nxT B t p))) (fuN sd c z.2.1) (fuN rs c z.2.2) br cl nm cs a' K2 L1 ∧ skT B t a' = z.1 ∧ onlyP scL K K2 ∧ (∀ a k, ¬ a = 267 → L1 a k = L a k) := by
  obtain ⟨y1, y2, y3, y4, y5, y6, y7, y8, y9, y10, y11, y12⟩ := Y
  have n10 : ¬ (1 : Int32) = 0 := by decide
  have lc : c < 2147483648 := by omega
  obtain ⟨q1, pt, q3⟩ := kd_en (j := 0) (by omega) hk
  have q1 : enT B t p = p + 5 := q1
  have n8 : (Int32.ofNat c = 8) = False := eq_false (fun e => by have := (nu_inj (s := 8) (by omega) (by omega)).mp e; omega)
  have e5 : Int32.ofNat p + 5 = Int32.ofNat (enT B t p) := by rw [q1]; exact nu_add (s := 5)
  have e5' : ip_up K 265 4 (Int32.ofNat (enT B t p)) = atM K (enT B t p) := rfl
  have N1 := nxT_le (B := B) (t := t) (p := p) (by omega)
  have Ka : RM B t (enT B t p) (atM K (enT B t p)) := RM_at y1
  have N := fun d => c198 (d := d) (n := n) (L := L) (nc := nc) (ns := ns) (nx := nx) (p := nxT B t p) hR ht hB Ka q3 rfl
  rw [atM_at] at N
  generalize hP1 : nxT B t p = P1 at *
  have Kp1 : RM B t P1 (atM K P1) := RM_at y1
  have s1 : skT B t P1 = P1 := by rw [← hP1]; exact skT_sk q3
  have F1 : ∀ q, atM K q 265 5 = -1 := fun q => (up_k (by decide)).trans y3
  have W1 := fun d => c197 (d := d) (n := n) (J := atM K P1) (L := L) (R := R) (nc := nc) (ns := ns) (nx := nx) (p := P1) up_eq (F1 P1)
  have w1 : ¬ ip_up (atM K P1) 265 5 (Int32.ofNat P1) 265 5 = -1 := by rw [up_eq]; exact nm1 (by omega)
  have OA : ∀ q, onlyP scL K (atM K q) := fun q => onlyP_up onlyP_refl (by unfold scL; omega)
  have OW1 : onlyP scL K (ip_up (atM K P1) 265 5 (Int32.ofNat P1)) := onlyP_up (OA P1) (by unfold scL; omega)
  unfold isp at e
  rw [hP1] at e
  split at e
  · rename_i h13
    rw [if_pos h13] at N
    have n6 := (kd_nm.mp h13).2.1
    have C := fun d => c200 (d := d) (n := n) (L := L) (nc := nc) (ns := ns) (nx := nx) (p := P1) (f := f) hR ht hB Kp1 (by omega) s1 h13 (by omega) ((up_k (by decide)).trans y4) y5
    rw [atM_at] at C
    unfold fIx at C
    rcases ffs_case (fun k => decide (f k = wl B t P1)) c 0 with ⟨z, -⟩ | ⟨j, a1, a2, a3, -⟩
    · rw [z] at e C
      dsimp only at e C
      have Nm := fun d => c201 (d := d) (n := n) (L := L) (nc := nc) (ns := ns) (nx := nx) (p := P1) hR ht hB Kp1 (by omega) s1 n6
      rw [atM_at] at Nm
      generalize hL1 : ip_up L 267 c (Int64.ofNat (pck (wl B t P1))) = L1
      have Wz := fun d => c195 (d := d) (n := n) (L := L1) (nc := nc) (ns := ns) (nx := nx) (p := P1) hR ht hB Kp1 (by omega) s1
      rw [atM_at] at Wz
      obtain ⟨u1, u2⟩ := kd_ne h13
      have u3 := (enT_le (B := B) (t := t) (p := P1) (by omega))
      have e4 : Int32.ofNat P1 + Int32.ofNat (rnn lxL B t P1 - P1) = Int32.ofNat (enT B t P1) := by rw [nu_add, u1]; congr 1; omega
      have e6 : ip_up (atM K P1) 265 4 (Int32.ofNat (enT B t P1)) = atM K (enT B t P1) := up_up
      have k4 : atM K P1 265 4 = Int32.ofNat P1 := up_eq
      have k6 : atM K P1 265 6 = Int32.ofNat c := (up_k (by decide)).trans y4
      have OL : ∀ a k, ¬ a = 267 → L1 a k = L a k := fun a k h => by rw [← hL1]; exact up_a h
      -- up to the standard
      have HD : ∀ D, 9 ≤ D → cf D 196 [.ref 265] (SH n, K, L, R, nc, ns, nx) = rf D 196 92 [some (.ref 265), some (.int (Int32.ofNat c)), none, none] [.ref 268] (SH n, atM K (enT B t P1), L1, R, nc, ns, nx) := by
        intro D hD
        obtain ⟨E, rfl⟩ : ∃ E, D = E + 4 + 1 := ⟨D - 5, by omega⟩
        simp only [en196, e196_0, e196_1, e196_4, e196_6, e196_9, e196_10, e196_13, e196_14, e196_17, e196_18, e196_21, e196_22, e196_23, e196_23r, e196_24, e196_27, e196_28, e196_29, e196_32, e196_33, e196_36, e196_39, e196_40, e196_43, e196_44, e196_47, e196_51, e196_52, e196_55, e196_56, e196_60, e196_61, e196_64, e196_65, e196_66, e196_69, e196_70, e196_71, e196_74, e196_75, e196_76, e196_76r, e196_77, e196_80, e196_81, e196_84, e196_85, e196_88, e196_89, rk_n, rk_v, nl_n, nl_i, nl_r, cat_n, ip_cat_int, ip_cat_ref, ip_cat_long, ip_rf_some, Nat.reduceAdd, Nat.reduceLeDiff, Nat.reduceLT, Nat.le_refl, Nat.zero_le, hR, y4, y3, n8, y1.2.1, e5, e5', N, C, F1, k6, ia_lit, nu_i, nu_tn, lc, hc, Nm, hL1, k4, Wz, e4, e6, n10, Bool.false_eq_true, Bool.true_eq_false, if_true, if_false, not_true_eq_false, not_false_eq_true, zle, eq_self]
      have Kb : RM B t (enT B t P1) (atM K (enT B t P1)) := RM_at y1
      have N2 := nxT_le (B := B) (t := t) (p := P1) (by omega)
      generalize hP2 : nxT B t P1 = P2 at *
      have sP2 : skT B t (enT B t P1) = P2 := hP2
      have s2 : skT B t P2 = P2 := by rw [← hP2]; exact skT_sk u3.2.1
      have Kp2 : RM B t P2 (atM K P2) := RM_at y1
      have en2 := (enT_le (B := B) (t := t) (p := P2) (by omega))
      -- the standard
      have ST : (∀ s, kdT B t P2 = s + 1 → s < 3 → ∀ D, 9 ≤ D → rf D 196 92 [some (.ref 265), some (.int (Int32.ofNat c)), none, none] [.ref 268] (SH n, atM K (enT B t P1), L1, R, nc, ns, nx) = rf D 196 144 [some (.ref 265), some (.int (Int32.ofNat c)), none, none] [] (SH n, ip_up (atM K (enT B t P2)) 268 c (Int32.ofNat s), L1, R, nc, ns, nx)) ∧ (¬ (1 ≤ kdT B t P2 ∧ kdT B t P2 ≤ 3) → ∀ D, 9 ≤ D → rf D 196 92 [some (.ref 265), some (.int (Int32.ofNat c)), none, none] [.ref 268] (SH n, atM K (enT B t P1), L1, R, nc, ns, nx) = rf D 196 144 [some (.ref 265), some (.int (Int32.ofNat c)), none, none] [] (SH n, ip_up (ip_up (atM K P2) 268 c 2) 265 5 (Int32.ofNat P2), L1, R, nc, ns, nx)) := by
        have TY := fun τ j (h1 : τ < 39) (h2 : j < 13) (h3 : ip_tb.getD τ [] = kwl.getD j []) (e : kdT B t P2 = j) d => c202 (d := d) (n := n) (L := L1) (nc := nc) (ns := ns) (nx := nx) (p := P2) hR ht hB Kb u3.2.1 sP2 (F1 _) h1 h2 h3 e
        have TN := fun τ j (h1 : τ < 39) (h2 : j < 13) (h3 : ip_tb.getD τ [] = kwl.getD j []) (e : ¬ kdT B t P2 = j) d => c202n (d := d) (n := n) (L := L1) (nc := nc) (ns := ns) (nx := nx) (p := P2) hR ht hB Kb u3.2.1 sP2 (F1 _) h1 h2 h3 e
        have TY2 := fun τ j (h1 : τ < 39) (h2 : j < 13) (h3 : ip_tb.getD τ [] = kwl.getD j []) (e : kdT B t P2 = j) d => c202 (d := d) (n := n) (L := L1) (nc := nc) (ns := ns) (nx := nx) (p := P2) hR ht hB Kp2 (by omega) s2 (F1 _) h1 h2 h3 e
        have TN2 := fun τ j (h1 : τ < 39) (h2 : j < 13) (h3 : ip_tb.getD τ [] = kwl.getD j []) (e : ¬ kdT B t P2 = j) d => c202n (d := d) (n := n) (L := L1) (nc := nc) (ns := ns) (nx := nx) (p := P2) hR ht hB Kp2 (by omega) s2 (F1 _) h1 h2 h3 e
        have Kq : RM B t P2 (ip_up (atM K P2) 268 c 2) := RM_u (by decide) (by decide) Kp2
        have Fq : ip_up (atM K P2) 268 c 2 265 5 = -1 := (up_a (by decide)).trans (F1 _)
        have TY3 := fun τ j (h1 : τ < 39) (h2 : j < 13) (h3 : ip_tb.getD τ [] = kwl.getD j []) (e : kdT B t P2 = j) d => c202 (d := d) (n := n) (L := L1) (nc := nc) (ns := ns) (nx := nx) (p := P2) hR ht hB Kq (by omega) s2 Fq h1 h2 h3 e
        have TN3 := fun τ j (h1 : τ < 39) (h2 : j < 13) (h3 : ip_tb.getD τ [] = kwl.getD j []) (e : ¬ kdT B t P2 = j) d => c202n (d := d) (n := n) (L := L1) (nc := nc) (ns := ns) (nx := nx) (p := P2) hR ht hB Kq (by omega) s2 Fq h1 h2 h3 e
        simp only [atM_at, at_up (show ¬ 268 = 265 by decide)] at TY TN TY2 TN2 TY3 TN3
        refine ⟨fun s hs h3 D hD => ?_, fun hs D hD => ?_⟩
        · obtain ⟨E, rfl⟩ : ∃ E, D = E + 3 + 1 := ⟨D - 4, by omega⟩
          have hs3 : s = 0 ∨ s = 1 ∨ s = 2 := by omega
          rcases hs3 with rfl | rfl | rfl
          · have a1 := TY 29 1 (by decide) (by decide) rfl hs
            simp only [e196_92, e196_93, e196_94, e196_96, e196_99, e196_102, e196_103, e196_120, e196_121, e196_122, e196_125, e196_126, e196_127, e196_128, rk_n, rk_v, nl_n, nl_i, nl_r, cat_n, ip_cat_int, ip_cat_ref, ip_cat_long, ip_rf_some, Nat.reduceAdd, Nat.reduceLeDiff, Nat.reduceLT, Nat.le_refl, Nat.zero_le, hR, a1, ia_lit, nu_i, nu_tn, lc, hc, up_eq, n10, (by decide : ¬ (0 : Int32) = 2), Bool.false_eq_true, Bool.true_eq_false, if_true, if_false, not_true_eq_false, not_false_eq_true, zle, eq_self]
            rfl
          · have a1 := TN 29 1 (by decide) (by decide) rfl (by omega)
            have a2 := TY2 30 2 (by decide) (by decide) rfl hs
            simp only [e196_92, e196_93, e196_94, e196_96, e196_99, e196_106, e196_107, e196_109, e196_112, e196_115, e196_116, e196_120, e196_121, e196_122, e196_125, e196_126, e196_127, e196_128, rk_n, rk_v, nl_n, nl_i, nl_r, cat_n, ip_cat_int, ip_cat_ref, ip_cat_long, ip_rf_some, Nat.reduceAdd, Nat.reduceLeDiff, Nat.reduceLT, Nat.le_refl, Nat.zero_le, hR, a1, a2, ia_lit, nu_i, nu_tn, lc, hc, up_eq, n10, (by decide : ¬ (1 : Int32) = 2), Bool.false_eq_true, Bool.true_eq_false, if_true, if_false, not_true_eq_false, not_false_eq_true, zle, eq_self]
            rfl
          · have a1 := TN 29 1 (by decide) (by decide) rfl (by omega)
            have a2 := TN2 30 2 (by decide) (by decide) rfl (by omega)
            have a3 := TY3 31 3 (by decide) (by decide) rfl hs
            simp only [e196_92, e196_93, e196_94, e196_96, e196_99, e196_106, e196_107, e196_109, e196_112, e196_119, e196_120, e196_121, e196_122, e196_125, e196_126, e196_127, e196_128, e196_131, e196_132, e196_134, e196_137, rk_n, rk_v, nl_n, nl_i, nl_r, cat_n, ip_cat_int, ip_cat_ref, ip_cat_long, ip_rf_some, Nat.reduceAdd, Nat.reduceLeDiff, Nat.reduceLT, Nat.le_refl, Nat.zero_le, hR, a1, a2, a3, ia_lit, nu_i, nu_tn, lc, hc, up_eq, n10, Bool.false_eq_true, Bool.true_eq_false, if_true, if_false, not_true_eq_false, not_false_eq_true, zle, eq_self]
            rfl
        · obtain ⟨E, rfl⟩ : ∃ E, D = E + 3 + 1 := ⟨D - 4, by omega⟩
          have a1 := TN 29 1 (by decide) (by decide) rfl (by omega)
          have a2 := TN2 30 2 (by decide) (by decide) rfl (by omega)
          have a3 := TN3 31 3 (by decide) (by decide) rfl (by omega)
          have W := fun d => c197 (d := d) (n := n) (L := L1) (R := R) (nc := nc) (ns := ns) (nx := nx) (p := P2) Kq.2.1 Fq
          simp only [e196_92, e196_93, e196_94, e196_96, e196_99, e196_106, e196_107, e196_109, e196_112, e196_119, e196_120, e196_121, e196_122, e196_125, e196_126, e196_127, e196_128, e196_131, e196_132, e196_134, e196_137, e196_140, e196_141, rk_n, rk_v, nl_n, nl_i, nl_r, cat_n, ip_cat_int, ip_cat_ref, ip_cat_long, ip_rf_some, Nat.reduceAdd, Nat.reduceLeDiff, Nat.reduceLT, Nat.le_refl, Nat.zero_le, hR, a1, a2, a3, W, ia_lit, nu_i, nu_tn, lc, hc, up_eq, n10, Bool.false_eq_true, Bool.true_eq_false, if_true, if_false, not_true_eq_false, not_false_eq_true, zle, eq_self]
      split at e
      · rename_i hs
        obtain ⟨s0, hs0⟩ : ∃ s0, kdT B t P2 = s0 + 1 := ⟨kdT B t P2 - 1, by omega⟩
        have sl : s0 < 3 := by omega
        have H2 := ST.1 s0 hs0 sl
        rw [show kdT B t P2 - 1 = s0 by omega] at e
        have pt2 : P2 < t := (kd_en (j := s0 + 1) (by omega) hs0).2.1
        have N3 := nxT_le (B := B) (t := t) (p := P2) (by omega)
        generalize hP3 : nxT B t P2 = P3 at *
        generalize hKc : ip_up (ip_up (atM K (enT B t P2)) 268 c (Int32.ofNat s0)) 269 c 0 = Kc
        have Kc1 : RM B t (enT B t P2) Kc := by rw [← hKc]; exact RM_u (by decide) (by decide) (RM_u (by decide) (by decide) (RM_at y1))
        have OKc : onlyP (fun a k => (a = 265 ∧ k = 4) ∨ (a = 268 ∧ k = c) ∨ (a = 269 ∧ k = c)) K Kc := by rw [← hKc]; exact onlyP_up (onlyP_up (onlyP_up onlyP_refl (by omega)) (by omega)) (by omega)
        have Kc5 : Kc 265 5 = -1 := (OKc 265 5 (by omega)).trans y3
        have Kc6 : Kc 265 6 = Int32.ofNat c := (OKc 265 6 (by omega)).trans y4
        have Kc9 : Kc 269 c = Int32.ofNat 0 := by rw [← hKc, up_eq]; rfl
        have Kc8 : Kc 268 c = Int32.ofNat s0 := by rw [← hKc, up_a (by decide), up_eq]
        have F' : ∀ k, k < c → okl (f k) ∧ (f k).length ≤ 6 ∧ L1 267 k = Int64.ofNat (pck (f k)) := fun k hk => ⟨(y5 k hk).1, (y5 k hk).2.1, by rw [← hL1, up_k (by omega)]; exact (y5 k hk).2.2⟩
        -- what it rests on
        have RES : ∀ x, (if kdT B t P3 = 4 then rsp B t f c g P3 0 else some (.inr (P3, 0))) = some x → match x with
            | .inl q => ∃ K3, (∀ D, 9 ≤ D → cf D 196 [.ref 265] (SH n, K, L, R, nc, ns, nx) = some (.inl none, (SH n, K3, L1, R, nc, ns, nx))) ∧ K3 265 5 = Int32.ofNat q ∧ onlyP scL K K3
            | .inr z => ∃ K3, (∀ D, 9 ≤ D → cf D 196 [.ref 265] (SH n, K, L, R, nc, ns, nx) = some (.inl none, (SH n, ip_up K3 265 6 (Int32.ofNat (c + 1)), L1, R, nc, ns, nx))) ∧ RM B t z.1 K3 ∧ z.1 ≤ t ∧ skT B t z.1 = z.1 ∧ K3 265 5 = -1 ∧ K3 269 c = Int32.ofNat z.2 ∧ onlyP (fun a k => (a = 265 ∧ (k = 4 ∨ k = 5)) ∨ (a = 268 ∧ k = c) ∨ (a = 269 ∧ k = c)) K K3 ∧ K3 268 c = Int32.ofNat s0 := by
          intro x ex
          have e1 : Int32.ofNat c + 1 = Int32.ofNat (c + 1) := nu_add (s := 1)
          split at ex
          · rename_i h4
            obtain ⟨v1, v2, v3⟩ := kd_en (j := 4) (by omega) h4
            have T := fun d => c202 (d := d) (n := n) (L := L1) (nc := nc) (ns := ns) (nx := nx) (p := P3) (τ := 32) (j := 4) hR ht hB Kc1 en2.2.1 hP3 Kc5 (by decide) (by decide) rfl h4
            have Q := t196 (n := n) (L := L1) (nc := nc) (ns := ns) (nx := nx) hR ht hB hc F' g P3 0 (enT B t P3) (atM Kc (enT B t P3)) x none (RM_at Kc1) v3 rfl ((up_k (by decide)).trans Kc5) ((up_k (by decide)).trans Kc6) ((up_a (by decide)).trans Kc9) v2 (Nat.two_pow_pos c) ex
            have W : ∀ D, 9 ≤ D → cf D 196 [.ref 265] (SH n, K, L, R, nc, ns, nx) = rf D 196 158 [some (.ref 265), some (.int (Int32.ofNat c)), some (.int 1), none] [] (SH n, atM Kc (enT B t P3), L1, R, nc, ns, nx) := by
              intro D hD
              rw [HD D hD, H2 D hD]
              obtain ⟨E, rfl⟩ : ∃ E, D = E + 3 + 1 := ⟨D - 4, by omega⟩
              simp only [e196_144, e196_145, e196_148, e196_149, e196_150, e196_151, e196_152, e196_154, e196_157, rk_n, rk_v, nl_n, nl_i, nl_r, cat_n, ip_cat_int, ip_cat_ref, ip_cat_long, ip_rf_some, Nat.reduceAdd, Nat.reduceLeDiff, Nat.reduceLT, Nat.le_refl, Nat.zero_le, hR, ia_lit, nu_i, nu_tn, lc, hc, hKc, T, Bool.false_eq_true, Bool.true_eq_false, if_true, if_false, not_true_eq_false, not_false_eq_true, zle, eq_self]
            cases x with
            | inl q =>
              obtain ⟨K3, A3, x5, O3⟩ := Q
              exact ⟨K3, fun D hD => (W D hD).trans (A3 D (by omega)), x5, onlyP_tr (onlyP_mono OKc (fun a k e => by unfold scL; omega)) (onlyP_tr (onlyP_up onlyP_refl (by unfold scL; omega)) (onlyP_mono O3 (fun a k e => by unfold scI at e; unfold scL; omega)))⟩
            | inr z =>
              obtain ⟨K3, l3', A3, X3, s3, x5, x9, O3⟩ := Q
              have rok := rsp_ok (by omega) g _ 0 z.1 z.2 v2 (Nat.two_pow_pos c) ex
              refine ⟨K3, fun D hD => ?_, X3, rok.2.1, s3, x5, x9, onlyP_tr (onlyP_mono OKc (fun a k e => by omega)) (onlyP_tr (onlyP_up onlyP_refl (by omega)) (onlyP_mono O3 (fun a k e => by unfold scI at e; omega))), ?_⟩
              · have k6' : K3 265 6 = Int32.ofNat c := by rw [O3 265 6 (by unfold scI; omega)]; exact (up_k (by decide)).trans Kc6
                rw [W D hD, A3 D (by omega)]
                simp only [e196_274, e196_275, e196_275r, e196_276, e196_279, e196_280, e196_281, e196_284, k6', e1]
              · rw [O3 268 c (by unfold scI; omega)]; exact (up_a (by decide)).trans Kc8
          · rename_i h4
            have ex := Option.some.inj ex
            subst ex
            have T := fun d => c202n (d := d) (n := n) (L := L1) (nc := nc) (ns := ns) (nx := nx) (p := P3) (τ := 32) (j := 4) hR ht hB Kc1 en2.2.1 hP3 Kc5 (by decide) (by decide) rfl h4
            refine ⟨atM Kc P3, fun D hD => ?_, RM_at Kc1, by dsimp only; omega, by dsimp only; rw [← hP3]; exact skT_sk en2.2.1, (up_k (by decide)).trans Kc5, (up_a (by decide)).trans Kc9, onlyP_tr (onlyP_mono OKc (fun a k e => by omega)) (onlyP_up onlyP_refl (by omega)), (up_a (by decide)).trans Kc8⟩
            have k6' : atM Kc P3 265 6 = Int32.ofNat c := (up_k (by decide)).trans Kc6
            rw [HD D hD, H2 D hD]
            obtain ⟨E, rfl⟩ : ∃ E, D = E + 3 + 1 := ⟨D - 4, by omega⟩
            simp only [e196_144, e196_145, e196_148, e196_149, e196_150, e196_151, e196_152, e196_154, e196_157, rk_n, rk_v, nl_n, nl_i, nl_r, cat_n, ip_cat_int, ip_cat_ref, ip_cat_long, ip_rf_some, Nat.reduceAdd, Nat.reduceLeDiff, Nat.reduceLT, Nat.le_refl, Nat.zero_le, hR, ia_lit, nu_i, nu_tn, lc, hc, hKc, T, Bool.false_eq_true, Bool.true_eq_false, if_true, if_false, not_true_eq_false, not_false_eq_true, zle, eq_self]
            rw [e196_158]
            simp only [e196_159, e196_274, e196_275, e196_275r, e196_276, e196_279, e196_280, e196_281, e196_284, k6', e1, Bool.false_eq_true, Bool.true_eq_false, if_true, if_false, not_true_eq_false, not_false_eq_true, zle, eq_self]
        rcases isp4_c e with ⟨q, e1, e2⟩ | ⟨p4, r, e1, e2⟩
        · subst e2
          obtain ⟨K3, A3, x5, O3⟩ := RES _ e1
          have hq : q ≤ 400 ∨ True := Or.inr trivial
          by_cases fq : K3 265 5 = -1
          · -- a fault is no -1
            have : q ≤ t ∨ ¬ q ≤ t := by omega
            exact ⟨K3, K3, L1, fun D hD => ⟨A3 D hD, by
              exfalso
              have hqt : ∃ z, rsp B t f c g P3 0 = some (.inl z) ∧ z = q := by
                split at e1
                · exact ⟨q, e1, rfl⟩
                · cases e1
              obtain ⟨z, hz, rfl⟩ := hqt
              have bd : ∀ g p r z, p ≤ t → rsp B t f c g p r = some (.inl z) → z ≤ t := by
                intro g
                induction g with
                | zero => intro p r z _ e; cases e
                | succ g ih =>
                  intro p r z hp e
                  have M1 := nxT_le (B := B) (t := t) (p := p) hp
                  have M2 := nxT_le (B := B) (t := t) (p := nxT B t p) M1.2.1
                  rw [rsp] at e
                  split at e
                  · split at e
                    · split at e
                      · have := Sum.inl.inj (Option.some.inj e); omega
                      · split at e
                        · exact ih _ _ _ M2.2.1 e
                        · cases e
                    · have := Sum.inl.inj (Option.some.inj e); omega
                  · have := Sum.inl.inj (Option.some.inj e); omega
              have := bd g P3 0 z N3.2.1 hz
              rw [x5] at fq
              exact nm1 (by omega) fq⟩, x5, O3, OL⟩
          · exact ⟨K3, K3, L1, fun D hD => ⟨A3 D hD, c213f fq⟩, x5, O3, OL⟩
        · obtain ⟨K3, A3, X3, z1, s3, x5, x9, O3, x8⟩ := RES _ e1
          dsimp only at X3 z1 s3 x9
          generalize hK4 : ip_up K3 265 6 (Int32.ofNat (c + 1)) = K4 at *
          have X4 : RM B t p4 K4 := by rw [← hK4]; exact ⟨(up_k (by decide)).trans X3.1, (up_k (by decide)).trans X3.2.1, fun i hi => (up_a (by decide)).trans (X3.2.2 i hi)⟩
          have O4 : onlyP (fun a k => (a = 265 ∧ (k = 4 ∨ k = 5 ∨ k = 6)) ∨ (a = 268 ∧ k = c) ∨ (a = 269 ∧ k = c)) K K4 := by rw [← hK4]; exact onlyP_up (onlyP_mono O3 (fun a k e => by omega)) (by omega)
          have f4 : K4 265 5 = -1 := by rw [← hK4, up_k (by decide)]; exact x5
          rcases e2 with ⟨h59, e2⟩ | ⟨h59, e2⟩
          · subst e2
            have Mu := fun d => c213 (d := d) (n := n) (L := L1) (nc := nc) (ns := ns) (nx := nx) (s := 59) (p := p4) (by omega) hR ht X4 z1 s3 f4 h59
            have en4 := (enT_le (B := B) (t := t) (p := p4) (by omega)).2.1
            have G : ∀ a k, ¬ ((a = 265 ∧ (k = 4 ∨ k = 5 ∨ k = 6)) ∨ (a = 268 ∧ k = c) ∨ (a = 269 ∧ k = c)) → atM K4 (enT B t p4) a k = K a k := by
              intro a k h
              unfold atM
              by_cases z : a = 265
              · subst z; rw [up_k (by omega)]; exact O4 _ _ (by omega)
              · rw [up_a z]; exact O4 _ _ (by omega)
            refine ⟨K4, atM K4 (enT B t p4), L1, enT B t p4, fun D hD => ⟨A3 D hD, ?_⟩, ⟨RM_at X4, en4, (up_k (by decide)).trans f4, ?_, fun k hk => ?_, fun k hk => ?_, fun k hk => ?_, fun i hi => ?_, ?_, ⟨?_, y10.2⟩, ⟨?_, fun i hi => ?_⟩, y12⟩, rfl, onlyP_up (onlyP_mono O4 (fun a k e => by unfold scL; omega)) (by unfold scL; omega), OL⟩
            · obtain ⟨E, rfl⟩ : ∃ E, D = E + 1 := ⟨D - 1, by omega⟩
              exact Mu E
            · unfold atM; rw [up_k (by decide), ← hK4, up_eq]
            · by_cases z : k = c
              · subst z; rw [fuN_e]
                exact ⟨wl_ok, by rw [wl_len]; exact n6, by rw [← hL1, up_eq]⟩
              · rw [fuN_n z]; exact F' k (by omega)
            · by_cases z : k = c
              · subst z; rw [fuN_e]; unfold atM; rw [up_a (by decide), ← hK4, up_a (by decide)]; exact x8
              · rw [fuN_n z, G 268 k (by omega)]; exact y6 k (by omega)
            · by_cases z : k = c
              · subst z; rw [fuN_e]; unfold atM; rw [up_a (by decide), ← hK4, up_a (by decide)]; exact x9
              · rw [fuN_n z, G 269 k (by omega)]; exact y7 k (by omega)
            · rw [G 270 i (by omega)]; exact y8 i hi
            · rw [G 265 7 (by omega)]; exact y9
            · rw [G 265 8 (by omega)]; exact y10.1
            · rw [G 265 9 (by omega)]; exact y11.1
            · rw [G 271 i (by omega), G 272 i (by omega), G 273 i (by omega)]; exact y11.2 i hi
          · subst e2
            have Mu := fun d => c213n (d := d) (n := n) (L := L1) (nc := nc) (ns := ns) (nx := nx) (s := 59) (p := p4) (by omega) hR ht X4 z1 s3 f4 h59
            refine ⟨K4, wrM K4 p4, L1, fun D hD => ⟨A3 D hD, ?_⟩, by unfold wrM; rw [up_eq], by unfold wrM; exact onlyP_up (onlyP_up (onlyP_mono O4 (fun a k e => by unfold scL; omega)) (by unfold scL; omega)) (by unfold scL; omega), OL⟩
            obtain ⟨E, rfl⟩ : ∃ E, D = E + 1 := ⟨D - 1, by omega⟩
            exact Mu E
      · rename_i hs
        have e := Option.some.inj e
        subst e
        have H2 := ST.2 hs
        generalize hK3 : ip_up (ip_up (atM K P2) 268 c 2) 265 5 (Int32.ofNat P2) = K3 at *
        have k5 : K3 265 5 = Int32.ofNat P2 := by rw [← hK3, up_eq]
        have k6' : K3 265 6 = Int32.ofNat c := by rw [← hK3, up_k (by decide), up_a (by decide)]; exact (up_k (by decide)).trans y4
        have O3 : onlyP scL K K3 := by rw [← hK3]; exact onlyP_up (onlyP_up (OA P2) (by unfold scL; omega)) (by unfold scL; omega)
        have f3 : ¬ ip_up K3 269 c 0 265 5 = -1 := by rw [up_a (by decide), k5]; exact nm1 (by omega)
        have T := fun d b => c202f (d := d) (n := n) (J := ip_up K3 269 c 0) (L := L1) (R := R) (nc := nc) (ns := ns) (nx := nx) (a := b) f3
        have k66 : ip_up K3 269 c 0 265 6 = Int32.ofNat c := (up_a (by decide)).trans k6'
        have e1 : Int32.ofNat c + 1 = Int32.ofNat (c + 1) := nu_add (s := 1)
        refine ⟨ip_up (ip_up K3 269 c 0) 265 6 (Int32.ofNat (c + 1)), ip_up (ip_up K3 269 c 0) 265 6 (Int32.ofNat (c + 1)), L1, fun D hD => ⟨?_, c213f (by rw [up_k (by decide)]; exact f3)⟩, by rw [up_k (by decide), up_a (by decide)]; exact k5, onlyP_up (onlyP_up O3 (by unfold scL; omega)) (by unfold scL; omega), OL⟩
        rw [HD D hD, H2 D hD]
        obtain ⟨E, rfl⟩ : ∃ E, D = E + 3 + 1 := ⟨D - 4, by omega⟩
        simp only [e196_144, e196_145, e196_148, e196_149, e196_150, e196_151, e196_152, e196_154, e196_157, rk_n, rk_v, nl_n, nl_i, nl_r, cat_n, ip_cat_int, ip_cat_ref, ip_cat_long, ip_rf_some, Nat.reduceAdd, Nat.reduceLeDiff, Nat.reduceLT, Nat.le_refl, Nat.zero_le, hR, ia_lit, nu_i, nu_tn, lc, hc, T, Bool.false_eq_true, Bool.true_eq_false, if_true, if_false, not_true_eq_false, not_false_eq_true, zle, eq_self]
        rw [e196_158]
        simp only [e196_159, e196_274, e196_275, e196_275r, e196_276, e196_279, e196_280, e196_281, e196_284, k66, e1, Bool.false_eq_true, Bool.true_eq_false, if_true, if_false, not_true_eq_false, not_false_eq_true, zle, eq_self]
    · rw [a1] at e C
      dsimp only at e C
      have e := Option.some.inj e
      subst e
      have nj : (Int32.ofNat j = -1) = False := eq_false (nm1 (by omega))
      refine ⟨ip_up (atM K P1) 265 5 (Int32.ofNat P1), ip_up (atM K P1) 265 5 (Int32.ofNat P1), L, fun D hD => ⟨?_, c213f w1⟩, up_eq, OW1, fun _ _ _ => rfl⟩
      obtain ⟨E, rfl⟩ : ∃ E, D = E + 4 + 1 := ⟨D - 5, by omega⟩
      simp only [en196, e196_0, e196_1, e196_4, e196_6, e196_9, e196_10, e196_13, e196_14, e196_17, e196_18, e196_21, e196_22, e196_23, e196_23r, e196_24, e196_27, e196_28, e196_29, e196_32, e196_33, e196_36, e196_39, e196_40, e196_43, e196_44, e196_47, e196_48, e196_51, e196_52, e196_55, e196_56, e196_59, e196_60, e196_61, e196_64, e196_65, e196_66, e196_69, e196_70, e196_71, e196_74, e196_75, e196_76, e196_76r, e196_77, e196_80, e196_81, e196_84, e196_85, e196_88, e196_89, e196_92, e196_93, e196_94, e196_96, e196_99, e196_102, e196_103, e196_106, e196_107, e196_109, e196_112, e196_115, e196_116, e196_119, e196_120, e196_121, e196_122, e196_125, e196_126, e196_127, e196_128, e196_131, e196_132, e196_134, e196_137, e196_140, e196_141, e196_144, e196_145, e196_148, e196_149, e196_150, e196_151, e196_152, e196_154, e196_157, e196_159, e196_162, e196_163, e196_166, e196_167, e196_170, e196_171, e196_174, e196_177, e196_178, e196_181, e196_184, e196_185, e196_186, e196_187, e196_188, e196_191, e196_192, e196_195, e196_196, e196_197, e196_198, e196_201, e196_204, e196_205, e196_208, e196_209, e196_212, e196_213, e196_216, e196_217, e196_218, e196_221, e196_222, e196_223, e196_224, e196_225, e196_226, e196_227, e196_228, e196_229, e196_230, e196_230r, e196_231, e196_234, e196_235, e196_238, e196_239, e196_242, e196_243, e196_246, e196_248, e196_251, e196_252, e196_255, e196_256, e196_257, e196_258, e196_261, e196_262, e196_262r, e196_263, e196_266, e196_267, e196_268, e196_271, e196_274, e196_275, e196_275r, e196_276, e196_279, e196_280, e196_281, e196_284, rk_n, rk_v, nl_n, nl_i, nl_r, cat_n, ip_cat_int, ip_cat_ref, ip_cat_long, ip_rf_some, Nat.reduceAdd, Nat.reduceLeDiff, Nat.reduceLT, Nat.le_refl, Nat.zero_le, hR, y4, y3, n8, y1.2.1, e5, e5', N, C, nj, W1, w1, n10, Bool.false_eq_true, Bool.true_eq_false, if_true, if_false, not_true_eq_false, not_false_eq_true, zle, eq_self]
  · rename_i h13
    rw [if_neg h13] at N
    have e := Option.some.inj e
    subst e
    refine ⟨ip_up (atM K P1) 265 5 (Int32.ofNat P1), ip_up (atM K P1) 265 5 (Int32.ofNat P1), L, fun D hD => ⟨?_, c213f w1⟩, up_eq, OW1, fun _ _ _ => rfl⟩
    obtain ⟨E, rfl⟩ : ∃ E, D = E + 4 + 1 := ⟨D - 5, by omega⟩
    simp only [en196, e196_0, e196_1, e196_4, e196_6, e196_9, e196_10, e196_13, e196_14, e196_17, e196_18, e196_21, e196_22, e196_23, e196_23r, e196_24, e196_27, e196_28, e196_29, e196_32, e196_33, e196_36, e196_39, e196_40, e196_43, e196_44, e196_47, e196_48, e196_51, e196_52, e196_55, e196_56, e196_59, e196_60, e196_61, e196_64, e196_65, e196_66, e196_69, e196_70, e196_71, e196_74, e196_75, e196_76, e196_76r, e196_77, e196_80, e196_81, e196_84, e196_85, e196_88, e196_89, e196_92, e196_93, e196_94, e196_96, e196_99, e196_102, e196_103, e196_106, e196_107, e196_109, e196_112, e196_115, e196_116, e196_119, e196_120, e196_121, e196_122, e196_125, e196_126, e196_127, e196_128, e196_131, e196_132, e196_134, e196_137, e196_140, e196_141, e196_144, e196_145, e196_148, e196_149, e196_150, e196_151, e196_152, e196_154, e196_157, e196_159, e196_162, e196_163, e196_166, e196_167, e196_170, e196_171, e196_174, e196_177, e196_178, e196_181, e196_184, e196_185, e196_186, e196_187, e196_188, e196_191, e196_192, e196_195, e196_196, e196_197, e196_198, e196_201, e196_204, e196_205, e196_208, e196_209, e196_212, e196_213, e196_216, e196_217, e196_218, e196_221, e196_222, e196_223, e196_224, e196_225, e196_226, e196_227, e196_228, e196_229, e196_230, e196_230r, e196_231, e196_234, e196_235, e196_238, e196_239, e196_242, e196_243, e196_246, e196_248, e196_251, e196_252, e196_255, e196_256, e196_257, e196_258, e196_261, e196_262, e196_262r, e196_263, e196_266, e196_267, e196_268, e196_271, e196_274, e196_275, e196_275r, e196_276, e196_279, e196_280, e196_281, e196_284, rk_n, rk_v, nl_n, nl_i, nl_r, cat_n, ip_cat_int, ip_cat_ref, ip_cat_long, ip_rf_some, Nat.reduceAdd, Nat.reduceLeDiff, Nat.reduceLT, Nat.le_refl, Nat.zero_le, hR, y4, y3, n8, y1.2.1, e5, e5', N, W1, w1, n10, Bool.false_eq_true, Bool.true_eq_false, if_true, if_false, not_true_eq_false, not_false_eq_true, zle, eq_self]
end MI
