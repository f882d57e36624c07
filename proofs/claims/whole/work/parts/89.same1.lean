/-! CALL BY CALL, class and model alike: the small ones -/
/-- through a wrapper: class and model answer alike -/
def SAMEX (wr mm : Nat) (as : List Value) (z : Int32 → Int64) : Prop := ∀ (n : Nat) (I : Nat → Nat → Int32) (L : Nat → Nat → Int64) (R : Nat → Nat → Option Nat) (nc ns : Nat) (nx : Bool) (T c N w t p : Nat), REL T c N w t p I L R →
  ∃ (code b : Int32) (I1 I2 : Nat → Nat → Int32) (L1 L2 : Nat → Nat → Int64) (R1 : Nat → Nat → Option Nat) (nc1 ns1 : Nat) (nx1 : Bool) (T' c' N' w' t' p' : Nat),
    (∀ d, cf (d + 14) wr ((.ref 2 :: as) ++ [.ref 307]) (SH n, I, L, R, nc, ns, nx) = some (.inl (some (.int code)), (SH n, I1, L1, R1, nc1, ns1, nx1))) ∧
    (∀ d, cf (d + 14) mm (.ref 265 :: as) (SH n, I1, L1, R1, nc1, ns1, nx1) = some (.inl (some (.int b)), (SH n, I2, L2, R1, nc1, ns1, nx1))) ∧
    I2 265 0 = code ∧ (code = 0 → L2 307 0 = z b) ∧ REL T' c' N' w' t' p' I2 L2 R1 ∧ nc1 ≤ nc + 1 ∧ ns1 ≤ ns + 6 ∧ (∀ k, I2 0 k = I 0 k)
/-- compared at once -/
def SAMEB (mc mm : Nat) (as : List Value) : Prop := ∀ (n : Nat) (I : Nat → Nat → Int32) (L : Nat → Nat → Int64) (R : Nat → Nat → Option Nat) (nc ns : Nat) (nx : Bool) (T c N w t p : Nat), REL T c N w t p I L R →
  ∃ (b : Int32) (I1 I2 : Nat → Nat → Int32) (L1 L2 : Nat → Nat → Int64) (R1 : Nat → Nat → Option Nat) (nc1 ns1 : Nat) (nx1 : Bool) (T' c' N' w' t' p' : Nat),
    (∀ d, cf (d + 14) mc (.ref 2 :: as) (SH n, I, L, R, nc, ns, nx) = some (.inl (some (.int b)), (SH n, I1, L1, R1, nc1, ns1, nx1))) ∧
    (∀ d, cf (d + 14) mm (.ref 265 :: as) (SH n, I1, L1, R1, nc1, ns1, nx1) = some (.inl (some (.int b)), (SH n, I2, L2, R1, nc1, ns1, nx1))) ∧
    REL T' c' N' w' t' p' I2 L2 R1 ∧ nc1 ≤ nc + 1 ∧ ns1 ≤ ns + 6 ∧ (∀ k, I2 0 k = I 0 k)
section S1
variable {n d a b T c s t z o w m p lev k side ap b0 b1 N q : Nat} {I J K I1 I2 : Nat → Nat → Int32} {L L' : Nat → Nat → Int64} {R R' : Nat → Nat → Option Nat} {nc ns : Nat} {nx : Bool} {x y j v u code : Int32} {P : Nat → Nat → Prop}
theorem L307 {v : Int64} : ∀ a k, ¬ a = 307 → ip_up L 307 0 v a k = L a k := fun a k h => up_a h
/-- queries: fine -/
theorem same_ok {wr mm : Nat} {as : List Value} {zf : Int32 → Int64} {nx1 : Bool} {R1 : Nat → Nat → Option Nat} (X : REL T c N w t p I L R) (v : Int64) (hz : v = zf u)
    (hw : ∀ d, cf (d + 14) wr ((.ref 2 :: as) ++ [.ref 307]) (SH n, I, L, R, nc, ns, nx) = some (.inl (some (.int 0)), (SH n, I1, ip_up L 307 0 v, R1, nc, ns, nx1)))
    (h1 : onlyP scC I I1) (hR : ∀ a k, ¬ (isC a ∧ k < 3) → R1 a k = R a k)
    (hm : ∀ d, cf (d + 14) mm (.ref 265 :: as) (SH n, I1, ip_up L 307 0 v, R1, nc, ns, nx1) = some (.inl (some (.int u)), (SH n, I2, ip_up L 307 0 v, R1, nc, ns, nx1)))
    (h2 : onlyP scM I1 I2) (h0 : I2 265 0 = 0) :
    ∃ (code b : Int32) (I1 I2 : Nat → Nat → Int32) (L1 L2 : Nat → Nat → Int64) (R1 : Nat → Nat → Option Nat) (nc1 ns1 : Nat) (nx1 : Bool) (T' c' N' w' t' p' : Nat),
    (∀ d, cf (d + 14) wr ((.ref 2 :: as) ++ [.ref 307]) (SH n, I, L, R, nc, ns, nx) = some (.inl (some (.int code)), (SH n, I1, L1, R1, nc1, ns1, nx1))) ∧
    (∀ d, cf (d + 14) mm (.ref 265 :: as) (SH n, I1, L1, R1, nc1, ns1, nx1) = some (.inl (some (.int b)), (SH n, I2, L2, R1, nc1, ns1, nx1))) ∧
    I2 265 0 = code ∧ (code = 0 → L2 307 0 = zf b) ∧ REL T' c' N' w' t' p' I2 L2 R1 ∧ nc1 ≤ nc + 1 ∧ ns1 ≤ ns + 6 ∧ (∀ k, I2 0 k = I 0 k) := by
  have H : onlyP scE I I2 := onlyP_tr (onlyP_mono h1 (fun _ _ e => Or.inl e)) (onlyP_mono h2 (fun _ _ e => Or.inr e))
  refine ⟨0, u, I1, I2, _, _, R1, nc, ns, nx1, T, c, N, w, t, p, hw, hm, h0, fun _ => by rw [up_eq]; exact hz, REL_q X H L307 hR, by omega, by omega, fun k => H 0 k (by unfold scE scC scM scr; omega)⟩
/-- queries: thrown -/
theorem same_x {wr mm : Nat} {as : List Value} {zf : Int32 → Int64} {R1 : Nat → Nat → Option Nat} (X : REL T c N w t p I L R) (hc : ¬ code = 0)
    (hw : ∀ d, cf (d + 14) wr ((.ref 2 :: as) ++ [.ref 307]) (SH n, I, L, R, nc, ns, nx) = some (.inl (some (.int code)), (SH n, I1, L, R1, nc + 1, ns + 6, true)))
    (h1 : onlyP scC I I1) (hR : ∀ a k, ¬ (isC a ∧ k < 3) → R1 a k = R a k)
    (hm : ∀ d, cf (d + 14) mm (.ref 265 :: as) (SH n, I1, L, R1, nc + 1, ns + 6, true) = some (.inl (some (.int u)), (SH n, I2, L, R1, nc + 1, ns + 6, true)))
    (h2 : onlyP scM I1 I2) (h0 : I2 265 0 = code) :
    ∃ (code b : Int32) (I1 I2 : Nat → Nat → Int32) (L1 L2 : Nat → Nat → Int64) (R1 : Nat → Nat → Option Nat) (nc1 ns1 : Nat) (nx1 : Bool) (T' c' N' w' t' p' : Nat),
    (∀ d, cf (d + 14) wr ((.ref 2 :: as) ++ [.ref 307]) (SH n, I, L, R, nc, ns, nx) = some (.inl (some (.int code)), (SH n, I1, L1, R1, nc1, ns1, nx1))) ∧
    (∀ d, cf (d + 14) mm (.ref 265 :: as) (SH n, I1, L1, R1, nc1, ns1, nx1) = some (.inl (some (.int b)), (SH n, I2, L2, R1, nc1, ns1, nx1))) ∧
    I2 265 0 = code ∧ (code = 0 → L2 307 0 = zf b) ∧ REL T' c' N' w' t' p' I2 L2 R1 ∧ nc1 ≤ nc + 1 ∧ ns1 ≤ ns + 6 ∧ (∀ k, I2 0 k = I 0 k) := by
  have H : onlyP scE I I2 := onlyP_tr (onlyP_mono h1 (fun _ _ e => Or.inl e)) (onlyP_mono h2 (fun _ _ e => Or.inr e))
  refine ⟨code, u, I1, I2, L, L, R1, nc + 1, ns + 6, true, T, c, N, w, t, p, hw, hm, h0, fun e => absurd e hc, REL_q X H (fun _ _ _ => rfl) hR, by omega, by omega, fun k => H 0 k (by unfold scE scC scM scr; omega)⟩
theorem scM_0 : onlyP scM I (ip_up I 265 0 v) := onlyP_up onlyP_refl (Or.inr ⟨rfl, Or.inl rfl⟩)
/-! numbers that are issues, nodes, sides, sets -/
theorem is_k {K : Nat} (hK : K ≤ 1000) : (¬ x < 0 ∧ x < Int32.ofNat K) ↔ ∃ k, k < K ∧ x = Int32.ofNat k := by
  constructor
  · rintro ⟨h1, h2⟩
    obtain ⟨t, h3, rfl⟩ := nu_of h1
    exact ⟨t, (nu_lt h3 (by omega)).mp h2, rfl⟩
  · rintro ⟨k, h1, rfl⟩
    exact ⟨nu_nn (by omega), (nu_lt (by omega) (by omega)).mpr h1⟩
theorem no_k {K : Nat} (h : ¬ (¬ x < 0 ∧ x < Int32.ofNat K)) : x < 0 ∨ ¬ x < Int32.ofNat K := by
  by_cases g : x < 0
  · exact Or.inl g
  · exact Or.inr (fun e => h ⟨g, e⟩)
theorem pr_n {K : Nat} (hK : K ≤ 1000) : (Int32.ofNat K - 1 < x) = ¬ x < Int32.ofNat K := propext (pred_lt (nu_nn (by omega)))
/-- GO -/
theorem S13 : SAMEX 122 243 [.int x] Int32.toInt64 := by
  intro n I L R nc ns nx T c N w t p X
  have X0 := X
  obtain ⟨x1, x2, ⟨⟨n1, n2, n3⟩, ⟨y1, y2⟩, ⟨y3, y4⟩, y5⟩, x4, x5, x6, x7⟩ := X
  by_cases g : ¬ x < 0 ∧ x < Int32.ofNat N
  · obtain ⟨k, hk, rfl⟩ := (is_k (by omega)).mp g
    have C := fun d => c123 (d := d + 12) (n := n) (I := I) (L := L) (R := R) (nc := nc) (ns := ns) (nx := nx) g.1 (by rw [y1]; exact g.2)
    refine ⟨0, Int32.ofNat w, ip_up I 2 7 (Int32.ofNat k), ip_up (ip_up (ip_up I 2 7 (Int32.ofNat k)) 265 0 0) 265 38 (Int32.ofNat k), ip_up L 307 0 (Int32.ofNat w).toInt64, ip_up L 307 0 (Int32.ofNat w).toInt64, R, nc, ns, nx, T, c, N, k, t, p, fun d => ?_, fun d => ?_, ?_, fun _ => by rw [up_eq], ?_, by omega, by omega, fun i => ?_⟩
    · have := w122 (C d)
      rw [y3] at this
      exact this
    · have M := c243 (d := d + 12) (n := n) (I := ip_up I 2 7 (Int32.ofNat k)) (L := ip_up L 307 0 (Int32.ofNat w).toInt64) (R := R) (nc := nc) (ns := ns) (nx := nx) g.1 (by rw [up_a (by decide), y2, pr_n (by omega)]; exact fun e => e g.2)
      rw [up_a (by decide), y4] at M
      exact M
    · rw [up_k (by decide), up_eq]
    · refine REL_q (I := ip_up (ip_up (ip_up I 2 7 (Int32.ofNat k)) 265 0 0) 265 38 (Int32.ofNat k)) (L := L) (R := R) ?_ onlyP_refl L307 (fun _ _ _ => rfl)
      have H : onlyP (fun a j => (a = 2 ∧ j = 7) ∨ (a = 265 ∧ (j = 0 ∨ j = 38))) I (ip_up (ip_up (ip_up I 2 7 (Int32.ofNat k)) 265 0 0) 265 38 (Int32.ofNat k)) := onlyP_up (onlyP_up (onlyP_up onlyP_refl (by omega)) (by omega)) (by omega)
      refine REL_P X0 H (fun a j e => by unfold scr; omega) ⟨hk, ?_, ?_⟩ (RTa_P x4 H (fun a j e => by omega)) (RPa_P x5 H (fun a j e => by omega))
      · rw [up_a (by decide), up_a (by decide), up_eq]
      · rw [up_eq]
    · rw [up_a (by decide), up_a (by decide), up_a (by decide)]
  · have g' := no_k g
    refine same_x (I1 := I) (I2 := ip_up I 265 0 1) (u := 0) (R1 := R) (code := 1) X0 (by decide) (fun d => ?_) onlyP_refl (fun _ _ _ => rfl) (fun d => ?_) scM_0 up_eq
    · exact w122x1 (x123 (d := d + 12) (by rw [y1]; exact g'))
    · exact b243 (d := d + 12) (by rw [y2, pr_n (by omega)]; exact g')
/-- FAULT -/
theorem S3 : SAMEB 16 214 [] := by
  intro n I L R nc ns nx T c N w t p X
  have e := X.2.2.2.2.2.1
  refine ⟨I 2 2, I, ip_up I 265 0 0, L, L, R, nc, ns, nx, T, c, N, w, t, p, fun d => c16, fun d => by rw [c214, ← e], REL_q X (onlyP_mono scM_0 (fun _ _ e => Or.inr e)) (fun _ _ _ => rfl) (fun _ _ _ => rfl), by omega, by omega, fun k => up_a (by decide)⟩
/-- END -/
theorem S1_ : SAMEB 15 191 [.int x] := by
  intro n I L R nc ns nx T c N w t p X
  have X0 := X
  obtain ⟨x1, x2, ⟨⟨n1, n2, n3⟩, ⟨y1, y2⟩, ⟨y3, y4⟩, y5⟩, ⟨z1, z2, z3, z4⟩, x5, x6, x7⟩ := X
  by_cases g : ¬ x < 0 ∧ x ≤ Int32.ofNat t
  · obtain ⟨k, hk, rfl⟩ := nu_of g.1
    have kt : k ≤ t := (nu_le hk (by omega)).mp g.2
    refine ⟨1, ip_up I 2 1 (Int32.ofNat k), ip_up (ip_up (ip_up I 2 1 (Int32.ofNat k)) 265 0 0) 265 2 (Int32.ofNat k), L, L, R, nc, ns, nx, T, c, N, w, k, p, fun d => c15 g.1 (by rw [z2]; exact g.2), fun d => c191 g.1 (by rw [up_a (by decide), z3]; exact g.2), ?_, by omega, by omega, fun i => by rw [up_a (by decide), up_a (by decide), up_a (by decide)]⟩
    have H : onlyP (fun a j => (a = 2 ∧ j = 1) ∨ (a = 265 ∧ (j = 0 ∨ j = 2))) I (ip_up (ip_up (ip_up I 2 1 (Int32.ofNat k)) 265 0 0) 265 2 (Int32.ofNat k)) := onlyP_up (onlyP_up (onlyP_up onlyP_refl (by omega)) (by omega)) (by omega)
    refine REL_P X0 H (fun a j e => by unfold scr; omega) ⟨n3, ?_, ?_⟩ ⟨by omega, ?_, ?_, fun i hi => ?_⟩ (RPa_P x5 H (fun a j e => by omega))
    · rw [H 2 7 (by omega)]; exact y3
    · rw [H 265 38 (by omega)]; exact y4
    · rw [up_a (by decide), up_a (by decide), up_eq]
    · rw [up_eq]
    · rw [H 3 i (by omega), H 266 i (by omega)]; exact z4 i (by omega)
  · have g' : x < 0 ∨ ¬ x ≤ Int32.ofNat t := by
      by_cases e : x < 0
      · exact Or.inl e
      · exact Or.inr (fun h => g ⟨e, h⟩)
    refine ⟨0, I, ip_up I 265 0 0, L, L, R, nc, ns, nx, T, c, N, w, t, p, fun d => b15 (by rw [z2]; exact g'), fun d => b191 (by rw [z3]; exact g'), REL_q X0 (onlyP_mono scM_0 (fun _ _ e => Or.inr e)) (fun _ _ _ => rfl) (fun _ _ _ => rfl), by omega, by omega, fun k => up_a (by decide)⟩
end S1
