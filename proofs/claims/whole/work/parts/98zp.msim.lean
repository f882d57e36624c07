/-! READ: the model reads a claim as it is told -/
/-- what comes of it -/
def oMf (n : Nat) (J : Nat → Nat → Int32) (L : Nat → Nat → Int64) (R : Nat → Nat → Option Nat) (nc ns : Nat) (nx : Bool) (w : Int32) (l2 : Option Value) (q : Nat) : Prop := ∃ J', (∀ D, 9 ≤ D → rf D 206 53 [some (.ref 265), some (.int w), l2] [] (SH n, J, L, R, nc, ns, nx) = some (.inl none, (SH n, J', L, R, nc, ns, nx))) ∧ J' 265 5 = Int32.ofNat q ∧ onlyP scK J J'
def oMg (n : Nat) (J : Nat → Nat → Int32) (L : Nat → Nat → Int64) (R : Nat → Nat → Option Nat) (nc ns : Nat) (nx : Bool) (w : Int32) (l2 : Option Value) (P : Nat → (Nat → Nat → Int32) → Prop) : Prop := ∃ J' a' l2', (∀ D, 9 ≤ D → rf D 206 53 [some (.ref 265), some (.int w), l2] [] (SH n, J, L, R, nc, ns, nx) = rf D 206 53 [some (.ref 265), some (.int 0), l2'] [] (SH n, J', L, R, nc, ns, nx)) ∧ P a' J'
section MSI
variable {n d a b c k t p T nm top ν dd a' : Nat} {α ω ω1 : Bool} {B : Nat → Int32} {f : Nat → List Nat} {J K J' : Nat → Nat → Int32} {L L' : Nat → Nat → Int64} {R : Nat → Nat → Option Nat} {nc ns : Nat} {nx : Bool} {x y z w : Int32} {CS : List CD} {q : CD} {l2 l3 : Option Value}
theorem oMf_s {J1 : Nat → Nat → Int32} {w1 : Int32} {q : Nat} (A : ∀ D, 9 ≤ D → rf D 206 53 [some (.ref 265), some (.int w), l2] [] (SH n, J, L, R, nc, ns, nx) = rf D 206 53 [some (.ref 265), some (.int w1), l3] [] (SH n, J1, L, R, nc, ns, nx)) (O : onlyP scK J J1) (X : oMf n J1 L R nc ns nx w1 l3 q) : oMf n J L R nc ns nx w l2 q := by
  obtain ⟨J', A', h1, h2⟩ := X
  exact ⟨J', fun D hD => (A D hD).trans (A' D hD), h1, onlyP_tr O h2⟩
theorem oMg_s {J1 : Nat → Nat → Int32} {w1 : Int32} {P Q : Nat → (Nat → Nat → Int32) → Prop} (A : ∀ D, 9 ≤ D → rf D 206 53 [some (.ref 265), some (.int w), l2] [] (SH n, J, L, R, nc, ns, nx) = rf D 206 53 [some (.ref 265), some (.int w1), l3] [] (SH n, J1, L, R, nc, ns, nx)) (X : oMg n J1 L R nc ns nx w1 l3 P) (H : ∀ a J', P a J' → Q a J') : oMg n J L R nc ns nx w l2 Q := by
  obtain ⟨J', a', l', A', h1⟩ := X
  exact ⟨J', a', l', fun D hD => (A D hD).trans (A' D hD), H a' J' h1⟩
def PE (B : Nat → Int32) (t c : Nat) (CS : List CD) (top d : Nat) (J : Nat → Nat → Int32) (r : SRs) (a' : Nat) (J' : Nat → Nat → Int32) : Prop := ∃ CSf ω', MS B t c a' r.2.1 CSf top 0 false ω' d J' ∧ skT B t a' = r.1 ∧ CSf ++ orl ω' = CS ++ r.2.2.1 ∧ ¬ kdT B t r.1 = 9 ∧ ¬ kdT B t r.1 = 10 ∧ SM top J J'
def PB (B : Nat → Int32) (t c : Nat) (CS : List CD) (top : Nat) (ω : Bool) (d : Nat) (J : Nat → Nat → Int32) (r : SRs) (a' : Nat) (J' : Nat → Nat → Int32) : Prop := MS B t c a' r.2.1 (CS ++ r.2.2.1) top 0 false ω d J' ∧ skT B t a' = r.1 ∧ ¬ kdT B t r.1 = 10 ∧ SM top J J'
def PP (B : Nat → Int32) (t c : Nat) (CS : List CD) (top ν : Nat) (α ω : Bool) (d : Nat) (J : Nat → Nat → Int32) (r : SRs) (a' : Nat) (J' : Nat → Nat → Int32) : Prop := MS B t c a' r.2.1 (CS ++ r.2.2.1 ++ (ntl ν ++ anl α)) top 0 false ω (d - ν) J' ∧ skT B t a' = r.1 ∧ SM top J J'
def PS (B : Nat → Int32) (t c : Nat) (CS : List CD) (top d : Nat) (J : Nat → Nat → Int32) (r : SRs) (a' : Nat) (J' : Nat → Nat → Int32) : Prop := ∃ CSf ω', MS B t c a' r.2.1 CSf top 0 false ω' d J' ∧ skT B t a' = r.1 ∧ CSf ++ orl ω' = CS ++ r.2.2.1 ∧ ¬ kdT B t r.1 = 9 ∧ ¬ kdT B t r.1 = 10 ∧ ¬ kdT B t r.1 = 44 ∧ onlyP scK J J' ∧ (∀ j a, j < top → 281 ≤ a → a ≤ 286 → J' a j = J a j) ∧ J' 281 top = 2 ∧ J' 282 top = J 282 top ∧ J' 283 top = Int32.ofNat r.2.2.2.2
theorem orl_le {ω : Bool} : (orl ω).length ≤ 1 := by cases ω <;> decide
theorem anl_le {α : Bool} : (anl α).length ≤ 1 := by cases α <;> decide
theorem ml_sim (hR : LYR R) (ht : t ≤ 400) (hB : ∀ i, i < t → ¬ B i = -1) (hc8 : c ≤ 8) (F : ∀ k, k < c → okl (f k) ∧ (f k).length ≤ 6 ∧ L 267 k = Int64.ofNat (pck (f k))) : ∀ g,
    (∀ d p nm cs v k a CS top J o l2, d ≤ 6 → top ≤ d → MS B t c a nm CS top 0 false false d J → skT B t a = p → CS.length ≤ p → sp B t f c g 0 d p nm cs v k = some o → match o with | .inl q => oMf n J L R nc ns nx 1 l2 q | .inr r => oMg n J L R nc ns nx 1 l2 (PE B t c CS top d J r)) ∧
    (∀ d p nm cs v k a CS CSf ω top J o l2, d ≤ 6 → top ≤ d → MS B t c a nm CSf top 0 false ω d J → CSf ++ orl ω = CS ++ cs → ¬ kdT B t p = 10 → skT B t a = p → (CS ++ cs).length ≤ p → sp B t f c g 1 d p nm cs v k = some o → match o with | .inl q => oMf n J L R nc ns nx 0 l2 q | .inr r => oMg n J L R nc ns nx 0 l2 (PE B t c CS top d J r)) ∧
    (∀ d p nm cs v k a CS ω top J o l2, d ≤ 6 → top ≤ d → MS B t c a nm CS top 0 false ω d J → skT B t a = p → CS.length + (orl ω).length ≤ p → sp B t f c g 2 d p nm cs v k = some o → match o with | .inl q => oMf n J L R nc ns nx 1 l2 q | .inr r => oMg n J L R nc ns nx 1 l2 (PB B t c CS top ω d J r)) ∧
    (∀ d p nm cs v k a CS ω top J o l2, d ≤ 6 → top ≤ d → MS B t c a nm (CS ++ cs) top 0 false ω d J → skT B t a = p → (CS ++ cs).length + (orl ω).length ≤ p → sp B t f c g 3 d p nm cs v k = some o → match o with | .inl q => oMf n J L R nc ns nx 0 l2 q | .inr r => oMg n J L R nc ns nx 0 l2 (PB B t c CS top ω d J r)) ∧
    (∀ d p nm cs v k a CS ν α ω top J o l2, d ≤ 6 → top + ν ≤ d → MS B t c a nm CS top ν α ω d J → skT B t a = p → CS.length + ν + (anl α).length + (orl ω).length ≤ p → sp B t f c g 4 d p nm cs v k = some o → match o with | .inl q => oMf n J L R nc ns nx 1 l2 q | .inr r => oMg n J L R nc ns nx 1 l2 (PP B t c CS top ν α ω d J r)) ∧
    (∀ d p nm cs v k a CS top J o l2, d ≤ 6 → top ≤ d → MS B t c a nm (CS ++ cs) top 0 false false d J → a = enT B t p → p < t → k ≤ p → (CS ++ cs).length ≤ p → J 281 top = 2 → J 283 top = Int32.ofNat (k + 1) → sp B t f c g 5 d p nm cs v k = some o → match o with | .inl q => oMf n J L R nc ns nx 1 l2 q | .inr r => oMg n J L R nc ns nx 1 l2 (PS B t c CS top d J r)) := by
  intro g
  induction g with
  | zero =>
    refine ⟨?_, ?_, ?_, ?_, ?_, ?_⟩
    · intro d p nm cs v k a CS top J o l2 _ _ _ _ _ e; cases e
    · intro d p nm cs v k a CS CSf ω top J o l2 _ _ _ _ _ _ _ e; cases e
    · intro d p nm cs v k a CS ω top J o l2 _ _ _ _ _ e; cases e
    · intro d p nm cs v k a CS ω top J o l2 _ _ _ _ _ e; cases e
    · intro d p nm cs v k a CS ν α ω top J o l2 _ _ _ _ _ e; cases e
    · intro d p nm cs v k a CS top J o l2 _ _ _ _ _ _ _ _ _ e; cases e
  | succ g ih =>
    obtain ⟨i0, i1, i2, i3, i4, i5⟩ := ih
    have OK := fun m d p nm cs v k r => sp_ok (B := B) (f := f) ht hc8 g m d p nm cs v k r
    refine ⟨?_, ?_, ?_, ?_, ?_, ?_⟩
    · intro d p nm cs v k a CS top J o l2 hd htp X hs hl e
      have hp : p ≤ t := hs ▸ (skT_le X.2.1).2
      rw [sp_0] at e
      rcases bnd_c e with ⟨q, e1, e2⟩ | ⟨p1, nm1', cs1, v1, j1, e1, e2⟩
      · subst e2
        exact i2 d p nm _ _ _ a CS false top J _ l2 hd htp X hs (by show CS.length + 0 ≤ p; omega) e1
      · have Q := i2 d p nm _ _ _ a CS false top J _ l2 hd htp X hs (by show CS.length + 0 ≤ p; omega) e1
        obtain ⟨J1, a1, l1, A1, X1, s1, k1, S1⟩ := Q
        have ok := OK _ _ _ _ _ _ _ _ (by omega) hp X.2.2.2.2.1.2 (by omega) e1
        obtain ⟨o1, o2, o3, o4, o5, o6⟩ := ok
        rw [if_neg (by omega), if_neg (by omega)] at o6
        have o61 := o6.1
        dsimp only at X1 s1 k1 o1 o61
        have Q := i1 d p1 nm1' cs1 v1 0 a1 CS (CS ++ cs1) false top J1 o l1 hd htp X1 (by simp [orl]) k1 s1 (by rw [List.length_append]; omega) e2
        cases o with
        | inl q => exact oMf_s A1 S1.1 Q
        | inr r =>
          refine oMg_s A1 Q (fun a2 J2 P => ?_)
          obtain ⟨CSf, ω', b1, b2, b3, b4, b5, b6⟩ := P
          exact ⟨CSf, ω', b1, b2, b3, b4, b5, SM_t S1 b6⟩
    · intro d p nm cs v k a CS CSf ω top J o l2 hd htp X hC k10 hs hl e
      have hp : p ≤ t := hs ▸ (skT_le X.2.1).2
      have NX := nxT_le (B := B) (t := t) (p := p) hp
      have lC : CSf.length + (orl ω).length = (CS ++ cs).length := by rw [← hC, List.length_append]
      rw [sp_1] at e
      split at e
      · rename_i hk
        have lt := (kd_en (j := 9) (by omega) hk).2.1
        have NX3 := NX.2.2 lt
        obtain ⟨J0, A0, X0, S0⟩ := h_or (n := n) (L := L) (nc := nc) (ns := ns) (nx := nx) (l2 := l2) hR ht hB X hs hk (by omega)
        rw [hC] at X0
        rcases bnd_c e with ⟨q, e1, e2⟩ | ⟨p1, nm1', cs1, v1, j1, e1, e2⟩
        · subst e2
          exact oMf_s A0 S0.1 (i2 d (nxT B t p) nm _ _ _ _ (CS ++ cs) true top J0 _ _ hd htp X0 rfl (by show (CS ++ cs).length + 1 ≤ _; omega) e1)
        · have Q := i2 d (nxT B t p) nm _ _ _ _ (CS ++ cs) true top J0 _ (some (.int (hv B t p))) hd htp X0 rfl (by show (CS ++ cs).length + 1 ≤ _; omega) e1
          obtain ⟨J1, a1, l1, A1, X1, s1, k1, S1⟩ := Q
          have ok := OK _ _ _ _ _ _ _ _ (by omega) NX.2.1 X.2.2.2.2.1.2 (by omega) e1
          obtain ⟨o1, o2, o3, o4, o5, o6⟩ := ok
          rw [if_neg (by omega), if_neg (by omega)] at o6
          have o61 := o6.1
          dsimp only at X1 s1 k1 o1 o61
          have Q := i1 d p1 nm1' (cs ++ cs1 ++ [(3, 0, 0)]) (vOr v v1) 0 a1 CS (CS ++ cs ++ cs1) true top J1 o l1 hd htp X1 (by simp [orl]) k1 s1 (by simp only [List.length_append, List.length_cons, List.length_nil] at hl ⊢; omega) e2
          have A01 : ∀ D, 9 ≤ D → rf D 206 53 [some (.ref 265), some (.int 0), l2] [] (SH n, J, L, R, nc, ns, nx) = rf D 206 53 [some (.ref 265), some (.int 0), l1] [] (SH n, J1, L, R, nc, ns, nx) := fun D hD => (A0 D hD).trans (A1 D hD)
          have S01 := SM_t S0 S1
          cases o with
          | inl q => exact oMf_s A01 S01.1 Q
          | inr r =>
            refine oMg_s A01 Q (fun a2 J2 P => ?_)
            obtain ⟨CSf', ω', b1, b2, b3, b4, b5, b6⟩ := P
            exact ⟨CSf', ω', b1, b2, b3, b4, b5, SM_t S01 b6⟩
      · rename_i hk
        have e := Option.some.inj e
        subst e
        exact ⟨J, a, l2, fun _ _ => rfl, CSf, ω, X, hs, hC, hk, k10, SM_r⟩
    · intro d p nm cs v k a CS ω top J o l2 hd htp X hs hl e
      have hp : p ≤ t := hs ▸ (skT_le X.2.1).2
      rw [sp_2] at e
      rcases bnd_c e with ⟨q, e1, e2⟩ | ⟨p1, nm1', cs1, v1, j1, e1, e2⟩
      · subst e2
        exact i4 d p nm _ _ _ a CS 0 false ω top J _ l2 hd (by omega) X hs (by show CS.length + 0 + 0 + _ ≤ p; omega) e1
      · have Q := i4 d p nm _ _ _ a CS 0 false ω top J _ l2 hd (by omega) X hs (by show CS.length + 0 + 0 + _ ≤ p; omega) e1
        obtain ⟨J1, a1, l1, A1, X1, s1, S1⟩ := Q
        have ok := OK _ _ _ _ _ _ _ _ (by omega) hp X.2.2.2.2.1.2 (by omega) e1
        obtain ⟨o1, o2, o3, o4, o5, o6⟩ := ok
        rw [if_neg (by omega), if_neg (by omega)] at o6
        have o61 := o6.1
        have z0 : ntl 0 ++ anl false = [] := rfl
        dsimp only at X1 s1 o1 o61
        rw [z0, List.append_nil, Nat.sub_zero] at X1
        have Q := i3 d p1 nm1' cs1 v1 0 a1 CS ω top J1 o l1 hd htp X1 s1 (by rw [List.length_append]; omega) e2
        cases o with
        | inl q => exact oMf_s A1 S1.1 Q
        | inr r =>
          refine oMg_s A1 Q (fun a2 J2 P => ?_)
          obtain ⟨b1, b2, b3, b4⟩ := P
          exact ⟨b1, b2, b3, SM_t S1 b4⟩
    · intro d p nm cs v k a CS ω top J o l2 hd htp X hs hl e
      have hp : p ≤ t := hs ▸ (skT_le X.2.1).2
      have NX := nxT_le (B := B) (t := t) (p := p) hp
      rw [sp_3] at e
      split at e
      · rename_i hk
        have lt := (kd_en (j := 10) (by omega) hk).2.1
        have NX3 := NX.2.2 lt
        obtain ⟨J0, A0, X0, S0⟩ := h_and (n := n) (L := L) (nc := nc) (ns := ns) (nx := nx) (l2 := l2) hR ht hB X hs hk
        rcases bnd_c e with ⟨q, e1, e2⟩ | ⟨p1, nm1', cs1, v1, j1, e1, e2⟩
        · subst e2
          exact oMf_s A0 S0.1 (i4 d (nxT B t p) nm _ _ _ _ (CS ++ cs) 0 true ω top J0 _ _ hd (by omega) X0 rfl (by show (CS ++ cs).length + 0 + 1 + _ ≤ _; omega) e1)
        · have Q := i4 d (nxT B t p) nm _ _ _ _ (CS ++ cs) 0 true ω top J0 _ (some (.int (hv B t p))) hd (by omega) X0 rfl (by show (CS ++ cs).length + 0 + 1 + _ ≤ _; omega) e1
          obtain ⟨J1, a1, l1, A1, X1, s1, S1⟩ := Q
          have ok := OK _ _ _ _ _ _ _ _ (by omega) NX.2.1 X.2.2.2.2.1.2 (by omega) e1
          obtain ⟨o1, o2, o3, o4, o5, o6⟩ := ok
          rw [if_neg (by omega), if_neg (by omega)] at o6
          have o61 := o6.1
          have z0 : ntl 0 ++ anl true = [(2, 0, 0)] := rfl
          dsimp only at X1 s1 o1 o61
          rw [z0, Nat.sub_zero] at X1
          have eC : CS ++ cs ++ cs1 ++ [(2, 0, 0)] = CS ++ (cs ++ cs1 ++ [(2, 0, 0)]) := by simp
          rw [eC] at X1
          have Q := i3 d p1 nm1' (cs ++ cs1 ++ [(2, 0, 0)]) (vAnd v v1) 0 a1 CS ω top J1 o l1 hd htp X1 s1 (by simp only [List.length_append, List.length_cons, List.length_nil] at hl ⊢; omega) e2
          have A01 : ∀ D, 9 ≤ D → rf D 206 53 [some (.ref 265), some (.int 0), l2] [] (SH n, J, L, R, nc, ns, nx) = rf D 206 53 [some (.ref 265), some (.int 0), l1] [] (SH n, J1, L, R, nc, ns, nx) := fun D hD => (A0 D hD).trans (A1 D hD)
          have S01 := SM_t S0 S1
          cases o with
          | inl q => exact oMf_s A01 S01.1 Q
          | inr r =>
            refine oMg_s A01 Q (fun a2 J2 P => ?_)
            obtain ⟨b1, b2, b3, b4⟩ := P
            exact ⟨b1, b2, b3, SM_t S01 b4⟩
      · rename_i hk
        have e := Option.some.inj e
        subst e
        exact ⟨J, a, l2, fun _ _ => rfl, X, hs, hk, SM_r⟩
    · intro d p nm cs v k a CS ν α ω top J o l2 hd htp X hs hl e
      have hp : p ≤ t := hs ▸ (skT_le X.2.1).2
      have NX := nxT_le (B := B) (t := t) (p := p) hp
      have F5 := X.2.2.1
      have al := anl_le (α := α)
      rw [sp_4] at e
      unfold spP at e
      split at e
      · rename_i hk
        have lt := (kd_en (j := 11) (by omega) hk).2.1
        have NX3 := NX.2.2 lt
        split at e
        · rename_i hd6
          obtain ⟨J0, A0, X0, S0⟩ := p_not (n := n) (L := L) (nc := nc) (ns := ns) (nx := nx) hR ht hB X hs hk hd6 (by omega)
          have A0 : ∀ D, 9 ≤ D → rf D 206 53 [some (.ref 265), some (.int 1), l2] [] (SH n, J, L, R, nc, ns, nx) = rf D 206 53 [some (.ref 265), some (.int 1), l2] [] (SH n, J0, L, R, nc, ns, nx) := fun D hD => h_p0 F5 A0 D (by omega)
          rcases bnd_c e with ⟨q, e1, e2⟩ | ⟨p1, nm1', cs1, v1, j1, e1, e2⟩
          · subst e2
            exact oMf_s A0 S0.1 (i4 (d + 1) (nxT B t p) nm _ _ _ _ CS (ν + 1) α ω top J0 _ _ (by omega) (by omega) X0 rfl (by omega) e1)
          · have e2 := Option.some.inj e2
            subst e2
            refine oMg_s A0 (i4 (d + 1) (nxT B t p) nm _ _ _ _ CS (ν + 1) α ω top J0 _ _ (by omega) (by omega) X0 rfl (by omega) e1) (fun a2 J2 P => ?_)
            obtain ⟨b1, b2, b3⟩ := P
            refine ⟨?_, b2, SM_t S0 b3⟩
            have eC : CS ++ cs1 ++ (ntl (ν + 1) ++ anl α) = CS ++ (cs1 ++ [(1, 0, 0)]) ++ (ntl ν ++ anl α) := by unfold ntl; rw [List.replicate_succ]; simp
            dsimp only at b1
            rw [eC, show d + 1 - (ν + 1) = d - ν by omega] at b1
            exact b1
        · rename_i hd6
          have e := Option.some.inj e
          subst e
          exact h_pF (by omega) F5 (p_notx hR ht hB X hs hk (by omega))
      · rename_i nk11
        split at e
        · rename_i hk
          have d1 : isD B t p = false := by
            cases z : isD B t p with
            | false => rfl
            | true => have := kd_dg z; omega
          have PN := p_nm (n := n) (L := L) (nc := nc) (ns := ns) (nx := nx) (f := f) hR ht hB X hs nk11 (by omega) d1 hc8 F (by omega) (by omega) (by omega)
          rcases ffs_case (fun k => decide (f k = wl B t p)) c 0 with ⟨z, -⟩ | ⟨j, z1, z2, z3, -⟩
          · rw [z] at e
            have e := Option.some.inj e
            subst e
            exact h_pF (by omega) F5 (PN.2 (fun q => by obtain ⟨-, ⟨k, q⟩, -⟩ := q; rw [z] at q; cases q))
          · rw [z1] at e
            dsimp only at e
            split at e
            · rename_i hn
              have e := Option.some.inj e
              subst e
              obtain ⟨J0, A0, X0, S0⟩ := PN.1 j hk z1 hn
              exact ⟨J0, enT B t p, l2, fun D hD => h_p1 F5 A0 D (by omega), X0, rfl, S0⟩
            · rename_i hn
              have e := Option.some.inj e
              subst e
              exact h_pF (by omega) F5 (PN.2 (fun q => hn q.2.2))
        · rename_i nk13
          split at e
          · rename_i hk
            have lt := (kd_sn (s := 40) (by omega) hk).2
            have NX3 := NX.2.2 lt
            split at e
            · rename_i hd6
              obtain ⟨J0, A0, X0, S0, f0, G0⟩ := p_br (n := n) (L := L) (nc := nc) (ns := ns) (nx := nx) hR ht hB X hs hk hd6 (by omega)
              have A0 : ∀ D, 9 ≤ D → rf D 206 53 [some (.ref 265), some (.int 1), l2] [] (SH n, J, L, R, nc, ns, nx) = rf D 206 53 [some (.ref 265), some (.int 1), l2] [] (SH n, J0, L, R, nc, ns, nx) := fun D hD => h_p0 F5 A0 D (by omega)
              rcases bnd_c e with ⟨q, e1, e2⟩ | ⟨p1, nm1', cs1, v1, j1, e1, e2⟩
              · subst e2
                exact oMf_s A0 S0.1 (i0 (d + 1) (nxT B t p) nm _ _ _ _ CS (top + 1) J0 _ _ (by omega) (by omega) X0 rfl (by omega) e1)
              · have Q := i0 (d + 1) (nxT B t p) nm _ _ _ _ CS (top + 1) J0 _ l2 (by omega) (by omega) X0 rfl (by omega) e1
                obtain ⟨J1, a1, l1, A1, CSf, ω', X1, s1, hC, k9, k10, S1⟩ := Q
                have ok := OK _ _ _ _ _ _ _ _ (by omega) NX.2.1 X.2.2.2.2.1.2 (by omega) e1
                obtain ⟨o1, o2, o3, o4, o5, o6⟩ := ok
                rw [if_neg (by omega), if_neg (by omega)] at o6
                have o61 := o6.1
                dsimp only at X1 s1 k9 k10 hC o1 o2 o61
                have lC : CSf.length + (orl ω').length = CS.length + cs1.length := by rw [← List.length_append, hC, List.length_append]
                have A01 : ∀ D, 9 ≤ D → rf D 206 53 [some (.ref 265), some (.int 1), l2] [] (SH n, J, L, R, nc, ns, nx) = rf D 206 53 [some (.ref 265), some (.int 0), l1] [] (SH n, J1, L, R, nc, ns, nx) := fun D hD => (A0 D hD).trans (A1 D hD)
                have f1 : J1 281 (top + 1) = 1 := (S1.2.2 281 (by omega) (by omega)).trans f0
                have S01 := SM_t S0 (SM_d S1)
                split at e2
                · rename_i hk1
                  have e2 := Option.some.inj e2
                  subst e2
                  obtain ⟨J2, A2, X2, O2, G2, G3⟩ := h_cl (n := n) (L := L) (nc := nc) (ns := ns) (nx := nx) (l2 := l1) (z := false) (j0 := 0) (k0 := 0) (ν := ν) (α := α) (ω := ω) (top := top) (dd := d) hR ht hB X1 s1 hk1 f1 (fun e => by cases e) (by rw [S1.2.1 top 284 (by omega) (by omega) (by omega), G0 284 top (by omega) (by omega) (by omega)]; exact X.2.2.2.2.2.2.2.2.1) (by rw [S1.2.1 top 285 (by omega) (by omega) (by omega), G0 285 top (by omega) (by omega) (by omega)]; exact X.2.2.2.2.2.2.2.2.2.1) (by rw [S1.2.1 top 286 (by omega) (by omega) (by omega), G0 286 top (by omega) (by omega) (by omega)]; exact X.2.2.2.2.2.2.2.2.2.2) (by omega) (by omega) (by omega)
                  refine ⟨J2, enT B t p1, _, fun D hD => (A01 D hD).trans (A2 D hD), ?_, rfl, SM_t S01 ⟨O2, G2, G3⟩⟩
                  have eC : CSf ++ orl ω' ++ sml false 0 0 ++ (ntl ν ++ anl α) = CS ++ cs1 ++ (ntl ν ++ anl α) := by rw [hC]; simp [sml]
                  rw [eC] at X2
                  exact X2
                · rename_i hk1
                  have e2 := Option.some.inj e2
                  subst e2
                  obtain ⟨J2, A2, h5, O2⟩ := h_clx (n := n) (L := L) (nc := nc) (ns := ns) (nx := nx) (l2 := l1) hR ht hB X1 s1 k9 k10 hk1 (Or.inl f1)
                  exact ⟨J2, fun D hD => (A01 D hD).trans (A2 D hD), h5, onlyP_tr S01.1 O2⟩
            · rename_i hd6
              have e := Option.some.inj e
              subst e
              exact h_pF (by omega) F5 (p_brx hR ht hB X hs hk (by omega) (by omega))
          · rename_i nk40
            split at e
            · rename_i hk
              have lt := (kd_14e hk).2
              have NX3 := NX.2.2 lt
              have N1 := nxT_le (B := B) (t := t) (p := nxT B t p) NX.2.1
              have PD := p_dg (n := n) (L := L) (nc := nc) (ns := ns) (nx := nx) hR ht hB X hs hk (by omega) (by omega)
              split at e
              · rename_i hk2
                have lt2 := (kd_en (j := 12) (by omega) hk2).2.1
                have N13 := N1.2.2 lt2
                split at e
                · rename_i hk3
                  have lt3 := (kd_sn (s := 40) (by omega) hk3.1).2
                  obtain ⟨J0, A0, X0, S0, f0, G0⟩ := PD.2.2 hk2 hk3.1 hk3.2
                  have A0 : ∀ D, 9 ≤ D → rf D 206 53 [some (.ref 265), some (.int 1), l2] [] (SH n, J, L, R, nc, ns, nx) = rf D 206 53 [some (.ref 265), some (.int 1), l2] [] (SH n, J0, L, R, nc, ns, nx) := fun D hD => h_p0 F5 A0 D (by omega)
                  have hd6 := hk3.2
                  have X0' : MS B t c (enT B t (nxT B t (nxT B t p))) nm (CS ++ []) (top + 1) 0 false false (d + 1) J0 := by rw [List.append_nil]; exact X0
                  rcases bnk_c e with ⟨q, e1, e2⟩ | ⟨p1, nm1', cs1, v1, j1, e1, e2⟩
                  · subst e2
                    exact oMf_s A0 S0.1 (i5 (d + 1) _ nm [] (fun _ => 0) 0 _ CS (top + 1) J0 _ _ (by omega) (by omega) X0' rfl lt3 (by omega) (by rw [List.append_nil]; omega) f0.1 f0.2.2 e1)
                  · have Q := i5 (d + 1) _ nm [] (fun _ => 0) 0 _ CS (top + 1) J0 _ l2 (by omega) (by omega) X0' rfl lt3 (by omega) (by rw [List.append_nil]; omega) f0.1 f0.2.2 e1
                    obtain ⟨J1, a1, l1, A1, CSf, ω', X1, s1, hC, k9, k10, k44, O1, G1, q1, q2, q3⟩ := Q
                    have ok := OK _ _ _ _ _ _ _ _ (by omega) N1.2.1 X.2.2.2.2.1.2 (fun _ => lt3) e1
                    obtain ⟨o1, o2, o3, o4, o5, o6⟩ := ok
                    rw [if_neg (by omega), if_pos rfl] at o6
                    have o61 := o6.1
                    dsimp only [List.length] at X1 s1 k9 k10 k44 hC q3 o1 o2 o61
                    have lC : CSf.length + (orl ω').length = CS.length + cs1.length := by rw [← List.length_append, hC, List.length_append]
                    have A01 : ∀ D, 9 ≤ D → rf D 206 53 [some (.ref 265), some (.int 1), l2] [] (SH n, J, L, R, nc, ns, nx) = rf D 206 53 [some (.ref 265), some (.int 0), l1] [] (SH n, J1, L, R, nc, ns, nx) := fun D hD => (A0 D hD).trans (A1 D hD)
                    have S01 : SM top J J1 := ⟨onlyP_tr S0.1 O1, fun j a h1 h2 h3 => (G1 j a (by omega) h2 h3).trans (S0.2.1 j a h1 h2 h3), fun a h1 h2 => (G1 top a (by omega) h1 (by omega)).trans (S0.2.2 a h1 h2)⟩
                    split at e2
                    · rename_i hk1
                      have e2 := Option.some.inj e2
                      subst e2
                      obtain ⟨J2, A2, X2, O2, G2, G3⟩ := h_cl (n := n) (L := L) (nc := nc) (ns := ns) (nx := nx) (l2 := l1) (z := true) (j0 := ndd B p) (k0 := j1) (ν := ν) (α := α) (ω := ω) (top := top) (dd := d) hR ht hB X1 s1 hk1 q1 (fun _ => ⟨q2.trans f0.2.1, q3⟩) (by rw [G1 top 284 (by omega) (by omega) (by omega), G0 284 top (by omega) (by omega) (by omega)]; exact X.2.2.2.2.2.2.2.2.1) (by rw [G1 top 285 (by omega) (by omega) (by omega), G0 285 top (by omega) (by omega) (by omega)]; exact X.2.2.2.2.2.2.2.2.2.1) (by rw [G1 top 286 (by omega) (by omega) (by omega), G0 286 top (by omega) (by omega) (by omega)]; exact X.2.2.2.2.2.2.2.2.2.2) (by omega) (by omega) (by omega)
                      refine ⟨J2, enT B t p1, _, fun D hD => (A01 D hD).trans (A2 D hD), ?_, rfl, SM_t S01 ⟨O2, G2, G3⟩⟩
                      have eC : CSf ++ orl ω' ++ sml true (ndd B p) j1 ++ (ntl ν ++ anl α) = CS ++ (cs1 ++ [(4, ndd B p, j1)]) ++ (ntl ν ++ anl α) := by rw [hC]; simp [sml]
                      rw [eC] at X2
                      exact X2
                    · rename_i hk1
                      have e2 := Option.some.inj e2
                      subst e2
                      obtain ⟨J2, A2, h5, O2⟩ := h_clx (n := n) (L := L) (nc := nc) (ns := ns) (nx := nx) (l2 := l1) hR ht hB X1 s1 k9 k10 hk1 (Or.inr ⟨q1, k44⟩)
                      exact ⟨J2, fun D hD => (A01 D hD).trans (A2 D hD), h5, onlyP_tr S01.1 O2⟩
                · rename_i hk3
                  have e := Option.some.inj e
                  subst e
                  exact h_pF (by omega) F5 (PD.2.1 hk2 hk3)
              · rename_i hk2
                have e := Option.some.inj e
                subst e
                exact h_pF (by omega) F5 (PD.1 hk2)
            · rename_i nk14
              have e := Option.some.inj e
              subst e
              cases d1 : isD B t p with
              | true => exact h_pF (by omega) F5 (p_d2 hR ht hB X hs nk14 d1 (by omega))
              | false =>
                have PN := p_nm (n := n) (L := L) (nc := nc) (ns := ns) (nx := nx) (f := f) hR ht hB X hs nk11 nk40 d1 hc8 F (by omega) (by omega) (by omega)
                exact h_pF (by omega) F5 (PN.2 (fun q => nk13 q.1))
    · intro d p nm cs v k a CS top J o l2 hd htp X ha pt hk hl f1 f3 e
      subst ha
      have NX := nxT_le (B := B) (t := t) (p := p) (by omega)
      have NX3 := NX.2.2 pt
      rw [sp_5] at e
      rcases bnd_c e with ⟨q, e1, e2⟩ | ⟨p1, nm1', cs1, v1, j1, e1, e2⟩
      · subst e2
        exact i0 d (nxT B t p) nm _ _ _ _ (CS ++ cs) top J _ l2 hd htp X rfl (by omega) e1
      · have Q := i0 d (nxT B t p) nm _ _ _ _ (CS ++ cs) top J _ l2 hd htp X rfl (by omega) e1
        obtain ⟨J1, a1, l1, A1, CSf, ω', X1, s1, hC, k9, k10, S1⟩ := Q
        have ok := OK _ _ _ _ _ _ _ _ (by omega) NX.2.1 X.2.2.2.2.1.2 (by omega) e1
        obtain ⟨o1, o2, o3, o4, o5, o6⟩ := ok
        rw [if_neg (by omega), if_neg (by omega)] at o6
        have o61 := o6.1
        dsimp only at X1 s1 k9 k10 hC o1 o2 o61
        have lC : CSf.length + (orl ω').length = (CS ++ cs).length + cs1.length := by rw [← List.length_append, hC, List.length_append]
        have g1 : J1 281 top = 2 := (S1.2.2 281 (by omega) (by omega)).trans f1
        have g3 : J1 283 top = Int32.ofNat (k + 1) := (S1.2.2 283 (by omega) (by omega)).trans f3
        split at e2
        · rename_i hk4
          have lt4 := (kd_sn (s := 44) (by omega) hk4).2
          obtain ⟨J2, A2, X2, O2, G2, q1, q2, q3⟩ := h_com (n := n) (L := L) (nc := nc) (ns := ns) (nx := nx) (l2 := l1) hR ht hB X1 s1 hk4 (by omega) g1
          rw [hC, List.append_assoc] at X2
          have q3' : J2 283 top = Int32.ofNat (k + 1 + 1) := by rw [q3, g3]; exact nu_add (s := 1)
          have Q := i5 d p1 nm1' (cs ++ cs1) (vSum v v1) (k + 1) _ CS top J2 o (some (.int (hv B t p1))) hd htp X2 rfl lt4 (by omega) (by simp only [List.length_append] at hl ⊢; omega) (q1.trans g1) q3' e2
          have A01 : ∀ D, 9 ≤ D → rf D 206 53 [some (.ref 265), some (.int 1), l2] [] (SH n, J, L, R, nc, ns, nx) = rf D 206 53 [some (.ref 265), some (.int 1), some (.int (hv B t p1))] [] (SH n, J2, L, R, nc, ns, nx) := fun D hD => (A1 D hD).trans (A2 D hD)
          cases o with
          | inl q => exact oMf_s A01 (onlyP_tr S1.1 O2) Q
          | inr r =>
            refine oMg_s A01 Q (fun a2 J3 P => ?_)
            obtain ⟨CSf', ω'', b1, b2, b3, b4, b5, b6, b7, b8, b9, b10, b11⟩ := P
            exact ⟨CSf', ω'', b1, b2, b3, b4, b5, b6, onlyP_tr S1.1 (onlyP_tr O2 b7), fun j a h1 h2 h3 => by rw [b8 j a h1 h2 h3, G2 j a h1 h2 h3]; exact S1.2.1 j a h1 h2 h3, b9, by rw [b10, q2]; exact S1.2.2 282 (by omega) (by omega), b11⟩
        · rename_i hk4
          have e2 := Option.some.inj e2
          subst e2
          refine ⟨J1, a1, l1, A1, CSf, ω', X1, s1, ?_, k9, k10, hk4, S1.1, S1.2.1, g1, S1.2.2 282 (by omega) (by omega), g3⟩
          dsimp only
          rw [hC, List.append_assoc]
end MSI
