/-! READ: what a claim is, as numbers: codes and values -/
abbrev CD := Nat × Nat × Nat
abbrev SRs := Nat × Nat × List CD × (Nat → Nat) × Nat
abbrev SPr := Option (Nat ⊕ SRs)
abbrev SPt := Nat → Nat → Nat → Nat → List CD → (Nat → Nat) → Nat → SPr
def bnd (r : SPr) (k : Nat → Nat → List CD → (Nat → Nat) → SPr) : SPr :=
  match r with
  | none => none
  | some (.inl q) => some (.inl q)
  | some (.inr (p, nm, cs, v, _)) => k p nm cs v
def bnk (r : SPr) (k : Nat → Nat → List CD → (Nat → Nat) → Nat → SPr) : SPr :=
  match r with
  | none => none
  | some (.inl q) => some (.inl q)
  | some (.inr (p, nm, cs, v, j)) => k p nm cs v j
def vAnd (a b : Nat → Nat) : Nat → Nat := fun s => a s * b s
def vOr (a b : Nat → Nat) : Nat → Nat := fun s => a s + b s - a s * b s
def vNot (a : Nat → Nat) : Nat → Nat := fun s => 1 - a s
def vBit (k : Nat) : Nat → Nat := fun s => if s.testBit k = true then 1 else 0
def vSum (a b : Nat → Nat) : Nat → Nat := fun s => a s + b s
def vLst (n : Nat) (a : Nat → Nat) : Nat → Nat := fun s => if n ≤ a s then 1 else 0
section SPF
variable (B : Nat → Int32) (t : Nat) (f : Nat → List Nat) (c : Nat)
def ndd (p : Nat) : Nat := sN (B p - 48)
def spP (S : SPt) (d p nm : Nat) : SPr :=
  if kdT B t p = 11 then (if d < 6 then bnd (S 4 (d + 1) (nxT B t p) nm [] (fun _ => 0) 0) (fun p1 nm1 cs1 v1 => some (.inr (p1, nm1, cs1 ++ [(1, 0, 0)], vNot v1, 0))) else some (.inl p))
  else if kdT B t p = 13 then (match ffs (fun k => decide (f k = wl B t p)) c 0 with | some k => if nm < 40 then some (.inr (nxT B t p, nm + 1, [(0, k, 0)], vBit k, 0)) else some (.inl p) | none => some (.inl p))
  else if kdT B t p = 40 then (if d < 6 then bnd (S 0 (d + 1) (nxT B t p) nm [] (fun _ => 0) 0) (fun p1 nm1 cs1 v1 => if kdT B t p1 = 41 then some (.inr (nxT B t p1, nm1, cs1, v1, 0)) else some (.inl p1)) else some (.inl p))
  else if kdT B t p = 14 then (if kdT B t (nxT B t p) = 12 then (if kdT B t (nxT B t (nxT B t p)) = 40 ∧ d < 6 then bnk (S 5 (d + 1) (nxT B t (nxT B t p)) nm [] (fun _ => 0) 0) (fun p1 nm1 cs1 v1 k1 => if kdT B t p1 = 41 then some (.inr (nxT B t p1, nm1, cs1 ++ [(4, ndd B p, k1)], vLst (ndd B p) v1, 0)) else some (.inl p1)) else some (.inl (nxT B t (nxT B t p)))) else some (.inl (nxT B t p)))
  else some (.inl p)
def spF (S : SPt) (m d p nm : Nat) (cs : List CD) (v : Nat → Nat) (k : Nat) : SPr :=
  if m = 0 then bnd (S 2 d p nm [] (fun _ => 0) 0) (fun p1 nm1 cs1 v1 => S 1 d p1 nm1 cs1 v1 0)
  else if m = 1 then (if kdT B t p = 9 then bnd (S 2 d (nxT B t p) nm [] (fun _ => 0) 0) (fun p1 nm1 cs1 v1 => S 1 d p1 nm1 (cs ++ cs1 ++ [(3, 0, 0)]) (vOr v v1) 0) else some (.inr (p, nm, cs, v, 0)))
  else if m = 2 then bnd (S 4 d p nm [] (fun _ => 0) 0) (fun p1 nm1 cs1 v1 => S 3 d p1 nm1 cs1 v1 0)
  else if m = 3 then (if kdT B t p = 10 then bnd (S 4 d (nxT B t p) nm [] (fun _ => 0) 0) (fun p1 nm1 cs1 v1 => S 3 d p1 nm1 (cs ++ cs1 ++ [(2, 0, 0)]) (vAnd v v1) 0) else some (.inr (p, nm, cs, v, 0)))
  else if m = 4 then spP B t f c S d p nm
  else bnd (S 0 d (nxT B t p) nm [] (fun _ => 0) 0) (fun p1 nm1 cs1 v1 => if kdT B t p1 = 44 then S 5 d p1 nm1 (cs ++ cs1) (vSum v v1) (k + 1) else some (.inr (p1, nm1, cs ++ cs1, vSum v v1, k + 1)))
def sp : Nat → SPt
  | 0 => fun _ _ _ _ _ _ _ => none
  | g + 1 => fun m d p nm cs v k => spF B t f c (sp g) m d p nm cs v k
end SPF
section SPE
variable {B : Nat → Int32} {t : Nat} {f : Nat → List Nat} {c g d p nm k : Nat} {cs : List CD} {v : Nat → Nat}
theorem sp_0 : sp B t f c (g + 1) 0 d p nm cs v k = bnd (sp B t f c g 2 d p nm [] (fun _ => 0) 0) (fun p1 nm1 cs1 v1 => sp B t f c g 1 d p1 nm1 cs1 v1 0) := rfl
theorem sp_1 : sp B t f c (g + 1) 1 d p nm cs v k = if kdT B t p = 9 then bnd (sp B t f c g 2 d (nxT B t p) nm [] (fun _ => 0) 0) (fun p1 nm1 cs1 v1 => sp B t f c g 1 d p1 nm1 (cs ++ cs1 ++ [(3, 0, 0)]) (vOr v v1) 0) else some (.inr (p, nm, cs, v, 0)) := rfl
theorem sp_2 : sp B t f c (g + 1) 2 d p nm cs v k = bnd (sp B t f c g 4 d p nm [] (fun _ => 0) 0) (fun p1 nm1 cs1 v1 => sp B t f c g 3 d p1 nm1 cs1 v1 0) := rfl
theorem sp_3 : sp B t f c (g + 1) 3 d p nm cs v k = if kdT B t p = 10 then bnd (sp B t f c g 4 d (nxT B t p) nm [] (fun _ => 0) 0) (fun p1 nm1 cs1 v1 => sp B t f c g 3 d p1 nm1 (cs ++ cs1 ++ [(2, 0, 0)]) (vAnd v v1) 0) else some (.inr (p, nm, cs, v, 0)) := rfl
theorem sp_4 : sp B t f c (g + 1) 4 d p nm cs v k = spP B t f c (sp B t f c g) d p nm := rfl
theorem sp_5 : sp B t f c (g + 1) 5 d p nm cs v k = bnd (sp B t f c g 0 d (nxT B t p) nm [] (fun _ => 0) 0) (fun p1 nm1 cs1 v1 => if kdT B t p1 = 44 then sp B t f c g 5 d p1 nm1 (cs ++ cs1) (vSum v v1) (k + 1) else some (.inr (p1, nm1, cs ++ cs1, vSum v v1, k + 1))) := rfl
end SPE
/-- a result that is there, or a fault that is passed on -/
theorem bnd_c {r : SPr} {F : Nat → Nat → List CD → (Nat → Nat) → SPr} {o : Nat ⊕ SRs} (h : bnd r F = some o) : (∃ q, r = some (.inl q) ∧ o = .inl q) ∨ ∃ p nm cs v j, r = some (.inr (p, nm, cs, v, j)) ∧ F p nm cs v = some o := by
  unfold bnd at h
  split at h
  · cases h
  · left; exact ⟨_, rfl, (Option.some.inj h).symm⟩
  · right; exact ⟨_, _, _, _, _, rfl, h⟩
theorem bnk_c {r : SPr} {F : Nat → Nat → List CD → (Nat → Nat) → Nat → SPr} {o : Nat ⊕ SRs} (h : bnk r F = some o) : (∃ q, r = some (.inl q) ∧ o = .inl q) ∨ ∃ p nm cs v j, r = some (.inr (p, nm, cs, v, j)) ∧ F p nm cs v j = some o := by
  unfold bnk at h
  split at h
  · cases h
  · left; exact ⟨_, rfl, (Option.some.inj h).symm⟩
  · right; exact ⟨_, _, _, _, _, rfl, h⟩
/-! running the codes on a pile -/
def xq (s : Nat) (st : List Nat) (q : CD) : List Nat :=
  if q.1 = 0 then vBit q.2.1 s :: st
  else if q.1 = 1 then (match st with | a :: r => (1 - a) :: r | [] => [])
  else if q.1 = 4 then (if q.2.1 ≤ (st.take q.2.2).sum then 1 else 0) :: st.drop q.2.2
  else (match st with | b :: a :: r => (if q.1 = 2 then a * b else a + b - a * b) :: r | _ => [])
def dq (h : Option Nat) (q : CD) : Option Nat :=
  match h with
  | none => none
  | some h => if q.1 = 0 then some (h + 1) else if q.1 = 1 then (if 1 ≤ h then some h else none) else if q.1 = 4 then (if q.2.2 ≤ h then some (h - q.2.2 + 1) else none) else (if 2 ≤ h then some (h - 1) else none)
def ev (cs : List CD) (v : Nat → Nat) : Prop := (∀ s st, cs.foldl (xq s) st = v s :: st) ∧ ∀ h, cs.foldl dq (some h) = some (h + 1)
def le1 (v : Nat → Nat) : Prop := ∀ s, v s ≤ 1
def okc (c : Nat) (cs : List CD) : Prop := ∀ q, q ∈ cs → q.1 ≤ 4 ∧ q.2.1 < 10 ∧ (q.1 = 0 → q.2.1 < c) ∧ q.2.2 ≤ 400
/-- so many values on the pile, with this sum -/
def evs (cs : List CD) (v : Nat → Nat) (k : Nat) : Prop := (∀ s, ∃ vs : List Nat, vs.length = k ∧ vs.sum = v s ∧ ∀ st, cs.foldl (xq s) st = vs ++ st) ∧ ∀ h, cs.foldl dq (some h) = some (h + k)
def OKR (B : Nat → Int32) (t c : Nat) (m p nm : Nat) (cs : List CD) (v : Nat → Nat) (k : Nat) (r : SRs) : Prop :=
  p ≤ r.1 ∧ r.1 ≤ t ∧ (¬ (m = 1 ∨ m = 3) → p < r.1) ∧ nm ≤ r.2.1 ∧ r.2.1 ≤ 40 ∧
  (if m = 1 ∨ m = 3 then (r.2.2.1.length ≤ cs.length + (r.1 - p) ∧ (le1 v → le1 r.2.2.2.1) ∧ (ev cs v → ev r.2.2.1 r.2.2.2.1) ∧ (okc c cs → okc c r.2.2.1))
   else if m = 5 then (r.2.2.1.length ≤ cs.length + (r.1 - p) ∧ (evs cs v k → evs r.2.2.1 r.2.2.2.1 r.2.2.2.2) ∧ (okc c cs → okc c r.2.2.1) ∧ k < r.2.2.2.2 ∧ r.2.2.2.2 ≤ k + (r.1 - p))
   else (r.2.2.1.length ≤ r.1 - p ∧ le1 r.2.2.2.1 ∧ ev r.2.2.1 r.2.2.2.1 ∧ okc c r.2.2.1))
theorem ev_app {a b : List CD} {s : Nat} {st : List Nat} : (a ++ b).foldl (xq s) st = b.foldl (xq s) (a.foldl (xq s) st) := List.foldl_append
theorem dq_app {a b : List CD} {h : Option Nat} : (a ++ b).foldl dq h = b.foldl dq (a.foldl dq h) := List.foldl_append
theorem ev_not {cs : List CD} {v : Nat → Nat} (h : ev cs v) : ev (cs ++ [(1, 0, 0)]) (vNot v) := by
  refine ⟨fun s st => ?_, fun k => ?_⟩
  · rw [ev_app, h.1 s st]; rfl
  · rw [dq_app, h.2 k]
    show (if 1 ≤ k + 1 then some (k + 1) else none) = some (k + 1)
    rw [if_pos (by omega)]
theorem ev_and {a b : List CD} {v w : Nat → Nat} (h : ev a v) (g : ev b w) : ev (a ++ b ++ [(2, 0, 0)]) (vAnd v w) := by
  refine ⟨fun s st => ?_, fun k => ?_⟩
  · rw [ev_app, ev_app, h.1 s st, g.1 s _]; rfl
  · rw [dq_app, dq_app, h.2 k, g.2 (k + 1)]
    show (if 2 ≤ k + 1 + 1 then some (k + 1 + 1 - 1) else none) = some (k + 1)
    rw [if_pos (by omega)]; rfl
theorem ev_or {a b : List CD} {v w : Nat → Nat} (h : ev a v) (g : ev b w) : ev (a ++ b ++ [(3, 0, 0)]) (vOr v w) := by
  refine ⟨fun s st => ?_, fun k => ?_⟩
  · rw [ev_app, ev_app, h.1 s st, g.1 s _]; rfl
  · rw [dq_app, dq_app, h.2 k, g.2 (k + 1)]
    show (if 2 ≤ k + 1 + 1 then some (k + 1 + 1 - 1) else none) = some (k + 1)
    rw [if_pos (by omega)]; rfl
theorem ev_nm {k : Nat} : ev [(0, k, 0)] (vBit k) := ⟨fun _ _ => rfl, fun _ => rfl⟩
theorem evs_0 : evs [] (fun _ => 0) 0 := ⟨fun s => ⟨[], rfl, rfl, fun _ => rfl⟩, fun _ => rfl⟩
theorem evs_s {a b : List CD} {v w : Nat → Nat} {k : Nat} (h : evs a v k) (g : ev b w) : evs (a ++ b) (vSum v w) (k + 1) := by
  refine ⟨fun s => ?_, fun j => ?_⟩
  · obtain ⟨vs, h1, h2, h3⟩ := h.1 s
    refine ⟨w s :: vs, by rw [List.length_cons, h1], ?_, fun st => ?_⟩
    · rw [List.sum_cons, h2]; unfold vSum; omega
    · rw [ev_app, h3 st, g.1 s _]; rfl
  · rw [dq_app, h.2 j, g.2 (j + k)]; rfl
theorem ev_sm {a : List CD} {v : Nat → Nat} {k n : Nat} (h : evs a v k) : ev (a ++ [(4, n, k)]) (vLst n v) := by
  refine ⟨fun s st => ?_, fun j => ?_⟩
  · obtain ⟨vs, h1, h2, h3⟩ := h.1 s
    rw [ev_app, h3 st]
    show (if n ≤ ((vs ++ st).take k).sum then 1 else 0) :: (vs ++ st).drop k = _
    rw [← h1, List.take_left, List.drop_left, h2]
    rfl
  · rw [dq_app, h.2 j]
    show (if k ≤ j + k then some (j + k - k + 1) else none) = some (j + 1)
    rw [if_pos (by omega)]
    congr 1; omega
theorem le1_not {v : Nat → Nat} : le1 (vNot v) := fun s => by unfold vNot; omega
theorem le1_and {v w : Nat → Nat} (h : le1 v) (g : le1 w) : le1 (vAnd v w) := fun s => by
  unfold vAnd; have := Nat.mul_le_mul (h s) (g s); omega
theorem le1_or {v w : Nat → Nat} (h : le1 v) (g : le1 w) : le1 (vOr v w) := fun s => by
  have h := h s; have g := g s
  unfold vOr
  have : v s = 0 ∨ v s = 1 := by omega
  rcases this with e | e <;> rw [e] <;> omega
theorem le1_bit {k : Nat} : le1 (vBit k) := fun s => by unfold vBit; split <;> omega
theorem le1_lst {n : Nat} {v : Nat → Nat} : le1 (vLst n v) := fun s => by unfold vLst; split <;> omega
theorem okc_app {c : Nat} {a b : List CD} (h : okc c a) (g : okc c b) : okc c (a ++ b) := fun q hq => by
  rcases List.mem_append.mp hq with e | e
  · exact h q e
  · exact g q e
theorem okc_one {c : Nat} {q : CD} (h : q.1 ≤ 4 ∧ q.2.1 < 10 ∧ (q.1 = 0 → q.2.1 < c) ∧ q.2.2 ≤ 400) : okc c [q] := fun x hx => by
  rw [List.mem_singleton] at hx; subst hx; exact h
theorem ndd_lt {B : Nat → Int32} {t p : Nat} (h : kdT B t p = 14) : ndd B p ≤ 9 ∧ B p - 48 = Int32.ofNat (ndd B p) := by
  have d1 := (kd_14.mp h).1
  unfold isD at d1
  rw [Bool.and_eq_true] at d1
  obtain ⟨v, h1, h2, h3⟩ := lxD_v d1.2
  unfold ndd
  rw [h3, sN_of (by omega)]
  exact ⟨h1, rfl⟩
theorem sp_ok {B : Nat → Int32} {t : Nat} {f : Nat → List Nat} {c : Nat} (ht : t ≤ 400) (hc : c ≤ 8) : ∀ g m d p nm cs v k r, m < 6 → p ≤ t → nm ≤ 40 → (m = 5 → p < t) → sp B t f c g m d p nm cs v k = some (.inr r) → OKR B t c m p nm cs v k r := by
  intro g
  induction g with
  | zero => intro m d p nm cs v k r _ _ _ _ h; cases h
  | succ g ih =>
    intro m d p nm cs v k r hm hp hn h5 h
    have NX := nxT_le (B := B) hp
    have hm' : m = 0 ∨ m = 1 ∨ m = 2 ∨ m = 3 ∨ m = 4 ∨ m = 5 := by omega
    rcases hm' with rfl | rfl | rfl | rfl | rfl | rfl
    · rw [sp_0] at h
      rcases bnd_c h with ⟨q, -, e⟩ | ⟨p1, nm1, cs1, v1, j1, e1, e2⟩
      · cases e
      · obtain ⟨a1, a2, a3, a4, a5, a6⟩ := ih 2 _ _ _ _ _ _ _ (by omega) hp hn (by omega) e1
        obtain ⟨b1, b2, b3, b4, b5, b6⟩ := ih 1 _ _ _ _ _ _ _ (by omega) a2 a5 (by omega) e2
        have a3 := a3 (by omega)
        rw [if_neg (by omega), if_neg (by omega)] at a6
        rw [if_pos (by omega)] at b6
        refine ⟨by dsimp only at *; omega, b2, fun _ => by dsimp only at *; omega, by dsimp only at *; omega, b5, ?_⟩
        rw [if_neg (by omega), if_neg (by omega)]
        exact ⟨by dsimp only at *; omega, b6.2.1 a6.2.1, b6.2.2.1 a6.2.2.1, b6.2.2.2 a6.2.2.2⟩
    · rw [sp_1] at h
      split at h
      · rename_i hk
        have lt := (kd_en (j := 9) (by omega) hk).2.1
        have NX3 := NX.2.2 lt
        rcases bnd_c h with ⟨q, -, e⟩ | ⟨p1, nm1, cs1, v1, j1, e1, e2⟩
        · cases e
        · obtain ⟨a1, a2, a3, a4, a5, a6⟩ := ih 2 _ _ _ _ _ _ _ (by omega) NX.2.1 hn (by omega) e1
          obtain ⟨b1, b2, b3, b4, b5, b6⟩ := ih 1 _ _ _ _ _ _ _ (by omega) a2 a5 (by omega) e2
          have a3 := a3 (by omega)
          rw [if_neg (by omega), if_neg (by omega)] at a6
          rw [if_pos (by omega)] at b6
          refine ⟨by dsimp only at *; omega, b2, fun q => by omega, by dsimp only at *; omega, b5, ?_⟩
          rw [if_pos (by omega)]
          obtain ⟨c1, c2, c3, c4⟩ := b6
          obtain ⟨d1, d2, d3, d4⟩ := a6
          refine ⟨?_, fun x => c2 (le1_or x d2), fun x => c3 (ev_or x d3), fun x => c4 (okc_app (okc_app x d4) (okc_one ⟨by decide, by decide, (fun e => by cases e), by decide⟩))⟩
          rw [List.length_append, List.length_append] at c1
          dsimp only [List.length] at *
          omega
      · have e := Option.some.inj h
        have e := Sum.inr.inj e
        subst e
        refine ⟨Nat.le_refl _, hp, fun q => by omega, Nat.le_refl _, hn, ?_⟩
        rw [if_pos (by omega)]
        exact ⟨by dsimp only; omega, id, id, id⟩
    · rw [sp_2] at h
      rcases bnd_c h with ⟨q, -, e⟩ | ⟨p1, nm1, cs1, v1, j1, e1, e2⟩
      · cases e
      · obtain ⟨a1, a2, a3, a4, a5, a6⟩ := ih 4 _ _ _ _ _ _ _ (by omega) hp hn (by omega) e1
        obtain ⟨b1, b2, b3, b4, b5, b6⟩ := ih 3 _ _ _ _ _ _ _ (by omega) a2 a5 (by omega) e2
        have a3 := a3 (by omega)
        rw [if_neg (by omega), if_neg (by omega)] at a6
        rw [if_pos (by omega)] at b6
        refine ⟨by dsimp only at *; omega, b2, fun _ => by dsimp only at *; omega, by dsimp only at *; omega, b5, ?_⟩
        rw [if_neg (by omega), if_neg (by omega)]
        exact ⟨by dsimp only at *; omega, b6.2.1 a6.2.1, b6.2.2.1 a6.2.2.1, b6.2.2.2 a6.2.2.2⟩
    · rw [sp_3] at h
      split at h
      · rename_i hk
        have lt := (kd_en (j := 10) (by omega) hk).2.1
        have NX3 := NX.2.2 lt
        rcases bnd_c h with ⟨q, -, e⟩ | ⟨p1, nm1, cs1, v1, j1, e1, e2⟩
        · cases e
        · obtain ⟨a1, a2, a3, a4, a5, a6⟩ := ih 4 _ _ _ _ _ _ _ (by omega) NX.2.1 hn (by omega) e1
          obtain ⟨b1, b2, b3, b4, b5, b6⟩ := ih 3 _ _ _ _ _ _ _ (by omega) a2 a5 (by omega) e2
          have a3 := a3 (by omega)
          rw [if_neg (by omega), if_neg (by omega)] at a6
          rw [if_pos (by omega)] at b6
          refine ⟨by dsimp only at *; omega, b2, fun q => by omega, by dsimp only at *; omega, b5, ?_⟩
          rw [if_pos (by omega)]
          obtain ⟨c1, c2, c3, c4⟩ := b6
          obtain ⟨d1, d2, d3, d4⟩ := a6
          refine ⟨?_, fun x => c2 (le1_and x d2), fun x => c3 (ev_and x d3), fun x => c4 (okc_app (okc_app x d4) (okc_one ⟨by decide, by decide, (fun e => by cases e), by decide⟩))⟩
          rw [List.length_append, List.length_append] at c1
          dsimp only [List.length] at *
          omega
      · have e := Option.some.inj h
        have e := Sum.inr.inj e
        subst e
        refine ⟨Nat.le_refl _, hp, fun q => by omega, Nat.le_refl _, hn, ?_⟩
        rw [if_pos (by omega)]
        exact ⟨by dsimp only; omega, id, id, id⟩
    · rw [sp_4] at h
      unfold spP at h
      split at h
      · rename_i hk
        have lt := (kd_en (j := 11) (by omega) hk).2.1
        have NX3 := NX.2.2 lt
        split at h
        · rcases bnd_c h with ⟨q, -, e⟩ | ⟨p1, nm1, cs1, v1, j1, e1, e2⟩
          · cases e
          · obtain ⟨a1, a2, a3, a4, a5, a6⟩ := ih 4 _ _ _ _ _ _ _ (by omega) NX.2.1 hn (by omega) e1
            rw [if_neg (by omega), if_neg (by omega)] at a6
            have e := Sum.inr.inj (Option.some.inj e2)
            subst e
            refine ⟨by dsimp only at *; omega, a2, fun _ => by dsimp only at *; omega, a4, a5, ?_⟩
            rw [if_neg (by omega), if_neg (by omega)]
            refine ⟨?_, le1_not, ev_not a6.2.2.1, okc_app a6.2.2.2 (okc_one ⟨by decide, by decide, (fun e => by cases e), by decide⟩)⟩
            have := a6.1
            dsimp only at *
            rw [List.length_append]
            dsimp only [List.length]
            omega
        · cases h
      · split at h
        · rename_i hk
          have lt := (kd_ne hk).2
          have NX3 := NX.2.2 lt
          rcases ffs_case (fun k => decide (f k = wl B t p)) c 0 with ⟨a, b⟩ | ⟨j, a1, a2, a3, a4, a5⟩
          · rw [a] at h; cases h
          · rw [a1] at h
            dsimp only at h
            split at h
            · have e := Sum.inr.inj (Option.some.inj h)
              subst e
              refine ⟨by dsimp only; omega, NX.2.1, fun _ => by dsimp only; omega, by dsimp only; omega, by dsimp only; omega, ?_⟩
              rw [if_neg (by omega), if_neg (by omega)]
              exact ⟨by dsimp only [List.length]; omega, le1_bit, ev_nm, okc_one ⟨by dsimp only; omega, by dsimp only; omega, (fun _ => by dsimp only; omega), by dsimp only; omega⟩⟩
            · cases h
        · split at h
          · rename_i hk
            have lt := (kd_sn (s := 40) (by omega) hk).2
            have NX3 := NX.2.2 lt
            split at h
            · rcases bnd_c h with ⟨q, -, e⟩ | ⟨p1, nm1, cs1, v1, j1, e1, e2⟩
              · cases e
              · obtain ⟨a1, a2, a3, a4, a5, a6⟩ := ih 0 _ _ _ _ _ _ _ (by omega) NX.2.1 hn (by omega) e1
                rw [if_neg (by omega), if_neg (by omega)] at a6
                have N1 := nxT_le (B := B) (t := t) (p := p1) a2
                split at e2
                · have e := Sum.inr.inj (Option.some.inj e2)
                  subst e
                  refine ⟨by dsimp only at *; omega, N1.2.1, fun _ => by dsimp only at *; omega, a4, a5, ?_⟩
                  rw [if_neg (by omega), if_neg (by omega)]
                  refine ⟨?_, a6.2.1, a6.2.2.1, a6.2.2.2⟩
                  have := a6.1
                  dsimp only at *
                  omega
                · cases e2
            · cases h
          · split at h
            · rename_i hk
              have lt := (kd_14e hk).2
              have NX3 := NX.2.2 lt
              have N1 := nxT_le (B := B) (t := t) (p := nxT B t p) NX.2.1
              split at h
              · rename_i hk2
                have lt2 := (kd_en (j := 12) (by omega) hk2).2.1
                have N13 := N1.2.2 lt2
                split at h
                · rename_i hk3
                  have lt3 := (kd_sn (s := 40) (by omega) hk3.1).2
                  rcases bnk_c h with ⟨q, -, e⟩ | ⟨p1, nm1, cs1, v1, j1, e1, e2⟩
                  · cases e
                  · obtain ⟨a1, a2, a3, a4, a5, a6⟩ := ih 5 _ _ _ _ _ _ _ (by omega) N1.2.1 hn (fun _ => lt3) e1
                    rw [if_neg (by omega), if_pos rfl] at a6
                    have N2 := nxT_le (B := B) (t := t) (p := p1) a2
                    split at e2
                    · have e := Sum.inr.inj (Option.some.inj e2)
                      subst e
                      obtain ⟨d1, d2, d3, d4, d5⟩ := a6
                      refine ⟨by dsimp only at *; omega, N2.2.1, fun _ => by dsimp only at *; omega, a4, a5, ?_⟩
                      rw [if_neg (by omega), if_neg (by omega)]
                      refine ⟨?_, le1_lst, ev_sm (d2 evs_0), okc_app (d3 (fun q hq => by cases hq)) (okc_one ⟨by dsimp only; omega, (by have := (ndd_lt hk).1; dsimp only; omega), (fun e => by cases e), by dsimp only at *; omega⟩)⟩
                      dsimp only at *
                      rw [List.length_append]
                      dsimp only [List.length] at *
                      omega
                    · cases e2
                · cases h
              · cases h
            · cases h
    · rw [sp_5] at h
      have lt := h5 rfl
      have NX3 := NX.2.2 lt
      rcases bnd_c h with ⟨q, -, e⟩ | ⟨p1, nm1, cs1, v1, j1, e1, e2⟩
      · cases e
      · obtain ⟨a1, a2, a3, a4, a5, a6⟩ := ih 0 _ _ _ _ _ _ _ (by omega) NX.2.1 hn (by omega) e1
        have a3 := a3 (by omega)
        rw [if_neg (by omega), if_neg (by omega)] at a6
        obtain ⟨d1, d2, d3, d4⟩ := a6
        split at e2
        · rename_i hk
          have lt1 := (kd_sn (s := 44) (by omega) hk).2
          obtain ⟨b1, b2, b3, b4, b5, b6⟩ := ih 5 _ _ _ _ _ _ _ (by omega) a2 a5 (fun _ => lt1) e2
          rw [if_neg (by omega), if_pos rfl] at b6
          obtain ⟨c1, c2, c3, c4, c5⟩ := b6
          refine ⟨by dsimp only at *; omega, b2, fun _ => by dsimp only at *; omega, by dsimp only at *; omega, b5, ?_⟩
          rw [if_neg (by omega), if_pos rfl]
          rw [List.length_append] at c1
          exact ⟨by dsimp only at *; omega, fun x => c2 (evs_s x d3), fun x => c3 (okc_app x d4), by omega, by dsimp only at *; omega⟩
        · have e := Sum.inr.inj (Option.some.inj e2)
          subst e
          refine ⟨by dsimp only at *; omega, a2, fun _ => by dsimp only at *; omega, a4, a5, ?_⟩
          rw [if_neg (by omega), if_pos rfl]
          refine ⟨?_, fun x => evs_s x d3, fun x => okc_app x d4, by dsimp only; omega, by dsimp only at *; omega⟩
          dsimp only at *
          rw [List.length_append]; omega
