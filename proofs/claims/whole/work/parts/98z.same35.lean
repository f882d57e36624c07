/-! CALL BY CALL: tree -/
def mkT (l h : Int32) : Int32 := if l = 0 then 114 else if h = 0 then 97 else if h = 1 then 111 else if h = 2 then 118 else 109
def hdT (I : Nat → Nat → Int32) (k : Nat) : List Int32 := (if k < 10 then [] else [48 + Int32.ofNat k / 10]) ++ [48 + (Int32.ofNat k - Int32.ofNat k / 10 * 10), mkT (I 289 k) (I 291 k)]
def nxK (I : Nat → Nat → Int32) (N k q : Nat) : Int32 := nxt (fun i => I 290 i) N (Int32.ofNat k) 42 (q + 1)
/-- a branch behind its head (none), or what follows the head of a child (some) -/
def brT (I : Nat → Nat → Int32) (N : Nat) : Nat → Option Nat → Nat → List Int32
  | 0, _, _ => []
  | g + 1, none, k => if nxK I N k k = -1 then [] else 40 :: (hdT I (sN (nxK I N k k)) ++ brT I N g (some k) (sN (nxK I N k k)))
  | g + 1, some k, c => brT I N g none c ++ (if nxK I N k c = -1 then [41] else 44 :: (hdT I (sN (nxK I N k c)) ++ brT I N g (some k) (sN (nxK I N k c))))
def brR (I : Nat → Nat → Int32) (N g k : Nat) : List Int32 := brT I N g none k
def kdR (I : Nat → Nat → Int32) (N g k c : Nat) : List Int32 := brT I N g (some k) c
theorem brR_0 {I : Nat → Nat → Int32} {N k : Nat} : brR I N 0 k = [] := rfl
theorem kdR_0 {I : Nat → Nat → Int32} {N k c : Nat} : kdR I N 0 k c = [] := rfl
theorem brR_s {I : Nat → Nat → Int32} {N g k : Nat} : brR I N (g + 1) k = if nxK I N k k = -1 then [] else 40 :: (hdT I (sN (nxK I N k k)) ++ kdR I N g k (sN (nxK I N k k))) := rfl
theorem kdR_s {I : Nat → Nat → Int32} {N g k c : Nat} : kdR I N (g + 1) k c = brR I N g c ++ (if nxK I N k c = -1 then [41] else 44 :: (hdT I (sN (nxK I N k c)) ++ kdR I N g k (sN (nxK I N k c)))) := rfl
def dgl (k : Nat) : Nat := if k < 10 then 1 else 2
theorem hdT_eq {I : Nat → Nat → Int32} {k : Nat} : (hdT I k).length = dgl k + 1 := by
  unfold hdT dgl
  split <;> simp
theorem hdT_len {I : Nat → Nat → Int32} {k : Nat} : (hdT I k).length ≤ 3 := by
  unfold hdT
  split <;> simp
theorem nxt_spec {f : Nat → Int32} {c : Nat} {x : Int32} : ∀ q k, c - k ≤ q → (nxt f c x q k = -1 ∧ ∀ i, k ≤ i → i < c → ¬ f i = x) ∨ ∃ j, k ≤ j ∧ j < c ∧ f j = x ∧ nxt f c x q k = Int32.ofNat j ∧ ∀ i, k ≤ i → i < j → ¬ f i = x := by
  intro q
  induction q with
  | zero => intro k h; exact Or.inl ⟨rfl, fun i h1 h2 => by omega⟩
  | succ q ih =>
    intro k h
    rw [nxt]
    by_cases hk : k < c
    · rw [if_pos hk]
      by_cases g : f k = x
      · rw [if_pos g]; exact Or.inr ⟨k, Nat.le_refl _, hk, g, rfl, fun i h1 h2 => by omega⟩
      · rw [if_neg g]
        rcases ih (k + 1) (by omega) with ⟨h1, h2⟩ | ⟨j, h1, h2, h3, h4, h5⟩
        · refine Or.inl ⟨h1, fun i h3 h4 => ?_⟩
          by_cases e : i = k
          · subst e; exact g
          · exact h2 i (by omega) h4
        · refine Or.inr ⟨j, by omega, h2, h3, h4, fun i h6 h7 => ?_⟩
          by_cases e : i = k
          · subst e; exact g
          · exact h5 i (by omega) h7
    · rw [if_neg hk]; exact Or.inl ⟨rfl, fun i h1 h2 => by omega⟩
/-- the tree: who stands ahead -/
def TRE (I : Nat → Nat → Int32) (N : Nat) : Prop := N ≤ 40 ∧ 1 ≤ N ∧ I 290 0 = -1 ∧ ∀ k, 0 < k → k < N → ∃ q, q < k ∧ I 290 k = Int32.ofNat q
def AncP (I : Nat → Nat → Int32) (N k v : Nat) : Prop := ∀ P : Nat → Prop, P k → (∀ v q, v < N → q < v → I 290 v = Int32.ofNat q → P q → P v) → P v
theorem anc_self {I : Nat → Nat → Int32} {N k : Nat} : AncP I N k k := fun _ h _ => h
theorem anc_up {I : Nat → Nat → Int32} {N k v q : Nat} (h1 : v < N) (h2 : q < v) (h3 : I 290 v = Int32.ofNat q) (h : AncP I N k q) : AncP I N k v := fun P a b => b v q h1 h2 h3 (h P a b)
theorem anc_ind {I : Nat → Nat → Int32} {N k : Nat} {P : Nat → Prop} (h0 : P k) (hs : ∀ v q, v < N → q < v → I 290 v = Int32.ofNat q → AncP I N k q → P q → P v) {v : Nat} (h : AncP I N k v) : P v :=
  (h (fun v => AncP I N k v ∧ P v) ⟨anc_self, h0⟩ (fun v q a b c d => ⟨anc_up a b c d.1, hs v q a b c d.1 d.2⟩)).2
theorem anc_inv {I : Nat → Nat → Int32} {N k v : Nat} (h : AncP I N k v) : v = k ∨ ∃ q, v < N ∧ q < v ∧ I 290 v = Int32.ofNat q ∧ AncP I N k q :=
  anc_ind (P := fun v => v = k ∨ ∃ q, v < N ∧ q < v ∧ I 290 v = Int32.ofNat q ∧ AncP I N k q) (Or.inl rfl) (fun v q a b c d _ => Or.inr ⟨q, a, b, c, d⟩) h
noncomputable def bA (P : Prop) : Bool := @decide P (Classical.propDecidable P)
theorem bA_t {P : Prop} : bA P = true ↔ P := by unfold bA; exact @decide_eq_true_iff P (Classical.propDecidable P)
theorem cn_sum {P Q S : Nat → Bool} : ∀ q, (∀ v, v < q → (P v = true → S v = true) ∧ (Q v = true → S v = true) ∧ ¬ (P v = true ∧ Q v = true)) → cn P q + cn Q q ≤ cn S q := by
  intro q
  induction q with
  | zero => intro _; exact Nat.le_refl _
  | succ q ih =>
    intro h
    have h1 := ih (fun v hv => h v (by omega))
    obtain ⟨a, b, c⟩ := h q (by omega)
    rw [cn, cn, cn]
    by_cases hp : P q = true
    · by_cases hq : Q q = true
      · exact absurd ⟨hp, hq⟩ c
      · rw [if_pos hp, if_neg hq, if_pos (a hp)]; omega
    · by_cases hq : Q q = true
      · rw [if_neg hp, if_pos hq, if_pos (b hq)]; omega
      · rw [if_neg hp, if_neg hq]; split <;> omega
theorem cn_one {k : Nat} : ∀ q, k < q → cn (fun v => v == k) q = 1 := by
  intro q
  induction q with
  | zero => intro h; omega
  | succ q ih =>
    intro h
    rw [cn]
    by_cases e : q = k
    · subst e
      rw [cn_none q (fun s hs => by simp; omega)]
      simp
    · rw [ih (by omega)]
      have : (q == k) = false := by simp [e]
      rw [this]; rfl
section TRS
variable {n d a b T c s t z o w m p k N q i e v : Nat} {I J K M I1 I2 I0 : Nat → Nat → Int32} {L L' : Nat → Nat → Int64} {R R' : Nat → Nat → Option Nat} {nc ns : Nat} {nx : Bool} {x y j u code x1 x2 x3 : Int32} {h' h : ip_H} {l0 l3 l4 : Option Value} {bs : List Int32}
theorem anc_le (h : AncP I N k v) : k ≤ v := anc_ind (P := fun v => k ≤ v) (Nat.le_refl _) (fun v q _ b _ _ ih => by omega) h
theorem anc_tr (h1 : AncP I N k e) (h : AncP I N e v) : AncP I N k v := anc_ind (P := fun v => AncP I N k v) h1 (fun v q a b c _ ih => anc_up a b c ih) h
theorem anc_dis (hN : N ≤ 40) {c' : Nat} (k1 : k < c) (k2 : c < c') (p1 : I 290 c = Int32.ofNat k) (p2 : I 290 c' = Int32.ofNat k) (n2 : c' < N) (h1 : AncP I N c v) : AncP I N c' v → False := by
  refine anc_ind (P := fun v => AncP I N c' v → False) (fun h2 => by have := anc_le h2; omega) (fun v q a b e h ih h2 => ?_) h1
  rcases anc_inv h2 with rfl | ⟨q', a', b', e', h'⟩
  · rw [p2] at e
    have := (nu_inj (by omega) (by omega)).mp e
    subst this
    have := anc_le h; omega
  · rw [e] at e'
    have := (nu_inj (by omega) (by omega)).mp e'
    subst this
    exact ih h'
def ancK (I : Nat → Nat → Int32) (N k c v : Nat) : Prop := ∃ e, c ≤ e ∧ e < N ∧ I 290 e = Int32.ofNat k ∧ AncP I N e v
noncomputable def cA (I : Nat → Nat → Int32) (N k : Nat) : Nat := cn (fun v => bA (AncP I N k v)) N
noncomputable def cK (I : Nat → Nat → Int32) (N k c : Nat) : Nat := cn (fun v => bA (ancK I N k c v)) N
theorem cA_1 (hk : k < N) : 1 ≤ cA I N k := by
  have := cn_sum (P := fun v => v == k) (Q := fun _ => false) (S := fun v => bA (AncP I N k v)) N (fun v _ => ⟨fun h => by
    have : v = k := by simpa using h
    subst this; exact bA_t.mpr anc_self, fun h => by simp at h, fun h => by simp at h⟩)
  rw [cn_one N hk] at this
  unfold cA; omega
theorem cA_K (hN : N ≤ 40) (hk : k < c) (hc : k < N) : 1 + cK I N k c ≤ cA I N k := by
  have := cn_sum (P := fun v => v == k) (Q := fun v => bA (ancK I N k c v)) (S := fun v => bA (AncP I N k v)) N (fun v _ => ⟨fun h => by
    have : v = k := by simpa using h
    subst this; exact bA_t.mpr anc_self, fun h => by
    obtain ⟨e, h1, h2, h3, h4⟩ := bA_t.mp h
    exact bA_t.mpr (anc_tr (anc_up h2 (by omega) h3 anc_self) h4), fun h => by
    have e1 : v = k := by simpa using h.1
    subst e1
    obtain ⟨e, h1, h2, h3, h4⟩ := bA_t.mp h.2
    have := anc_le h4; omega⟩)
  rw [cn_one N hc] at this
  exact this
theorem cK_1 (hc : c < N) (p1 : I 290 c = Int32.ofNat k) : cA I N c ≤ cK I N k c := by
  have := cn_sum (P := fun v => bA (AncP I N c v)) (Q := fun _ => false) (S := fun v => bA (ancK I N k c v)) N (fun v _ => ⟨fun h => bA_t.mpr ⟨c, Nat.le_refl _, hc, p1, bA_t.mp h⟩, fun h => by simp at h, fun h => by simp at h⟩)
  unfold cA cK; omega
theorem cK_2 (hN : N ≤ 40) {c' : Nat} (hk : k < c) (h2 : c < c') (hc : c < N) (p1 : I 290 c = Int32.ofNat k) : cA I N c + cK I N k c' ≤ cK I N k c :=
  cn_sum N (fun v _ => ⟨fun h => bA_t.mpr ⟨c, Nat.le_refl _, hc, p1, bA_t.mp h⟩, fun h => by
    obtain ⟨e, h1, h2, h3, h4⟩ := bA_t.mp h
    exact bA_t.mpr ⟨e, by omega, h2, h3, h4⟩, fun h => by
    obtain ⟨e, h1, h2, h3, h4⟩ := bA_t.mp h.2
    exact anc_dis hN hk (by omega) p1 h3 h2 (bA_t.mp h.1) h4⟩)
/-- a child behind another, or none -/
theorem nxK_is (hN : N ≤ 40) (k q : Nat) : nxK I N k q = -1 ∨ ∃ c, q < c ∧ c < N ∧ I 290 c = Int32.ofNat k ∧ nxK I N k q = Int32.ofNat c ∧ sN (nxK I N k q) = c ∧ ¬ nxK I N k q = -1 := by
  rcases nxt_spec (f := fun i => I 290 i) (c := N) (x := Int32.ofNat k) 42 (q + 1) (by omega) with ⟨h, -⟩ | ⟨j, h1, h2, h3, h4, -⟩
  · exact Or.inl h
  · refine Or.inr ⟨j, by omega, h2, h3, h4, ?_, ?_⟩
    · unfold nxK; rw [h4]; exact sN_of (by omega)
    · unfold nxK; rw [h4]; intro e; exact nu_nn (t := j) (by omega) (by rw [e]; decide)
theorem br_len (H : TRE I N) : ∀ g, (∀ k, k < N → (brR I N g k).length + 4 ≤ 5 * cA I N k) ∧ (∀ k c, k < c → c < N → I 290 c = Int32.ofNat k → (kdR I N g k c).length + 3 ≤ 5 * cK I N k c) := by
  have hN := H.1
  intro g
  induction g with
  | zero =>
    refine ⟨fun k hk => ?_, fun k c h1 h2 h3 => ?_⟩
    · have := cA_1 (I := I) hk; rw [brR_0]; simp; omega
    · have := cA_1 (I := I) h2; have := cK_1 h2 h3; rw [kdR_0]; simp; omega
  | succ g ih =>
    refine ⟨fun k hk => ?_, fun k c h1 h2 h3 => ?_⟩
    · rw [brR_s]
      rcases nxK_is (I := I) hN k k with h | ⟨c, h4, h5, h6, h7, h8, h9⟩
      · rw [if_pos h]; have := cA_1 (I := I) hk; simp; omega
      · rw [if_neg h9, h8]
        have := ih.2 k c h4 h5 h6
        have := hdT_len (I := I) (k := c)
        have := cA_K (I := I) hN h4 hk
        simp only [List.length_cons, List.length_append]
        omega
    · rw [kdR_s]
      have := ih.1 c h2
      rcases nxK_is (I := I) hN k c with h | ⟨c', h4, h5, h6, h7, h8, h9⟩
      · rw [if_pos h]; have := cK_1 h2 h3; simp only [List.length_cons, List.length_append, List.length_nil]; omega
      · rw [if_neg h9, h8]
        have := ih.2 k c' (by omega) h5 h6
        have := hdT_len (I := I) (k := c')
        have := cK_2 (I := I) hN h1 h4 h2 h3
        simp only [List.length_cons, List.length_append]
        omega
/-! the head of a node, in both -/
theorem n10 : ∀ k, k < 40 → ((10 : Int32) ≤ Int32.ofNat k) = ¬ (k < 10) ∧ (Int32.ofNat k < 10) = (k < 10) ∧ (Int32.ofNat k ≤ 9) = (k < 10) ∧ (Int32.ofNat k / 10 - Int32.ofNat k / 10 / 10 * 10 = Int32.ofNat k / 10) := by decide
theorem c31 (hR : LYR R) (hk : k < 40) (W : WC bs I J) (hb : bs.length + dgl k ≤ 256) : ∃ J', (∀ d, cf (d + 1) 31 [.ref 63, .int (Int32.ofNat k)] (SH n, J, L, R, nc, ns, nx) = some (.inl none, (SH n, J', L, R, nc, ns, nx))) ∧ WC (bs ++ ((if k < 10 then [] else [48 + Int32.ofNat k / 10]) ++ [48 + (Int32.ofNat k - Int32.ofNat k / 10 * 10)])) I J' := by
  obtain ⟨m1, m2, m3, m4⟩ := n10 k hk
  have nz : ¬ (10 : Int32) = 0 := by decide
  unfold dgl at hb
  by_cases g : k < 10
  · rw [if_pos g] at hb
    obtain ⟨J1, A1, W1⟩ := cw (n := n) (L := L) (nc := nc) (ns := ns) (nx := nx) hR W (by omega) (48 + (Int32.ofNat k - Int32.ofNat k / 10 * 10))
    refine ⟨J1, fun d => ?_, by rw [if_pos g]; exact W1⟩
    simp only [en31, e31_0, e31_1, e31_3, e31_6, e31_7, e31_9, e31_10, e31_12, e31_13, e31_15, e31_16, e31_17, e31_20, e31_21, e31_23, e31_24, e31_26, e31_27, e31_28, e31_31, rk_n, rk_v, nl_n, nl_i, nl_r, cat_n, ip_cat_int, ip_cat_ref, ip_cat_long, ip_rf_some, Nat.reduceAdd, Nat.reduceLeDiff, Nat.reduceLT, Nat.le_refl, Nat.zero_le, m2, g, nz, A1, Bool.false_eq_true, Bool.true_eq_false, if_true, if_false, not_true_eq_false, not_false_eq_true, zle, eq_self]
  · rw [if_neg g] at hb
    obtain ⟨J1, A1, W1⟩ := cw (n := n) (L := L) (nc := nc) (ns := ns) (nx := nx) hR W (by omega) (48 + Int32.ofNat k / 10)
    obtain ⟨J2, A2, W2⟩ := cw (n := n) (L := L) (nc := nc) (ns := ns) (nx := nx) hR W1 (by simp; omega) (48 + (Int32.ofNat k - Int32.ofNat k / 10 * 10))
    refine ⟨J2, fun d => ?_, by rw [if_neg g]; simpa using W2⟩
    simp only [en31, e31_0, e31_1, e31_3, e31_6, e31_7, e31_9, e31_10, e31_12, e31_13, e31_15, e31_16, e31_17, e31_20, e31_21, e31_23, e31_24, e31_26, e31_27, e31_28, e31_31, rk_n, rk_v, nl_n, nl_i, nl_r, cat_n, ip_cat_int, ip_cat_ref, ip_cat_long, ip_rf_some, Nat.reduceAdd, Nat.reduceLeDiff, Nat.reduceLT, Nat.le_refl, Nat.zero_le, m2, g, nz, m4, A1, A2, Bool.false_eq_true, Bool.true_eq_false, if_true, if_false, not_true_eq_false, not_false_eq_true, zle, eq_self]
theorem c33 (ha : isN a) (h0 : y = 0 → J a 2 = -1) (h2 : ¬ y = 0 → J a 2 = 0 ∨ J a 2 = 1 ∨ J a 2 = 2 ∨ J a 2 = 3) : cf d 33 [.ref a] (SH n, J, L, R, nc, ns, nx) = some (.inl (some (.int (mkT y (J a 2)))), (SH n, J, L, R, nc, ns, nx)) := by
  by_cases g : y = 0
  · have sw := fun d ls s h => e33_4_d (d := d) (ls := ls) (s := s) (h := h) (x := -1) (Or.inl (by decide))
    unfold mkT
    rw [if_pos g]
    simp only [en33, e33_0, e33_1, e33_36, e33_38, e33_39, e33_41, e33_42, e33_44, e33_45, e33_47, e33_48, e33_50, rk_n, rk_v, nl_n, nl_i, nl_r, cat_n, ip_cat_int, ip_cat_ref, ip_cat_long, ip_rf_some, Nat.reduceAdd, Nat.reduceLeDiff, Nat.reduceLT, Nat.le_refl, Nat.zero_le, ha, h0 g, sw, Bool.false_eq_true, Bool.true_eq_false, if_true, if_false, not_true_eq_false, not_false_eq_true, zle, eq_self]
  · unfold mkT
    rw [if_neg g]
    have nn : ¬ (1 : Int32) = 0 ∧ ¬ (2 : Int32) = 0 ∧ ¬ (2 : Int32) = 1 ∧ ¬ (3 : Int32) = 0 ∧ ¬ (3 : Int32) = 1 ∧ ¬ (3 : Int32) = 2 := by decide
    rcases h2 g with e | e | e | e
    · simp only [en33, e33_0, e33_1, e33_36, e33_38, e33_39, e33_41, e33_42, e33_44, e33_45, e33_47, e33_48, e33_50, rk_n, rk_v, nl_n, nl_i, nl_r, cat_n, ip_cat_int, ip_cat_ref, ip_cat_long, ip_rf_some, Nat.reduceAdd, Nat.reduceLeDiff, Nat.reduceLT, Nat.le_refl, Nat.zero_le, ha, e, e33_4_0, nn, Bool.false_eq_true, Bool.true_eq_false, if_true, if_false, not_true_eq_false, not_false_eq_true, zle, eq_self]
    · simp only [en33, e33_0, e33_1, e33_36, e33_38, e33_39, e33_41, e33_42, e33_44, e33_45, e33_47, e33_48, e33_50, rk_n, rk_v, nl_n, nl_i, nl_r, cat_n, ip_cat_int, ip_cat_ref, ip_cat_long, ip_rf_some, Nat.reduceAdd, Nat.reduceLeDiff, Nat.reduceLT, Nat.le_refl, Nat.zero_le, ha, e, e33_4_1, nn, Bool.false_eq_true, Bool.true_eq_false, if_true, if_false, not_true_eq_false, not_false_eq_true, zle, eq_self]
    · simp only [en33, e33_0, e33_1, e33_36, e33_38, e33_39, e33_41, e33_42, e33_44, e33_45, e33_47, e33_48, e33_50, rk_n, rk_v, nl_n, nl_i, nl_r, cat_n, ip_cat_int, ip_cat_ref, ip_cat_long, ip_rf_some, Nat.reduceAdd, Nat.reduceLeDiff, Nat.reduceLT, Nat.le_refl, Nat.zero_le, ha, e, e33_4_2, nn, Bool.false_eq_true, Bool.true_eq_false, if_true, if_false, not_true_eq_false, not_false_eq_true, zle, eq_self]
    · simp only [en33, e33_0, e33_1, e33_36, e33_38, e33_39, e33_41, e33_42, e33_44, e33_45, e33_47, e33_48, e33_50, rk_n, rk_v, nl_n, nl_i, nl_r, cat_n, ip_cat_int, ip_cat_ref, ip_cat_long, ip_rf_some, Nat.reduceAdd, Nat.reduceLeDiff, Nat.reduceLT, Nat.le_refl, Nat.zero_le, ha, e, e33_4_3, nn, Bool.false_eq_true, Bool.true_eq_false, if_true, if_false, not_true_eq_false, not_false_eq_true, zle, eq_self]
/-- what the tree needs of the nodes -/
def TRC (I : Nat → Nat → Int32) (N : Nat) : Prop := TRE I N ∧ I 2 6 = Int32.ofNat N ∧ (∀ k, k < N → I (65 + 5 * k) 1 = I 290 k ∧ I (65 + 5 * k) 2 = I 291 k ∧ (I 289 k = 0 → I 291 k = -1) ∧ (¬ I 289 k = 0 → I 291 k = 0 ∨ I 291 k = 1 ∨ I 291 k = 2 ∨ I 291 k = 3))
theorem k27 (hR : LYR R) (H : TRC I N) (W : WC bs I J) (hq : q ≤ 40) : cf d 27 [.ref 2, .int (Int32.ofNat k), .int (Int32.ofNat q)] (SH n, J, L, R, nc, ns, nx) = some (.inl (some (.int (nxK I N k q))), (SH n, J, L, R, nc, ns, nx)) := by
  have h1 : J 2 6 = Int32.ofNat N := by rw [W.1 2 6 (by omega)]; exact H.2.1
  rw [c27 hR h1 H.1.1 hq]
  unfold nxK
  rw [nxt_ext (g := fun i => I 290 i) _ _ (fun i hi => by
    show J (65 + 5 * i) 1 = I 290 i
    rw [W.1 (65 + 5 * i) 1 (by omega)]; exact (H.2.2 i hi).1)]
/-- the class: a branch -/
theorem tr_c (hR : LYR R) (H : TRC I N) : ∀ g, (∀ k J bs dep, k < N → dep ≤ k → 2 * (N - k) ≤ g → WC bs I J → bs.length + (hdT I k).length + (brR I N g k).length ≤ 256 → ∃ J', (∀ d, cf (d + (N - k) + 3) 30 [.ref 2, .int (Int32.ofNat k), .int (Int32.ofNat dep)] (SH n, J, L, R, nc, ns, nx) = some (.inl none, (SH n, J', L, R, nc, ns, nx))) ∧ WC (bs ++ (hdT I k ++ brR I N g k)) I J') ∧
    (∀ k c J bs dep i, k < c → c < N → I 290 c = Int32.ofNat k → dep ≤ k → i < c → 2 * (N - c) + 1 ≤ g → WC bs I J → bs.length + (hdT I c).length + (kdR I N g k c).length ≤ 256 → ∃ J', (∀ d, rf (d + (N - k) + 3) 30 82 [some (.ref 2), some (.int (Int32.ofNat k)), some (.int (Int32.ofNat dep)), some (.int (Int32.ofNat c)), some (.int (Int32.ofNat i))] [] (SH n, J, L, R, nc, ns, nx) = some (.inl none, (SH n, J', L, R, nc, ns, nx))) ∧ WC (bs ++ (hdT I c ++ kdR I N g k c)) I J') := by
  have hN := H.1.1
  intro g
  induction g with
  | zero => exact ⟨fun k J bs dep h1 h2 h3 => by omega, fun k c J bs dep i h1 h2 h3 h4 h5 h6 => by omega⟩
  | succ g ih =>
    refine ⟨fun k J bs dep hk hd hg W hb => ?_, fun k c J bs dep i h1 h2 h3 hd hi hg W hb => ?_⟩
    · obtain ⟨t1, t2, t3, t4⟩ := H.2.2 k hk
      have hl := hdT_eq (I := I) (k := k)
      have iw := isN_nd (k := k) (by omega)
      have b0 := (nu_inb (t := k) (k := 40) (by omega)).mpr (by omega)
      have e1 := nd_of (k := k) (by omega)
      have g40 : (Int32.ofNat dep < 40) = True := eq_true ((nu_lt (s := 40) (by omega) (by omega)).mpr (by omega))
      obtain ⟨J1, A1, W1⟩ := c31 (n := n) (L := L) (nc := nc) (ns := ns) (nx := nx) (k := k) hR (by omega) W (by omega)
      have j2 : J1 (65 + 5 * k) 2 = I 291 k := by rw [W1.1 (65 + 5 * k) 2 (by omega)]; exact t2
      have C33 := fun d => c33 (d := d) (n := n) (J := J1) (L := L) (R := R) (nc := nc) (ns := ns) (nx := nx) (y := I 289 k) iw (by rw [j2]; exact t3) (by rw [j2]; exact t4)
      rw [j2] at C33
      have len1 : (bs ++ ((if k < 10 then [] else [48 + Int32.ofNat k / 10]) ++ [48 + (Int32.ofNat k - Int32.ofNat k / 10 * 10)])).length = bs.length + dgl k := by unfold dgl; split <;> simp
      obtain ⟨J2, A2, W2⟩ := cw (n := n) (L := L) (nc := nc) (ns := ns) (nx := nx) hR W1 (by omega) (mkT (I 289 k) (I 291 k))
      have W2 : WC (bs ++ hdT I k) I J2 := by
        have : bs ++ hdT I k = bs ++ ((if k < 10 then [] else [48 + Int32.ofNat k / 10]) ++ [48 + (Int32.ofNat k - Int32.ofNat k / 10 * 10)]) ++ [mkT (I 289 k) (I 291 k)] := by unfold hdT; simp
        rw [this]; exact W2
      have K1 := fun d => k27 (d := d) (n := n) (L := L) (nc := nc) (ns := ns) (nx := nx) (k := k) (q := k) hR H W2 (by omega)
      rw [brR_s] at hb ⊢
      rcases nxK_is (I := I) hN k k with h | ⟨c, h4, h5, h6, h7, h8, h9⟩
      · rw [if_pos h]
        refine ⟨J2, fun d => ?_, by rw [List.append_nil]; exact W2⟩
        simp only [en30, e30_0, e30_1, e30_3, e30_6, e30_7, e30_8, e30_11, e30_12, e30_15, e30_16, e30_19, e30_20, e30_23, e30_24, e30_25, e30_28, e30_31, e30_32, e30_33, e30_34, e30_37, e30_38, e30_39, e30_40, e30_43, e30_44, e30_45, e30_48, e30_50, e30_53, e30_54, e30_58, e30_60, e30_63, e30_64, e30_65, e30_68, e30_70, e30_73, e30_74, e30_77, e30_79, e30_82, e30_83, e30_84, e30_85, e30_86, e30_87, e30_90, e30_91, e30_92, e30_93, e30_96, e30_97, e30_100, e30_103, e30_104, e30_107, e30_109, e30_112, rk_n, rk_v, nl_n, nl_i, nl_r, cat_n, ip_cat_int, ip_cat_ref, ip_cat_long, ip_rf_some, Nat.reduceAdd, Nat.reduceLeDiff, Nat.reduceLT, Nat.le_refl, Nat.zero_le, hR, b0, e1, iw, g40, A1, C33, A2, K1, h, Bool.false_eq_true, Bool.true_eq_false, if_true, if_false, not_true_eq_false, not_false_eq_true, zle, eq_self]
      · rw [if_neg h9, h8] at hb ⊢
        simp only [List.length_cons, List.length_append] at hb
        obtain ⟨J3, A3, W3⟩ := cw (n := n) (L := L) (nc := nc) (ns := ns) (nx := nx) hR W2 (by rw [List.length_append]; omega) 40
        obtain ⟨J4, A4, W4⟩ := ih.2 k c J3 _ dep 0 h4 h5 h6 hd (by omega) (by omega) W3 (by simp only [List.length_append, List.length_cons, List.length_nil]; omega)
        refine ⟨J4, fun d => ?_, ?_⟩
        · have A4 : rf (d + (N - k) + 3) 30 82 [some (.ref 2), some (.int (Int32.ofNat k)), some (.int (Int32.ofNat dep)), some (.int (Int32.ofNat c)), some (.int 0)] [] (SH n, J3, L, R, nc, ns, nx) = _ := A4 d
          rw [h7] at K1
          have n1 : (Int32.ofNat c = -1) = False := eq_false (by rw [← h7]; exact h9)
          simp only [en30, e30_0, e30_1, e30_3, e30_6, e30_7, e30_8, e30_11, e30_12, e30_15, e30_16, e30_19, e30_20, e30_23, e30_24, e30_25, e30_28, e30_31, e30_32, e30_33, e30_34, e30_37, e30_38, e30_39, e30_40, e30_43, e30_44, e30_45, e30_48, e30_50, e30_53, e30_54, e30_58, e30_60, e30_63, e30_64, e30_65, e30_68, e30_70, e30_73, e30_74, e30_77, e30_79, e30_82, e30_83, e30_84, e30_85, e30_86, e30_87, e30_90, e30_91, e30_92, e30_93, e30_96, e30_97, e30_100, e30_103, e30_104, e30_107, e30_109, e30_112, rk_n, rk_v, nl_n, nl_i, nl_r, cat_n, ip_cat_int, ip_cat_ref, ip_cat_long, ip_rf_some, Nat.reduceAdd, Nat.reduceLeDiff, Nat.reduceLT, Nat.le_refl, Nat.zero_le, hR, b0, e1, iw, g40, A1, C33, A2, K1, n1, A3, Bool.false_eq_true, Bool.true_eq_false, if_true, if_false, not_true_eq_false, not_false_eq_true, zle, eq_self]
          rw [e30_56]
          simp only [e30_58, e30_60, e30_63, e30_64, e30_65, e30_68, e30_70, n1, (by decide : ¬ (40 : Int32) ≤ 0), Int32.le_refl, Bool.false_eq_true, Bool.true_eq_false, if_true, if_false, not_true_eq_false, not_false_eq_true, zle, eq_self]
          exact A4
        · have : bs ++ (hdT I k ++ 40 :: (hdT I c ++ kdR I N g k c)) = bs ++ hdT I k ++ [40] ++ (hdT I c ++ kdR I N g k c) := by simp
          rw [this]; exact W4
    · have g40 : (Int32.ofNat dep < 40) = True := eq_true ((nu_lt (s := 40) (by omega) (by omega)).mpr (by omega))
      have hl := hdT_eq (I := I) (k := c)
      rw [kdR_s] at hb ⊢
      rw [List.length_append] at hb
      obtain ⟨J1, A1, W1⟩ := ih.1 c J bs (dep + 1) h2 (by omega) (by omega) W (by omega)
      have K1 := fun d => k27 (d := d) (n := n) (L := L) (nc := nc) (ns := ns) (nx := nx) (k := k) (q := c) hR H W1 (by omega)
      have e2 : Int32.ofNat dep + 1 = Int32.ofNat (dep + 1) := nu_add (s := 1)
      have e3 : Int32.ofNat i + 1 = Int32.ofNat (i + 1) := nu_add (s := 1)
      have gi : ((40 : Int32) ≤ Int32.ofNat (i + 1)) = False := eq_false (fun e => by have := (nu_le (t := 40) (by omega) (by omega)).mp e; omega)
      have gz : (Int32.ofNat (i + 1) ≤ 0) = False := eq_false (fun e => by have := (nu_le (s := 0) (by omega) (by omega)).mp e; omega)
      have dd : ∀ d, d + (N - k) + 2 = (d + (c - k - 1)) + (N - c) + 3 := fun d => by omega
      rcases nxK_is (I := I) hN k c with h | ⟨c', h4, h5, h6, h7, h8, h9⟩
      · rw [if_pos h] at hb ⊢
        simp only [List.length_cons, List.length_nil] at hb
        obtain ⟨J2, A2, W2⟩ := cw (n := n) (L := L) (nc := nc) (ns := ns) (nx := nx) hR W1 (by simp only [List.length_append]; omega) 41
        refine ⟨J2, fun d => ?_, by have := W2; simpa using this⟩
        have A1 := A1 (d + (c - k - 1))
        rw [← dd] at A1
        simp only [e30_82, e30_83, e30_84, e30_85, e30_86, e30_87, rk_n, rk_v, nl_n, nl_i, nl_r, cat_n, ip_cat_int, ip_cat_ref, ip_cat_long, ip_rf_some, Nat.reduceAdd, Nat.reduceLeDiff, Nat.reduceLT, Nat.le_refl, Nat.zero_le, e2, A1, e30_90, e30_91, e30_92, e30_93, K1, h, e30_96, e30_97, e30_100, e3, Bool.false_eq_true, Bool.true_eq_false, if_true, if_false, not_true_eq_false, not_false_eq_true, zle, eq_self]
        rw [e30_56]
        simp only [e30_58, e30_60, e30_63, e30_64, e30_65, e30_103, e30_104, e30_107, e30_109, e30_112, rk_n, rk_v, nl_n, nl_i, nl_r, cat_n, ip_cat_int, ip_cat_ref, ip_cat_long, ip_rf_some, Nat.reduceAdd, Nat.reduceLeDiff, Nat.reduceLT, Nat.le_refl, Nat.zero_le, hR, gi, A2, Bool.false_eq_true, Bool.true_eq_false, if_true, if_false, not_true_eq_false, not_false_eq_true, zle, eq_self]
      · rw [if_neg h9, h8] at hb ⊢
        simp only [List.length_cons, List.length_append] at hb
        obtain ⟨J2, A2, W2⟩ := cw (n := n) (L := L) (nc := nc) (ns := ns) (nx := nx) hR W1 (by simp only [List.length_append]; omega) 44
        obtain ⟨J3, A3, W3⟩ := ih.2 k c' J2 _ dep (i + 1) (by omega) h5 h6 hd (by omega) (by omega) W2 (by simp only [List.length_append, List.length_cons, List.length_nil]; omega)
        refine ⟨J3, fun d => ?_, ?_⟩
        · have A1 := A1 (d + (c - k - 1))
          rw [← dd] at A1
          have A3 := A3 d
          rw [h7] at K1
          have n1 : (Int32.ofNat c' = -1) = False := eq_false (by rw [← h7]; exact h9)
          simp only [e30_82, e30_83, e30_84, e30_85, e30_86, e30_87, rk_n, rk_v, nl_n, nl_i, nl_r, cat_n, ip_cat_int, ip_cat_ref, ip_cat_long, ip_rf_some, Nat.reduceAdd, Nat.reduceLeDiff, Nat.reduceLT, Nat.le_refl, Nat.zero_le, e2, A1, e30_90, e30_91, e30_92, e30_93, K1, e30_96, e30_97, e30_100, e3, Bool.false_eq_true, Bool.true_eq_false, if_true, if_false, not_true_eq_false, not_false_eq_true, zle, eq_self]
          rw [e30_56]
          simp only [e30_58, e30_60, e30_63, e30_64, e30_65, e30_68, e30_70, e30_73, e30_74, e30_77, e30_79, rk_n, rk_v, nl_n, nl_i, nl_r, cat_n, ip_cat_int, ip_cat_ref, ip_cat_long, ip_rf_some, Nat.reduceAdd, Nat.reduceLeDiff, Nat.reduceLT, Nat.le_refl, Nat.zero_le, hR, gi, gz, n1, A2, Bool.false_eq_true, Bool.true_eq_false, if_true, if_false, not_true_eq_false, not_false_eq_true, zle, eq_self]
          exact A3
        · have : bs ++ (hdT I c ++ (brR I N g c ++ 44 :: (hdT I c' ++ kdR I N g k c'))) = bs ++ (hdT I c ++ brR I N g c) ++ [44] ++ (hdT I c' ++ kdR I N g k c') := by simp
          rw [this]; exact W3
end TRS
