/-! THE CLASS'S COURT: sit; what comes of errors -/
theorem setN_congr {P Q : Nat → Bool} {c : Nat} (h : ∀ k, k < c → P k = Q k) : setN P c = setN Q c := by
  apply Nat.eq_of_testBit_eq
  intro i
  rw [setN_bit, setN_bit]
  by_cases hi : i < c
  · rw [h i hi]
  · simp [hi]
theorem sureI_congr {win win' : Nat → Bool} {z o : Nat} (h : ∀ s, s < 256 → win s = win' s) : sureI win z o = sureI win' z o := by
  have a1 : alw win z o = alw win' z o := by
    rw [Bool.eq_iff_iff, alw_iff, alw_iff]
    exact ⟨fun H s hs e => by rw [← h s hs]; exact H s hs e, fun H s hs e => by rw [h s hs]; exact H s hs e⟩
  have a2 : alw (fun s => !win s) z o = alw (fun s => !win' s) z o := by
    rw [Bool.eq_iff_iff, alw_iff, alw_iff]
    exact ⟨fun H s hs e => by rw [← h s hs]; exact H s hs e, fun H s hs e => by rw [h s hs]; exact H s hs e⟩
  unfold sureI
  rw [a1, a2]
theorem sureI_z {win : Nat → Bool} {z z' o : Nat} (h : z &&& (255 ^^^ o) = z' &&& (255 ^^^ o)) : sureI win z o = sureI win z' o := by
  unfold sureI alw
  rw [h]
/-- references that change: the court's text, from and before; the class's text; the reader's bytes and text -/
def mutR (a k : Nat) : Prop := (isC a ∧ k < 3) ∨ (a = 2 ∧ k = 4) ∨ (a = 4 ∧ (k = 1 ∨ k = 2))
theorem LYR_on {R R' : Nat → Nat → Option Nat} (H : ∀ a k, ¬ mutR a k → R' a k = R a k) (h : LYR R) : LYR R' := by
  have q : ∀ a k, ¬ (a = 24 ∧ k < 3) → ¬ (a = 41 ∧ k < 3) → ¬ (a = 2 ∧ k = 4) → ¬ (a = 4 ∧ (k = 1 ∨ k = 2)) → R' a k = R a k := by
    intro a k h1 h2 h3 h4
    apply H
    rintro (⟨e1 | e1, e2⟩ | e | e)
    · exact h1 ⟨e1, e2⟩
    · exact h2 ⟨e1, e2⟩
    · exact h3 e
    · exact h4 e
  obtain ⟨a1, a2, a3, a4, a5⟩ := h
  refine ⟨?_, ?_, ?_, ?_, ?_⟩
  · intro a ha
    have := geN ha
    rw [q a 12 (by omega) (by omega) (by omega) (by omega), q a 13 (by omega) (by omega) (by omega) (by omega), q a 14 (by omega) (by omega) (by omega) (by omega), q a 15 (by omega) (by omega) (by omega) (by omega)]
    exact a1 a ha
  · intro a ha
    have hh : ¬ a = 24 ∧ ¬ a = 41 ∧ ¬ a = 2 ∧ ¬ a = 4 := by unfold isT at ha; omega
    obtain ⟨g1, g2, g3, g4⟩ := hh
    have qq : ∀ k, R' a k = R a k := fun k => q a k (fun e => g1 e.1) (fun e => g2 e.1) (fun e => g3 e.1) (fun e => g4 e.1)
    simp only [qq]
    exact a2 a ha
  · intro a ha
    have hh : ¬ a = 2 ∧ ¬ a = 4 := by unfold isC at ha; omega
    obtain ⟨g3, g4⟩ := hh
    have qq : ∀ k, 3 ≤ k → R' a k = R a k := fun k hk => q a k (by omega) (by omega) (fun e => g3 e.1) (fun e => g4 e.1)
    rw [qq 6 (by omega), qq 7 (by omega), qq 13 (by omega)]
    exact a3 a ha
  · intro k hk
    rw [q 23 k (by omega) (by omega) (by omega) (by omega)]
    exact a4 k hk
  · simp only [q, Nat.reduceEqDiff, false_and, not_false_eq_true, true_and, or_false, false_or, and_false, and_true, eq_self, Nat.reduceLT, or_self, not_true_eq_false]
    exact a5
section CT
variable {n d a b T c s t z o w m p lev k side ap b0 b1 h0 h1 md C F B : Nat} {I J K : Nat → Nat → Int32} {L : Nat → Nat → Int64} {R : Nat → Nat → Option Nat} {nc ns : Nat} {nx : Bool} {x y j v lv hw0 : Int32} {h : ip_H} {f g std rst V : Nat → Nat} {win : Nat → Bool} {br fl : Nat → Int32}
theorem c18w (hR : LYR R) (X : CTx T c std rst br win I L) (hz : z < 256) (ho : o < 256) : cf d 18 [.ref T, .int (Int32.ofNat z), .int (Int32.ofNat o)] (SH n, I, L, R, nc, ns, nx) = some (.inl (some (.int (sureI win z o))), (SH n, I, L, R, nc, ns, nx)) := by
  rw [c18 hR X.1 hz ho, sureI_congr X.2.2.2.2.2.2.2]
def anwA (std : Nat → Nat) (c : Nat) : Nat := setN (fun k => decide (std k = 0)) c
theorem c102w (hR : LYR R) (X : CTx T c std rst br win I L) (q : Nat) (hq : q < 3) : cf d 102 [.ref T, .int (Int32.ofNat q)] (SH n, I, L, R, nc, ns, nx) = some (.inl (some (.int (Int32.ofNat (setN (fun k => decide (std k = q)) c)))), (SH n, I, L, R, nc, ns, nx)) := by
  rw [c102 hR X.1 X.2.2.1 X.2.1]
  have e : setN (fun k => decide (I (T + 2) k = Int32.ofNat q)) c = setN (fun k => decide (std k = q)) c := by
    apply setN_congr
    intro k hk
    obtain ⟨e1, e2⟩ := X.2.2.2.1 k hk
    rw [e1]
    simp only [nu_eq (show std k < 2147483648 by omega) (show q < 2147483648 by omega)]
  rw [e]
/-- a court that sits -/
def SIT (C T F B : Nat) (c : Nat) (std rst : Nat → Nat) (br : Nat → Int32) (win : Nat → Bool) (V : Nat → Nat) (fl : Nat → Int32) (lev ap : Nat) (I : Nat → Nat → Int32) (R : Nat → Nat → Option Nat) : Prop :=
  R C 0 = some T ∧ R C 1 = some F ∧ R C 2 = some B ∧ I C 3 = Int32.ofNat lev ∧ I C 4 = Int32.ofNat (1 - ap) ∧ I C 5 = Int32.ofNat (anwA std c) ∧ (∀ s, s < 2 → I (C + 13) s = Int32.ofNat (heardN c std rst br win V fl lev s) ∧ I (C + 14) s = Int32.ofNat (errS c std rst br win V fl lev s))
def sitR (R : Nat → Nat → Option Nat) (C T F B : Nat) : Nat → Nat → Option Nat := ip_up (ip_up (ip_up R C 0 (some T)) C 1 (some F)) C 2 (some B)
theorem sitR_on (hC : isC C) : ∀ a k, ¬ (a = C ∧ k < 3) → sitR R C T F B a k = R a k := by
  intro a k h
  unfold sitR
  by_cases e : a = C
  · subst e
    have g2 : ¬ k = 2 := fun e => h ⟨rfl, by omega⟩
    have g1 : ¬ k = 1 := fun e => h ⟨rfl, by omega⟩
    have g0 : ¬ k = 0 := fun e => h ⟨rfl, by omega⟩
    rw [up_k g2, up_k g1, up_k g0]
  · rw [up_a e, up_a e, up_a e]
theorem sitR_ly (hC : isC C) (hR : LYR R) : LYR (sitR R C T F B) := LYR_on (fun a k h => sitR_on hC a k (fun e => h (Or.inl ⟨by rw [e.1]; exact hC, e.2⟩))) hR
def atS (C a k : Nat) : Prop := (a = C ∧ (k = 3 ∨ k = 4 ∨ k = 5)) ∨ ((a = C + 13 ∨ a = C + 14) ∧ k < 2)
theorem atS_T (hC : isC C) (hT : isT T) : ∀ i, i ≤ 6 → ∀ k, ¬ atS C (T + i) k := by
  rintro i hi k (⟨e, -⟩ | ⟨e | e, -⟩)
  · exact dis_T (j := 0) hC hT hi (Or.inl rfl) e
  · exact dis_T hC hT hi (Or.inr (by omega)) e
  · exact dis_T hC hT hi (Or.inr (by omega)) e
theorem atS_N (hC : isC C) (nF : isN F) : ∀ i, i ≤ 4 → ∀ k, ¬ atS C (F + i) k := by
  rintro i hi k (⟨e, -⟩ | ⟨e | e, -⟩)
  · exact dis_N (j := 0) hC nF hi (Or.inl rfl) e
  · exact dis_N hC nF hi (Or.inr (by omega)) e
  · exact dis_N hC nF hi (Or.inr (by omega)) e
theorem c100 (hR : LYR R) (hC : isC C) (X : CTx T c std rst br win I L) (N : CNd F B c lev V fl I) (hl : lev = 1 ∨ lev = 2) (e1 : I F 0 = lv) (e2 : I F 2 = hw0) (e3 : I F 3 = Int32.ofNat md) (hm : md < 256) (hL : levI lv hw0 (V 6) md = Int32.ofNat lev) (hS : sureI win (V 4) (V 6) = Int32.ofNat (1 - ap)) :
    ∃ J, cf (d + 3) 100 [.ref C, .ref T, .ref F, .ref B] (SH n, I, L, R, nc, ns, nx) = some (.inl (some (.int 1)), (SH n, J, L, sitR R C T F B, nc, ns, nx)) ∧ onlyP (atS C) I J ∧ SIT C T F B c std rst br win V fl lev ap J (sitR R C T F B) := by
  have hR2 := sitR_ly (T := T) (F := F) (B := B) hC hR
  have r0 : sitR R C T F B C 0 = some T := by unfold sitR; rw [up_k (by decide), up_k (by decide), up_eq]
  have r1 : sitR R C T F B C 1 = some F := by unfold sitR; rw [up_k (by decide), up_eq]
  have r2 : sitR R C T F B C 2 = some B := by unfold sitR; rw [up_eq]
  have hT := X.1
  have nF := N.1
  have nB := N.2.1
  have v8 := N.2.2.1
  have i4 := N.2.2.2.1
  have i6 := N.2.2.2.2.2.1
  have E1 := c101 (d := d + 2) (n := n) (L := L) (R := sitR R C T F B) (nc := nc) (ns := ns) (nx := nx) nF e1 e2 e3 i6 hm
  rw [hL] at E1
  have W := c18w (d := d + 2) (n := n) (nc := nc) (ns := ns) (nx := nx) hR2 X (v8 4) (v8 6)
  rw [hS] at W
  have l1 : (Int32.ofNat lev = -1) = False := eq_false (nu_m1 (by omega))
  have l2 : (Int32.ofNat (1 - ap) = -1) = False := eq_false (nu_m1 (by omega))
  -- behind level, winner, anew
  have o1 : onlyP (atS C) I (ip_up I C 3 (Int32.ofNat lev)) := onlyP_up onlyP_refl (Or.inl ⟨rfl, Or.inl rfl⟩)
  have o2 := onlyP_up (b := C) (k := 4) (v := Int32.ofNat (1 - ap)) o1 (Or.inl ⟨rfl, Or.inr (Or.inl rfl)⟩)
  have o3 := onlyP_up (b := C) (k := 5) (v := Int32.ofNat (anwA std c)) o2 (Or.inl ⟨rfl, Or.inr (Or.inr rfl)⟩)
  have fT := atS_T hC hT
  have fF : ∀ i, i ≤ 3 → ∀ k, ¬ atS C (F + i) k := fun i hi => atS_N hC nF i (by omega)
  have fB : ¬ atS C B 7 := atS_N hC nB 0 (by omega) 7
  have ST := c102w (d := d + 2) (n := n) (nc := nc) (ns := ns) (nx := nx) hR2 (CTx_P o2 fT X) 0 (by omega)
  generalize hI3 : ip_up (ip_up (ip_up I C 3 (Int32.ofNat lev)) C 4 (Int32.ofNat (1 - ap))) C 5 (Int32.ofNat (anwA std c)) = I3 at o3
  have j3 : I3 C 3 = Int32.ofNat lev := by rw [← hI3, up_k (by decide), up_k (by decide), up_eq]
  have j4 : I3 C 4 = Int32.ofNat (1 - ap) := by rw [← hI3, up_k (by decide), up_eq]
  have j5 : I3 C 5 = Int32.ofNat (anwA std c) := by rw [← hI3, up_eq]
  obtain ⟨J1, H1, p1, y1, y2⟩ := c103 (d := d) (n := n) (nc := nc) (ns := ns) (nx := nx) (side := 0) hR2 hC (CTx_P o3 fT X) (CNd_P o3 fF fB N) hl r0 r1 r2 j3 (by omega)
  have p1s : onlyP (atS C) I3 J1 := onlyP_mono p1 (fun a k e => Or.inr ⟨e.1, by rw [e.2]; omega⟩)
  have o4 := onlyP_tr o3 p1s
  have n13 : ¬ C = C + 13 := by omega
  have n14 : ¬ C = C + 14 := by omega
  have k3 : ∀ k, J1 C k = I3 C k := fun k => p1 C k (fun e => by rcases e.1 with e | e <;> omega)
  obtain ⟨J2, H2, p2, y3, y4⟩ := c103 (d := d) (n := n) (nc := nc) (ns := ns) (nx := nx) (side := 1) hR2 hC (CTx_P o4 fT X) (CNd_P o4 fF fB N) hl r0 r1 r2 ((k3 3).trans j3) (by omega)
  have p2s : onlyP (atS C) J1 J2 := onlyP_mono p2 (fun a k e => Or.inr ⟨e.1, by rw [e.2]; omega⟩)
  have k4 : ∀ k, J2 C k = I3 C k := fun k => (p2 C k (fun e => by rcases e.1 with e | e <;> omega)).trans (k3 k)
  refine ⟨J2, ?_, onlyP_tr o4 p2s, r0, r1, r2, (k4 3).trans j3, (k4 4).trans j4, (k4 5).trans j5, ?_⟩
  · have z0 : Int32.ofNat 0 = 0 := rfl
    have z1 : Int32.ofNat 1 = 1 := rfl
    rw [z0] at H1 ST
    rw [z1] at H2
    have sR : ip_up (ip_up (ip_up R C 0 (some T)) C 1 (some F)) C 2 (some B) = sitR R C T F B := rfl
    have aA : setN (fun k => decide (std k = 0)) c = anwA std c := rfl
    simp only [en100, e100_0, e100_1, e100_2, e100_5, e100_6, e100_7, e100_10, e100_11, e100_12, e100_15, e100_16, e100_19, e100_21, e100_22, e100_25, e100_26, e100_29, e100_32, e100_33, e100_36, e100_39, e100_42, e100_44, e100_46, e100_47, e100_50, e100_52, e100_53, e100_56, e100_57, e100_58, e100_59, e100_61, e100_64, e100_65, e100_67, e100_70, e100_71, e100_72, e100_75, e100_76, e100_79, e100_82, e100_83, e100_84, e100_87, e100_88, e100_89, e100_92, e100_93, rk_n, rk_v, nl_n, nl_i, nl_r, cat_n, ip_cat_int, ip_cat_ref, ip_cat_long, ip_rf_some, Nat.reduceAdd, Nat.reduceLeDiff, Nat.reduceLT, Nat.le_refl, Nat.zero_le, hC, hT, nF, nB, sR, r0, r1, E1, W, i4, i6, l1, l2, ST, aA, hI3, H1, H2, or_true, Bool.false_eq_true, Bool.true_eq_false, if_true, if_false, not_true_eq_false, not_false_eq_true, zle, eq_self]
  · intro s hs
    rcases lt2 hs with rfl | rfl
    · rw [p2 (C + 13) 0 (fun e => by cases e.2), p2 (C + 14) 0 (fun e => by cases e.2)]
      exact ⟨y1, y2⟩
    · exact ⟨y3, y4⟩
theorem b100 (hR : LYR R) (hC : isC C) (X : CTx T c std rst br win I L) (N : CNd F B c lev V fl I) (e1 : I F 0 = lv) (e2 : I F 2 = hw0) (e3 : I F 3 = Int32.ofNat md) (hm : md < 256) (hL : levI lv hw0 (V 6) md = -1 ∨ sureI win (V 4) (V 6) = -1) :
    cf (d + 1) 100 [.ref C, .ref T, .ref F, .ref B] (SH n, I, L, R, nc, ns, nx) = some (.inl (some (.int 0)), (SH n, I, L, sitR R C T F B, nc, ns, nx)) := by
  have hR2 := sitR_ly (T := T) (F := F) (B := B) hC hR
  have r0 : sitR R C T F B C 0 = some T := by unfold sitR; rw [up_k (by decide), up_k (by decide), up_eq]
  have r1 : sitR R C T F B C 1 = some F := by unfold sitR; rw [up_k (by decide), up_eq]
  have hT := X.1
  have nF := N.1
  have nB := N.2.1
  have v8 := N.2.2.1
  have i4 := N.2.2.2.1
  have i6 := N.2.2.2.2.2.1
  have E1 := c101 (d := d) (n := n) (L := L) (R := sitR R C T F B) (nc := nc) (ns := ns) (nx := nx) nF e1 e2 e3 i6 hm
  have W := c18w (d := d) (n := n) (nc := nc) (ns := ns) (nx := nx) hR2 X (v8 4) (v8 6)
  have sR : ip_up (ip_up (ip_up R C 0 (some T)) C 1 (some F)) C 2 (some B) = sitR R C T F B := rfl
  by_cases g : levI lv hw0 (V 6) md = -1
  · simp only [en100, e100_0, e100_1, e100_2, e100_5, e100_6, e100_7, e100_10, e100_11, e100_12, e100_15, e100_16, e100_19, e100_21, e100_22, e100_25, e100_26, e100_29, e100_32, e100_33, e100_36, e100_39, e100_42, e100_44, e100_46, e100_47, e100_50, e100_52, e100_53, e100_56, e100_57, e100_58, e100_59, e100_61, e100_64, e100_65, e100_67, e100_70, e100_71, e100_72, e100_75, e100_76, e100_79, e100_82, e100_83, e100_84, e100_87, e100_88, e100_89, e100_92, e100_93, rk_n, rk_v, nl_n, nl_i, nl_r, cat_n, ip_cat_int, ip_cat_ref, ip_cat_long, ip_rf_some, Nat.reduceAdd, Nat.reduceLeDiff, Nat.reduceLT, Nat.le_refl, Nat.zero_le, hC, hT, nF, nB, sR, r0, r1, E1, W, i4, i6, g, true_or, Bool.false_eq_true, Bool.true_eq_false, if_true, if_false, not_true_eq_false, not_false_eq_true, zle, eq_self]
  · have g2 := hL.resolve_left g
    simp only [en100, e100_0, e100_1, e100_2, e100_5, e100_6, e100_7, e100_10, e100_11, e100_12, e100_15, e100_16, e100_19, e100_21, e100_22, e100_25, e100_26, e100_29, e100_32, e100_33, e100_36, e100_39, e100_42, e100_44, e100_46, e100_47, e100_50, e100_52, e100_53, e100_56, e100_57, e100_58, e100_59, e100_61, e100_64, e100_65, e100_67, e100_70, e100_71, e100_72, e100_75, e100_76, e100_79, e100_82, e100_83, e100_84, e100_87, e100_88, e100_89, e100_92, e100_93, rk_n, rk_v, nl_n, nl_i, nl_r, cat_n, ip_cat_int, ip_cat_ref, ip_cat_long, ip_rf_some, Nat.reduceAdd, Nat.reduceLeDiff, Nat.reduceLT, Nat.le_refl, Nat.zero_le, hC, hT, nF, nB, sR, r0, r1, E1, W, i4, i6, g, g2, true_or, Bool.false_eq_true, Bool.true_eq_false, if_true, if_false, not_true_eq_false, not_false_eq_true, zle, eq_self]
end CT
