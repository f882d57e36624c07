/-! THE MODEL: outcomes; laying an appeal -/
theorem nz0 : (Int32.ofNat 0 = 0) = True := eq_true rfl
theorem nz1 : (Int32.ofNat 1 = 0) = False := eq_false (by decide)
section MO
variable {n d a b T c s t z o w m p lev k side ap b0 b1 h0 h1 : Nat} {I J K : Nat → Nat → Int32} {L : Nat → Nat → Int64} {R : Nat → Nat → Option Nat} {nc ns : Nat} {nx : Bool} {x y j v : Int32} {h : ip_H} {f g std rst V : Nat → Nat} {win : Nat → Bool} {br fl : Nat → Int32}
/-- only scratch of the model's object is written: fields with a property -/
def onlyM (P : Nat → Prop) (I J : Nat → Nat → Int32) : Prop := ∀ a k, ¬ (a = 265 ∧ P k) → J a k = I a k
theorem onlyM_refl {P : Nat → Prop} : onlyM P I I := fun _ _ _ => rfl
theorem onlyM_up {P : Nat → Prop} (H : onlyM P I J) (hk : P k) : onlyM P I (ip_up J 265 k v) := by
  intro a i h
  by_cases ha : a = 265
  · subst ha
    have : ¬ i = k := by rintro rfl; exact h ⟨rfl, hk⟩
    rw [up_k this]
    exact H _ _ h
  · rw [up_a ha]
    exact H _ _ h
theorem onlyM_tr {P : Nat → Prop} (H : onlyM P I J) (G : onlyM P J K) : onlyM P I K := fun a k h => (G a k h).trans (H a k h)
theorem onlyM_mono {P Q : Nat → Prop} (H : onlyM P I J) (G : ∀ k, P k → Q k) : onlyM Q I J := fun a k h => H a k (fun e => h ⟨e.1, G k e.2⟩)
theorem onlyM_get {P : Nat → Prop} (H : onlyM P I J) (hk : ¬ P k) : J 265 k = I 265 k := H _ _ (fun e => hk e.2)
theorem onlyM_a {P : Nat → Prop} (H : onlyM P I J) (ha : ¬ a = 265) : J a k = I a k := H _ _ (fun e => ha e.1)
/-- fields that answers and nodes don't hang on -/
def scr (k : Nat) : Prop := k = 0 ∨ (55 ≤ k ∧ k ≤ 68)
theorem MTx_on (H : onlyM scr I J) (X : MTx c std rst br win I) : MTx c std rst br win J := by
  obtain ⟨h1, h2, h3, h4, h5, h6⟩ := X
  refine ⟨h1, ?_, ?_, ?_, ?_, ?_⟩
  · rw [onlyM_get H (by unfold scr; omega)]; exact h2
  · intro k hk; rw [onlyM_a H (by omega)]; exact h3 k hk
  · intro k hk; rw [onlyM_a H (by omega)]; exact h4 k hk
  · intro k hk; rw [onlyM_a H (by omega)]; exact h5 k hk
  · intro k hk; rw [onlyM_a H (by omega)]; exact h6 k hk
theorem MNd_on (H : onlyM scr I J) (X : MNd w p lev V fl I) : MNd w p lev V fl J := by
  obtain ⟨h1, h2, h3, h4, h5, h6, h7, h8, h9, h10, h11⟩ := X
  refine ⟨h1, ?_, h3, ?_, ?_, ?_, ?_, ?_, ?_, ?_, ?_⟩
  · rw [onlyM_get H (by unfold scr; omega)]; exact h2
  · rw [onlyM_a H (by omega)]; exact h4
  · rw [onlyM_a H (by omega)]; exact h5
  · rw [onlyM_a H (by omega)]; exact h6
  · rw [onlyM_a H (by omega)]; exact h7
  · rw [onlyM_a H (by omega)]; exact h8
  · intro s hs; rw [onlyM_a H (by omega), onlyM_a H (by omega)]; exact h9 s hs
  · intro k hk; rw [onlyM_a H (by omega)]; exact h10 k hk
  · intro e; rw [onlyM_a H (by omega), onlyM_a H (by omega)]; exact h11 e
def aftN (c : Nat) (std rst : Nat → Nat) (br : Nat → Int32) (win : Nat → Bool) (V : Nat → Nat) (fl : Nat → Int32) (lev m : Nat) : Int32 := sureI win (zrnN c std rst br win V fl lev m) (opnN c std rst br win V fl lev m)
/-- how it would be by errors of who appeals (ap), and with the other's -/
def outE (c : Nat) (std rst : Nat → Nat) (br : Nat → Int32) (win : Nat → Bool) (V : Nat → Nat) (fl : Nat → Int32) (lev ap e1 e2 : Nat) : Int32 := if aftN c std rst br win V fl lev e1 = Int32.ofNat (1 - ap) then 0 else if aftN c std rst br win V fl lev e2 = Int32.ofNat (1 - ap) then 1 else if aftN c std rst br win V fl lev e2 = -1 then 3 else 2
def f5 (k : Nat) : Prop := k = 55 ∨ k = 56 ∨ k = 57 ∨ k = 62 ∨ k = 63
theorem f5_scr {k : Nat} (h : f5 k) : scr k := by unfold f5 at h; unfold scr; omega
theorem errN_lt {s : Nat} (h : c ≤ 8) : errN c std rst br win V fl lev s < 256 := setN_256 _ h
/-- one half of outcome: errors of a set, and THEN by them -/
def halfI (I : Nat → Nat → Int32) (s e o t z : Nat) : Nat → Nat → Int32 := thenI (ip_up (ip_up I 265 62 (Int32.ofNat s)) 265 63 (Int32.ofNat e)) o t z
theorem half_on : onlyM f5 I (halfI I s m o t z) := by
  unfold halfI thenI
  refine onlyM_up (onlyM_up (onlyM_up (onlyM_up (onlyM_up onlyM_refl ?_) ?_) ?_) ?_) ?_ <;> unfold f5 <;> omega
theorem half_57 : halfI I s m o t z 265 57 = Int32.ofNat z := by unfold halfI thenI; simp only [up_eq, up_k, Nat.reduceEqDiff, not_false_eq_true]
theorem half_56 : halfI I s m o t z 265 56 = Int32.ofNat t := by unfold halfI thenI; simp only [up_eq, up_k, Nat.reduceEqDiff, not_false_eq_true]
theorem half_55 : halfI I s m o t z 265 55 = Int32.ofNat o := by unfold halfI thenI; simp only [up_eq, up_k, Nat.reduceEqDiff, not_false_eq_true]
theorem half_62 : halfI I s m o t z 265 62 = Int32.ofNat s := by unfold halfI thenI; simp only [up_eq, up_k, Nat.reduceEqDiff, not_false_eq_true]
theorem half_63 : halfI I s m o t z 265 63 = Int32.ofNat m := by unfold halfI thenI; simp only [up_eq, up_k, Nat.reduceEqDiff, not_false_eq_true]
theorem one_sub (h : ap < 2) : (1 : Int32) - Int32.ofNat ap = Int32.ofNat (1 - ap) := by rcases lt2 h with rfl | rfl <;> decide
def fstN (ap b0 b1 : Nat) : Nat := if ap = 0 then b0 else b1
theorem c237 (hR : LYR R) (X : MTx c std rst br win I) (M : MNd w p lev V fl I) (hl : lev = 1 ∨ lev = 2) (hap : I 265 59 = Int32.ofNat ap) (a2 : ap < 2) (hlv : I 265 58 = Int32.ofNat lev) (q0 : b0 < 256) (q1 : b1 < 256) :
    ∃ J, cf (d + 2) 237 [.ref 265, .int (Int32.ofNat b0), .int (Int32.ofNat b1)] (SH n, I, L, R, nc, ns, nx) = some (.inl (some (.int (outE c std rst br win V fl lev ap (errN c std rst br win V fl lev (fstN ap b0 b1)) (errN c std rst br win V fl lev (b0 ||| b1))))), (SH n, J, L, R, nc, ns, nx)) ∧ onlyM f5 I J ∧
      (∃ S, S = (if aftN c std rst br win V fl lev (errN c std rst br win V fl lev (fstN ap b0 b1)) = Int32.ofNat (1 - ap) then fstN ap b0 b1 else b0 ||| b1) ∧ J 265 62 = Int32.ofNat S ∧ J 265 63 = Int32.ofNat (errN c std rst br win V fl lev S) ∧ J 265 55 = Int32.ofNat (opnN c std rst br win V fl lev (errN c std rst br win V fl lev S)) ∧ J 265 56 = Int32.ofNat (trnN c std rst br win V fl lev (errN c std rst br win V fl lev S)) ∧ J 265 57 = Int32.ofNat (zrnN c std rst br win V fl lev (errN c std rst br win V fl lev S))) := by
  have hc8 := X.1
  have v8 := M.2.2.1
  have qf : fstN ap b0 b1 < 256 := by unfold fstN; split <;> assumption
  have q2 : b0 ||| b1 < 256 := Nat.or_lt_two_pow (n := 8) q0 q1
  -- the first half
  have o1 : onlyM f5 I (ip_up I 265 62 (Int32.ofNat (fstN ap b0 b1))) := onlyM_up onlyM_refl (by unfold f5; omega)
  have X1 := MTx_on (onlyM_mono o1 (fun _ => f5_scr)) X
  have M1 := MNd_on (onlyM_mono o1 (fun _ => f5_scr)) M
  have E1 := c238 (d := d) (n := n) (L := L) (nc := nc) (ns := ns) (nx := nx) hR X1 M1 hl qf
  have o2 := onlyM_up (k := 63) (v := Int32.ofNat (errN c std rst br win V fl lev (fstN ap b0 b1))) o1 (by unfold f5; omega)
  have X2 := MTx_on (onlyM_mono o2 (fun _ => f5_scr)) X
  have M2 := MNd_on (onlyM_mono o2 (fun _ => f5_scr)) M
  have T1 := c239 (d := d) (n := n) (L := L) (nc := nc) (ns := ns) (nx := nx) hR X2 M2 (errN_lt (s := fstN ap b0 b1) (std := std) (rst := rst) (br := br) (win := win) (V := V) (fl := fl) (lev := lev) hc8)
  generalize hJ1 : thenI (ip_up (ip_up I 265 62 (Int32.ofNat (fstN ap b0 b1))) 265 63 (Int32.ofNat (errN c std rst br win V fl lev (fstN ap b0 b1)))) (opnN c std rst br win V fl lev (errN c std rst br win V fl lev (fstN ap b0 b1))) (trnN c std rst br win V fl lev (errN c std rst br win V fl lev (fstN ap b0 b1))) (zrnN c std rst br win V fl lev (errN c std rst br win V fl lev (fstN ap b0 b1))) = J1 at T1
  have hJ : J1 = halfI I (fstN ap b0 b1) (errN c std rst br win V fl lev (fstN ap b0 b1)) (opnN c std rst br win V fl lev (errN c std rst br win V fl lev (fstN ap b0 b1))) (trnN c std rst br win V fl lev (errN c std rst br win V fl lev (fstN ap b0 b1))) (zrnN c std rst br win V fl lev (errN c std rst br win V fl lev (fstN ap b0 b1))) := hJ1.symm
  have o3 : onlyM f5 I J1 := by rw [hJ]; exact half_on
  have X3 := MTx_on (onlyM_mono o3 (fun _ => f5_scr)) X
  have M3 := MNd_on (onlyM_mono o3 (fun _ => f5_scr)) M
  have r57 : J1 265 57 = Int32.ofNat (zrnN c std rst br win V fl lev (errN c std rst br win V fl lev (fstN ap b0 b1))) := by rw [hJ]; exact half_57
  have r55 : J1 265 55 = Int32.ofNat (opnN c std rst br win V fl lev (errN c std rst br win V fl lev (fstN ap b0 b1))) := by rw [hJ]; exact half_55
  have r59 : J1 265 59 = Int32.ofNat ap := (onlyM_get o3 (by unfold f5; omega)).trans hap
  have r58 : J1 265 58 = Int32.ofNat lev := (onlyM_get o3 (by unfold f5; omega)).trans hlv
  have S1 := c234 (d := d + 1) (n := n) (L := L) (nc := nc) (ns := ns) (nx := nx) hR X3.2.2.2.2.2 (zrnN_lt (std := std) (rst := rst) (br := br) (win := win) (fl := fl) (lev := lev) (m := errN c std rst br win V fl lev (fstN ap b0 b1)) hc8 v8) (opnN_lt (std := std) (rst := rst) (br := br) (win := win) (fl := fl) (lev := lev) hc8 v8 (errN_lt (s := fstN ap b0 b1) (std := std) (rst := rst) (br := br) (win := win) (V := V) (fl := fl) (lev := lev) hc8))
  have fs : ∀ (A B : Option (ip_O × ip_H)), (if ap = 0 then A else B) = (if ap = 0 then A else B) := fun _ _ => rfl
  have lap : ap < 2147483648 := by omega
  have first : rf (d + 2) 237 0 [some (.ref 265), some (.int (Int32.ofNat b0)), some (.int (Int32.ofNat b1)), none, none, none] [] (SH n, I, L, R, nc, ns, nx) = rf (d + 2) 237 12 [some (.ref 265), some (.int (Int32.ofNat b0)), some (.int (Int32.ofNat b1)), none, none, none] [.int (Int32.ofNat (fstN ap b0 b1))] (SH n, I, L, R, nc, ns, nx) := by
    by_cases g : ap = 0
    · have g2 : (¬ ap = 0) = False := eq_false (fun e => e g)
      simp only [e237_0, e237_1, e237_4, e237_7, e237_8, hap, ofn_0 lap, g2, fstN, g, nz0, Bool.false_eq_true, Bool.true_eq_false, if_true, if_false, not_true_eq_false, not_false_eq_true, zle, eq_self]
    · simp only [e237_0, e237_1, e237_4, e237_11, hap, ofn_0 lap, fstN, g, Bool.false_eq_true, Bool.true_eq_false, if_true, if_false, not_true_eq_false, not_false_eq_true, zle, eq_self]
  rw [en237, first]
  by_cases g : aftN c std rst br win V fl lev (errN c std rst br win V fl lev (fstN ap b0 b1)) = Int32.ofNat (1 - ap)
  · refine ⟨J1, ?_, o3, fstN ap b0 b1, by rw [if_pos g], ?_, ?_, r55, ?_, r57⟩
    · unfold outE
      rw [if_pos g]
      have g' : sureI win (zrnN c std rst br win V fl lev (errN c std rst br win V fl lev (fstN ap b0 b1))) (opnN c std rst br win V fl lev (errN c std rst br win V fl lev (fstN ap b0 b1))) = Int32.ofNat (1 - ap) := g
      simp only [e237_0, e237_1, e237_4, e237_7, e237_8, e237_11, e237_12, e237_13, e237_14, e237_15, e237_18, e237_19, e237_20, e237_21, e237_22, e237_25, e237_28, e237_31, e237_32, e237_33, e237_36, e237_39, e237_40, e237_41, e237_44, e237_45, e237_47, e237_48, e237_49, e237_52, e237_53, e237_56, e237_59, e237_61, e237_64, e237_65, e237_66, e237_67, e237_68, e237_69, e237_70, e237_73, e237_74, e237_75, e237_76, e237_79, e237_80, e237_83, e237_86, e237_89, e237_90, e237_91, e237_94, e237_97, e237_98, e237_99, e237_102, e237_103, e237_106, e237_109, e237_111, e237_113, e237_115, e237_118, e237_119, e237_122, e237_124, e237_125, e237_128, e237_129, e237_132, e237_133, rk_n, rk_v, nl_n, nl_i, nl_r, cat_n, ip_cat_int, ip_cat_ref, ip_cat_long, ip_rf_some, Nat.reduceAdd, Nat.reduceLeDiff, Nat.reduceLT, Nat.le_refl, Nat.zero_le, up_k, up_eq, Nat.reduceEqDiff, hlv, E1, T1, r57, r55, r59, one_sub a2, S1, g', Bool.false_eq_true, Bool.true_eq_false, if_true, if_false, not_true_eq_false, not_false_eq_true, zle, eq_self]
    · rw [hJ]; exact half_62
    · rw [hJ]; exact half_63
    · rw [hJ]; exact half_56
  · have o4 : onlyM f5 I (ip_up J1 265 62 (Int32.ofNat (b0 ||| b1))) := onlyM_up o3 (by unfold f5; omega)
    have X4 := MTx_on (onlyM_mono o4 (fun _ => f5_scr)) X
    have M4 := MNd_on (onlyM_mono o4 (fun _ => f5_scr)) M
    have E2 := c238 (d := d) (n := n) (L := L) (nc := nc) (ns := ns) (nx := nx) hR X4 M4 hl q2
    have o5 := onlyM_up (k := 63) (v := Int32.ofNat (errN c std rst br win V fl lev (b0 ||| b1))) o4 (by unfold f5; omega)
    have X5 := MTx_on (onlyM_mono o5 (fun _ => f5_scr)) X
    have M5 := MNd_on (onlyM_mono o5 (fun _ => f5_scr)) M
    have T2 := c239 (d := d) (n := n) (L := L) (nc := nc) (ns := ns) (nx := nx) hR X5 M5 (errN_lt (s := b0 ||| b1) (std := std) (rst := rst) (br := br) (win := win) (V := V) (fl := fl) (lev := lev) hc8)
    generalize hJ2 : thenI (ip_up (ip_up J1 265 62 (Int32.ofNat (b0 ||| b1))) 265 63 (Int32.ofNat (errN c std rst br win V fl lev (b0 ||| b1)))) (opnN c std rst br win V fl lev (errN c std rst br win V fl lev (b0 ||| b1))) (trnN c std rst br win V fl lev (errN c std rst br win V fl lev (b0 ||| b1))) (zrnN c std rst br win V fl lev (errN c std rst br win V fl lev (b0 ||| b1))) = J2 at T2
    have hJ' : J2 = halfI J1 (b0 ||| b1) (errN c std rst br win V fl lev (b0 ||| b1)) (opnN c std rst br win V fl lev (errN c std rst br win V fl lev (b0 ||| b1))) (trnN c std rst br win V fl lev (errN c std rst br win V fl lev (b0 ||| b1))) (zrnN c std rst br win V fl lev (errN c std rst br win V fl lev (b0 ||| b1))) := hJ2.symm
    have o6 : onlyM f5 I J2 := by rw [hJ']; exact onlyM_tr o3 half_on
    have X6 := MTx_on (onlyM_mono o6 (fun _ => f5_scr)) X
    have t57 : J2 265 57 = Int32.ofNat (zrnN c std rst br win V fl lev (errN c std rst br win V fl lev (b0 ||| b1))) := by rw [hJ']; exact half_57
    have t55 : J2 265 55 = Int32.ofNat (opnN c std rst br win V fl lev (errN c std rst br win V fl lev (b0 ||| b1))) := by rw [hJ']; exact half_55
    have S2 := c234 (d := d + 1) (n := n) (L := L) (nc := nc) (ns := ns) (nx := nx) hR X6.2.2.2.2.2 (zrnN_lt (std := std) (rst := rst) (br := br) (win := win) (fl := fl) (lev := lev) (m := errN c std rst br win V fl lev (b0 ||| b1)) hc8 v8) (opnN_lt (std := std) (rst := rst) (br := br) (win := win) (fl := fl) (lev := lev) hc8 v8 (errN_lt (s := b0 ||| b1) (std := std) (rst := rst) (br := br) (win := win) (V := V) (fl := fl) (lev := lev) hc8))
    have g' : ¬ sureI win (zrnN c std rst br win V fl lev (errN c std rst br win V fl lev (fstN ap b0 b1))) (opnN c std rst br win V fl lev (errN c std rst br win V fl lev (fstN ap b0 b1))) = Int32.ofNat (1 - ap) := g
    refine ⟨J2, ?_, o6, b0 ||| b1, by rw [if_neg g], ?_, ?_, t55, ?_, t57⟩
    · unfold outE
      rw [if_neg g]
      unfold aftN
      simp only [e237_0, e237_1, e237_4, e237_7, e237_8, e237_11, e237_12, e237_13, e237_14, e237_15, e237_18, e237_19, e237_20, e237_21, e237_22, e237_25, e237_28, e237_31, e237_32, e237_33, e237_36, e237_39, e237_40, e237_41, e237_44, e237_45, e237_47, e237_48, e237_49, e237_52, e237_53, e237_56, e237_59, e237_61, e237_64, e237_65, e237_66, e237_67, e237_68, e237_69, e237_70, e237_73, e237_74, e237_75, e237_76, e237_79, e237_80, e237_83, e237_86, e237_89, e237_90, e237_91, e237_94, e237_97, e237_98, e237_99, e237_102, e237_103, e237_106, e237_109, e237_111, e237_113, e237_115, e237_118, e237_119, e237_122, e237_124, e237_125, e237_128, e237_129, e237_132, e237_133, rk_n, rk_v, nl_n, nl_i, nl_r, cat_n, ip_cat_int, ip_cat_ref, ip_cat_long, ip_rf_some, Nat.reduceAdd, Nat.reduceLeDiff, Nat.reduceLT, Nat.le_refl, Nat.zero_le, up_k, up_eq, Nat.reduceEqDiff, hlv, E1, T1, r57, r55, r58, r59, one_sub a2, S1, g', of_or, E2, T2, t57, t55, S2, Bool.false_eq_true, Bool.true_eq_false, if_true, if_false, not_true_eq_false, not_false_eq_true, zle, eq_self]
      by_cases g3 : sureI win (zrnN c std rst br win V fl lev (errN c std rst br win V fl lev (b0 ||| b1))) (opnN c std rst br win V fl lev (errN c std rst br win V fl lev (b0 ||| b1))) = Int32.ofNat (1 - ap)
      · simp only [g3, Bool.false_eq_true, Bool.true_eq_false, if_true, if_false, not_true_eq_false, not_false_eq_true, zle, eq_self]
      · by_cases g4 : sureI win (zrnN c std rst br win V fl lev (errN c std rst br win V fl lev (b0 ||| b1))) (opnN c std rst br win V fl lev (errN c std rst br win V fl lev (b0 ||| b1))) = -1
        · simp only [g3, g4, Bool.false_eq_true, Bool.true_eq_false, if_true, if_false, not_true_eq_false, not_false_eq_true, zle, eq_self]
          simp only [g4] at g3
          simp only [g3, Bool.false_eq_true, Bool.true_eq_false, if_true, if_false, not_true_eq_false, not_false_eq_true, zle, eq_self]
        · simp only [g3, g4, Bool.false_eq_true, Bool.true_eq_false, if_true, if_false, not_true_eq_false, not_false_eq_true, zle, eq_self]
    · rw [hJ']; exact half_62
    · rw [hJ']; exact half_63
    · rw [hJ']; exact half_56
end MO
