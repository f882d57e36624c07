/-! CALL BY CALL: path, common -/
section S36
variable {n d a b T c s t z o w m p lev k side ap b0 b1 N q B C F A i tt : Nat} {I J K M I1 I2 : Nat → Nat → Int32} {L L' : Nat → Nat → Int64} {R R' : Nat → Nat → Option Nat} {nc ns : Nat} {nx : Bool} {x y j v u code x1 x2 x3 : Int32} {P : Nat → Nat → Prop} {h' h : ip_H} {f : Nat → Nat}
def upN (f : Nat → Nat) : Nat → Nat → Nat
  | 0, k => k
  | s + 1, k => upN f s (f k)
def dpN (f : Nat → Nat) : Nat → Nat → Nat
  | 0, _ => 0
  | q + 1, k => if k = 0 then 0 else dpN f q (f k) + 1
theorem dpI_N : ∀ q k acc, dpI f q k acc = acc + Int32.ofNat (dpN f q k) := by
  intro q
  induction q with
  | zero => intro k acc; rw [dpI, dpN]; exact (Int32.add_zero acc).symm
  | succ q ih =>
    intro k acc
    rw [dpI, dpN]
    by_cases h : k = 0
    · rw [if_pos h, if_pos h]; exact (Int32.add_zero acc).symm
    · rw [if_neg h, if_neg h, ih, Int32.add_assoc, ← nu_add (s := 1), Int32.add_comm (Int32.ofNat _) (Int32.ofNat 1)]; rfl
def PF (f : Nat → Nat) (N : Nat) : Prop := f 0 = 0 ∧ ∀ k, 0 < k → k < N → f k < k
theorem dpN_f (H : PF f N) : ∀ q k q', k < N → k < q → k < q' → dpN f q k = dpN f q' k := by
  intro q
  induction q with
  | zero => intro k q' _ h; omega
  | succ q ih =>
    intro k q' h1 h2 h3
    cases q' with
    | zero => omega
    | succ q' =>
      rw [dpN, dpN]
      by_cases h : k = 0
      · rw [if_pos h, if_pos h]
      · have := H.2 k (by omega) h1
        rw [if_neg h, if_neg h, ih (f k) q' (by omega) (by omega) (by omega)]
theorem dN_s (H : PF f N) (hN : N ≤ 40) (h0 : 0 < k) (hk : k < N) : dpN f 41 k = dpN f 41 (f k) + 1 := by
  have := H.2 k h0 hk
  rw [dpN, if_neg (by omega), dpN_f H 40 (f k) 41 (by omega) (by omega) (by omega)]
theorem dN_0 : dpN f 41 0 = 0 := by rw [dpN, if_pos rfl]
theorem dN_le (H : PF f N) (hN : N ≤ 40) : ∀ k, k < N → dpN f 41 k ≤ k := by
  intro k
  induction k using Nat.strongRecOn with
  | _ k ih =>
    intro hk
    by_cases h : k = 0
    · subst h; rw [dN_0]; exact Nat.le_refl _
    · have := H.2 k (by omega) hk
      rw [dN_s H hN (by omega) hk]
      have := ih (f k) this (by omega)
      omega
def Anc (f : Nat → Nat) (a r : Nat) : Prop := ∃ s, upN f s a = r
theorem up_0 (H : f 0 = 0) : ∀ s, upN f s 0 = 0 := by
  intro s
  induction s with
  | zero => rfl
  | succ s ih => rw [upN, H]; exact ih
theorem anc_st : Anc f a b ↔ b = a ∨ Anc f (f a) b := by
  constructor
  · rintro ⟨s, h⟩
    cases s with
    | zero => exact Or.inl h.symm
    | succ s => exact Or.inr ⟨s, h⟩
  · rintro (h | ⟨s, h⟩)
    · exact ⟨0, h.symm⟩
    · exact ⟨s + 1, h⟩
theorem anc_d (H : PF f N) (hN : N ≤ 40) : ∀ a b, a < N → Anc f a b → b = a ∨ (b < a ∧ dpN f 41 b < dpN f 41 a) := by
  intro a
  induction a using Nat.strongRecOn with
  | _ a ih =>
    intro b ha h
    by_cases h0 : a = 0
    · subst h0
      obtain ⟨s, e⟩ := h
      rw [up_0 H.1] at e
      exact Or.inl e.symm
    · have fa := H.2 a (by omega) ha
      have da := dN_s H hN (by omega) ha
      rcases anc_st.mp h with e | e
      · exact Or.inl e
      · rcases ih (f a) fa b (by omega) e with e | ⟨e1, e2⟩
        · exact Or.inr ⟨by omega, by rw [e]; omega⟩
        · exact Or.inr ⟨by omega, by omega⟩
def LC (f : Nat → Nat) (a b r : Nat) : Prop := Anc f a r ∧ Anc f b r ∧ ∀ c, Anc f a c → Anc f b c → c ≤ r
theorem LC_eq {r r' : Nat} (h : LC f a b r) (h' : LC f a b r') : r = r' := Nat.le_antisymm (h'.2.2 r h.1 h.2.1) (h.2.2 r' h'.1 h'.2.1)
theorem LC_sy {r : Nat} (h : LC f a b r) : LC f b a r := ⟨h.2.1, h.1, fun c h1 h2 => h.2.2 c h2 h1⟩
theorem LC_aa (H : PF f N) (hN : N ≤ 40) (ha : a < N) : LC f a a a := ⟨⟨0, rfl⟩, ⟨0, rfl⟩, fun c h _ => by rcases anc_d H hN a c ha h with e | e <;> omega⟩
theorem LC_l {r : Nat} (hn : ¬ Anc f b a) (h : LC f (f a) b r) : LC f a b r := by
  refine ⟨anc_st.mpr (Or.inr h.1), h.2.1, fun c h1 h2 => ?_⟩
  rcases anc_st.mp h1 with e | e
  · exact absurd (e ▸ h2) hn
  · exact h.2.2 c e h2
theorem REL_pp (X : REL T c N w t p I L R) : PF (fun k => sN (I 290 k)) N ∧ N ≤ 40 ∧ I 290 0 = -1 ∧ I 65 1 = -1 ∧ ∀ k, 0 < k → k < N → (I 290 k = Int32.ofNat (sN (I 290 k)) ∧ sN (I 290 k) < k) ∧ (I (65 + 5 * k) 1 = Int32.ofNat (sN (I 290 k)) ∧ sN (I 290 k) < k) := by
  obtain ⟨⟨n1, n2, n3⟩, -, -, y5⟩ := X.2.2.1
  have r0 := (y5 0 (by omega)).2.1
  have A : ∀ k, 0 < k → k < N → I 290 k = Int32.ofNat (sN (I 290 k)) ∧ sN (I 290 k) < k := by
    intro k h1 h2
    obtain ⟨q, z1, z2, -⟩ := (y5 k h2).2.1.2.2 h1
    rw [z2, sN_of (by omega)]
    exact ⟨rfl, z1⟩
  have z0 := (r0.2.1 rfl).1
  refine ⟨⟨?_, fun k h1 h2 => (A k h1 h2).2⟩, n2, z0, r0.1.trans z0, fun k h1 h2 => ⟨A k h1 h2, (y5 k h2).2.1.1.trans (A k h1 h2).1, (A k h1 h2).2⟩⟩
  show sN (I 290 0) = 0
  rw [z0]; rfl
theorem l178 (hR : LYR R) (H : PF f N) (hN : N ≤ 40) (hp : ∀ k, 0 < k → k < N → I (65 + 5 * k) 1 = Int32.ofNat (f k) ∧ f k < k) (ht : tt < 2147483648) : ∀ s k i, k < N → s ≤ dpN f 41 k → i + s = tt → rf d 178 5 [some (.ref 2), some (.int y), some (.int (Int32.ofNat tt)), some (.int (Int32.ofNat k)), some (.int (Int32.ofNat i))] [] (SH n, I, L, R, nc, ns, nx) = some (.inl (some (.int (Int32.ofNat (upN f s k)))), (SH n, I, L, R, nc, ns, nx)) := by
  intro s
  induction s with
  | zero =>
    intro k i h1 h2 h3
    have g : ((Int32.ofNat tt : Int32) ≤ Int32.ofNat i) = (tt ≤ i) := nu_lit (by omega) (by omega)
    have g1 : tt ≤ i := by omega
    rw [e178_5]
    simp only [e178_0, e178_1, e178_2, e178_3, e178_7, e178_8, e178_11, e178_12, e178_15, e178_16, e178_17, e178_20, e178_21, e178_24, e178_25, e178_28, e178_29, e178_30, e178_33, e178_34, e178_37, e178_40, e178_41, rk_n, rk_v, nl_n, nl_i, nl_r, cat_n, ip_cat_int, ip_cat_ref, ip_cat_long, ip_rf_some, Nat.reduceAdd, Nat.reduceLeDiff, Nat.reduceLT, Nat.le_refl, Nat.zero_le, g, g1, upN, Bool.false_eq_true, Bool.true_eq_false, if_true, if_false, not_true_eq_false, not_false_eq_true, zle, eq_self]
  | succ s ih =>
    intro k i h1 h2 h3
    have g : ((Int32.ofNat tt : Int32) ≤ Int32.ofNat i) = (tt ≤ i) := nu_lit (by omega) (by omega)
    have g1 : ¬ tt ≤ i := by omega
    have k0 : 0 < k := by
      refine Nat.pos_of_ne_zero (fun e => ?_)
      rw [e, dN_0] at h2; omega
    have ds := dN_s H hN k0 h1
    obtain ⟨e1, e2⟩ := hp k k0 h1
    have b0 := (nu_inb (t := k) (k := 40) (by omega)).mpr (by omega)
    have e3 := nd_of (k := k) (by omega)
    have e4 := isN_nd (k := k) (by omega)
    have e5 := nu_m1 (t := f k) (by omega)
    have a1 : Int32.ofNat i + 1 = Int32.ofNat (i + 1) := nu_add (s := 1)
    rw [e178_5, upN, ← ih (f k) (i + 1) (by omega) (by omega) (by omega)]
    simp only [e178_0, e178_1, e178_2, e178_3, e178_7, e178_8, e178_11, e178_12, e178_15, e178_16, e178_17, e178_20, e178_21, e178_24, e178_25, e178_28, e178_29, e178_30, e178_33, e178_34, e178_37, e178_40, e178_41, rk_n, rk_v, nl_n, nl_i, nl_r, cat_n, ip_cat_int, ip_cat_ref, ip_cat_long, ip_rf_some, Nat.reduceAdd, Nat.reduceLeDiff, Nat.reduceLT, Nat.le_refl, Nat.zero_le, hR, g, g1, b0, e1, e3, e4, e5, a1, Bool.false_eq_true, Bool.true_eq_false, if_true, if_false, not_true_eq_false, not_false_eq_true, zle, eq_self]
theorem c178 (hR : LYR R) (H : PF f N) (hN : N ≤ 40) (hp : ∀ k, 0 < k → k < N → I (65 + 5 * k) 1 = Int32.ofNat (f k) ∧ f k < k) (hk : k < N) (hs : s ≤ dpN f 41 k) : cf d 178 [.ref 2, .int (Int32.ofNat k), .int (Int32.ofNat s)] (SH n, I, L, R, nc, ns, nx) = some (.inl (some (.int (Int32.ofNat (upN f s k)))), (SH n, I, L, R, nc, ns, nx)) := by
  have := dN_le H hN k hk
  simp only [en178, e178_0, e178_1, e178_2, e178_3, e178_7, e178_8, e178_11, e178_12, e178_15, e178_16, e178_17, e178_20, e178_21, e178_24, e178_25, e178_28, e178_29, e178_30, e178_33, e178_34, e178_37, e178_40, e178_41, rk_n, rk_v, nl_n, nl_i, nl_r, cat_n, ip_cat_int, ip_cat_ref, ip_cat_long, ip_rf_some, Nat.reduceAdd, Nat.reduceLeDiff, Nat.reduceLT, Nat.le_refl, Nat.zero_le]
  exact l178 hR H hN hp (by omega) s k 0 hk hs (by omega)
theorem l279 (hR : LYR R) (H : PF f N) (hN : N ≤ 40) (hp : ∀ k, 0 < k → k < N → I 290 k = Int32.ofNat (f k) ∧ f k < k) (ht : tt < 2147483648) : ∀ s k i, k < N → s ≤ dpN f 41 k → i + s = tt → rf d 279 50 [some (.ref 265), some (.int x), some (.int y), some (.int (Int32.ofNat tt)), some (.int (Int32.ofNat k)), some (.int (Int32.ofNat i))] [] (SH n, I, L, R, nc, ns, nx) = some (.inl (some (.int (Int32.ofNat (upN f s k)))), (SH n, I, L, R, nc, ns, nx)) := by
  intro s
  induction s with
  | zero =>
    intro k i h1 h2 h3
    have g : ((Int32.ofNat tt : Int32) ≤ Int32.ofNat i) = (tt ≤ i) := nu_lit (by omega) (by omega)
    have g1 : tt ≤ i := by omega
    rw [e279_50]
    simp only [e279_0, e279_1, e279_2, e279_3, e279_6, e279_9, e279_10, e279_13, e279_14, e279_17, e279_18, e279_21, e279_24, e279_25, e279_26, e279_27, e279_28, e279_31, e279_32, e279_33, e279_34, e279_35, e279_38, e279_39, e279_42, e279_43, e279_44, e279_45, e279_47, e279_48, e279_52, e279_53, e279_56, e279_57, e279_60, e279_62, e279_63, e279_65, e279_68, e279_71, e279_73, rk_n, rk_v, nl_n, nl_i, nl_r, cat_n, ip_cat_int, ip_cat_ref, ip_cat_long, ip_rf_some, Nat.reduceAdd, Nat.reduceLeDiff, Nat.reduceLT, Nat.le_refl, Nat.zero_le, g, g1, upN, Bool.false_eq_true, Bool.true_eq_false, if_true, if_false, not_true_eq_false, not_false_eq_true, zle, eq_self]
  | succ s ih =>
    intro k i h1 h2 h3
    have g : ((Int32.ofNat tt : Int32) ≤ Int32.ofNat i) = (tt ≤ i) := nu_lit (by omega) (by omega)
    have g1 : ¬ tt ≤ i := by omega
    have k0 : 0 < k := by
      refine Nat.pos_of_ne_zero (fun e => ?_)
      rw [e, dN_0] at h2; omega
    have ds := dN_s H hN k0 h1
    obtain ⟨e1, e2⟩ := hp k k0 h1
    have lk : k < 2147483648 := by omega
    have k40 : k < 40 := by omega
    have a1 : Int32.ofNat i + 1 = Int32.ofNat (i + 1) := nu_add (s := 1)
    rw [e279_50, upN, ← ih (f k) (i + 1) (by omega) (by omega) (by omega)]
    simp only [e279_0, e279_1, e279_2, e279_3, e279_6, e279_9, e279_10, e279_13, e279_14, e279_17, e279_18, e279_21, e279_24, e279_25, e279_26, e279_27, e279_28, e279_31, e279_32, e279_33, e279_34, e279_35, e279_38, e279_39, e279_42, e279_43, e279_44, e279_45, e279_47, e279_48, e279_52, e279_53, e279_56, e279_57, e279_60, e279_62, e279_63, e279_65, e279_68, e279_71, e279_73, rk_n, rk_v, nl_n, nl_i, nl_r, cat_n, ip_cat_int, ip_cat_ref, ip_cat_long, ip_rf_some, Nat.reduceAdd, Nat.reduceLeDiff, Nat.reduceLT, Nat.le_refl, Nat.zero_le, hR, ia_lit, nu_i, nu_tn, lk, k40, g, g1, e1, a1, Bool.false_eq_true, Bool.true_eq_false, if_true, if_false, not_true_eq_false, not_false_eq_true, zle, eq_self]
theorem sub_neg {D i : Nat} (hi : i < 2147483648) (h : D < i) : Int32.ofNat D - Int32.ofNat i < 0 := by
  refine Classical.byContradiction (fun g => ?_)
  obtain ⟨t, h1, h2⟩ := nu_of g
  have e : Int32.ofNat D = Int32.ofNat (t + i) := by
    rw [← nu_add, ← h2, Int32.sub_add_cancel]
  have e' := congrArg (fun z => z.toBitVec.toNat) e
  simp only [Int32.toBitVec_ofNat', BitVec.toNat_ofNat] at e'
  omega
theorem S36 : SAMEX 175 279 [.int x1, .int x2] Int32.toInt64 := by
  intro n I L R nc ns nx T c N w t p X
  have X0 := X
  have hR := X.1
  obtain ⟨H, n2, h0, h0', hp⟩ := REL_pp X
  rcases nodC (x := x1) X with ⟨k, hk, rfl, C1, M1⟩ | ⟨C1, M1⟩
  · have DC := fun d => c177 (d := d) (n := n) (L := L) (nc := nc) (ns := ns) (nx := nx) hR n2 h0' (fun k h1 h2 => (hp k h1 h2).2) hk
    have DM := fun d L' => c280 (d := d) (n := n) (I := ip_up I 265 0 0) (L := L') (nc := nc) (ns := ns) (nx := nx) hR n2 ((up_a (by decide)).trans h0) (fun k h1 h2 => by rw [up_a (by decide)]; exact (hp k h1 h2).1) hk
    simp only [dpI_N, Int32.zero_add] at DC DM
    generalize hf : (fun k => sN (I 290 k)) = f at *
    have hp' : ∀ k, 0 < k → k < N → (I 290 k = Int32.ofNat (f k) ∧ f k < k) ∧ (I (65 + 5 * k) 1 = Int32.ofNat (f k) ∧ f k < k) := by rw [← hf]; exact hp
    have dl := dN_le H n2 k hk
    by_cases g0 : x2 < 0
    · refine same_ok (I1 := I) (I2 := ip_up I 265 0 0) (u := -1) (R1 := R) (nx1 := nx) X0 _ rfl (fun d => w175 ?_) onlyP_refl (fun _ _ _ => rfl) (fun d => ?_) scM_0 up_eq
      · simp only [en176, e176_0, e176_1, e176_2, e176_5, e176_6, e176_7, e176_10, e176_11, e176_12, e176_13, e176_14, e176_17, e176_18, e176_21, e176_22, e176_23, e176_24, e176_25, e176_26, e176_29, rk_n, rk_v, nl_n, nl_i, nl_r, cat_n, ip_cat_int, ip_cat_ref, ip_cat_long, ip_rf_some, Nat.reduceAdd, Nat.reduceLeDiff, Nat.reduceLT, Nat.le_refl, Nat.zero_le, C1, DC, g0, Bool.false_eq_true, Bool.true_eq_false, if_true, if_false, not_true_eq_false, not_false_eq_true, zle, eq_self]
      · simp only [en279, e279_0, e279_1, e279_2, e279_3, e279_6, e279_9, e279_10, e279_13, e279_14, e279_17, e279_18, e279_21, e279_24, e279_25, e279_26, e279_27, e279_28, e279_31, e279_32, e279_33, e279_34, e279_35, e279_38, e279_39, e279_42, e279_43, e279_44, e279_45, e279_47, e279_48, e279_52, e279_53, e279_56, e279_57, e279_60, e279_62, e279_63, e279_65, e279_68, e279_71, e279_73, rk_n, rk_v, nl_n, nl_i, nl_r, cat_n, ip_cat_int, ip_cat_ref, ip_cat_long, ip_rf_some, Nat.reduceAdd, Nat.reduceLeDiff, Nat.reduceLT, Nat.le_refl, Nat.zero_le, M1 _ _ _ _ _ _ _ _ rfl, DM, g0, up_eq, true_or, or_true, Bool.false_eq_true, Bool.true_eq_false, if_true, if_false, not_true_eq_false, not_false_eq_true, zle, eq_self]
    · obtain ⟨i, hi, rfl⟩ := nu_of g0
      by_cases g1 : i ≤ dpN f 41 k
      · have sb : Int32.ofNat (dpN f 41 k) - Int32.ofNat i = Int32.ofNat (dpN f 41 k - i) := (Int32.ofNat_sub _ _ g1).symm
        have nn : (0 : Int32) ≤ Int32.ofNat (dpN f 41 k - i) := Int32.not_lt.mp (nu_nn (by omega))
        refine same_ok (I1 := I) (I2 := ip_up I 265 0 0) (u := Int32.ofNat (upN f (dpN f 41 k - i) k)) (R1 := R) (nx1 := nx) X0 _ rfl (fun d => w175 ?_) onlyP_refl (fun _ _ _ => rfl) (fun d => ?_) scM_0 up_eq
        · have G := fun d => c178 (d := d) (n := n) (L := L) (nc := nc) (ns := ns) (nx := nx) (s := dpN f 41 k - i) hR H n2 (fun k h1 h2 => (hp' k h1 h2).2) hk (by omega)
          simp only [en176, e176_0, e176_1, e176_2, e176_5, e176_6, e176_7, e176_10, e176_11, e176_12, e176_13, e176_14, e176_17, e176_18, e176_21, e176_22, e176_23, e176_24, e176_25, e176_26, e176_29, rk_n, rk_v, nl_n, nl_i, nl_r, cat_n, ip_cat_int, ip_cat_ref, ip_cat_long, ip_rf_some, Nat.reduceAdd, Nat.reduceLeDiff, Nat.reduceLT, Nat.le_refl, Nat.zero_le, C1, DC, g0, sb, nn, G, Bool.false_eq_true, Bool.true_eq_false, if_true, if_false, not_true_eq_false, not_false_eq_true, zle, eq_self]
        · simp only [en279, e279_0, e279_1, e279_2, e279_3, e279_6, e279_9, e279_10, e279_13, e279_14, e279_17, e279_18, e279_21, e279_24, e279_25, e279_26, e279_27, e279_28, e279_31, e279_32, e279_33, e279_34, e279_35, e279_38, e279_39, e279_42, e279_43, e279_44, e279_45, e279_47, e279_48, e279_52, e279_53, e279_56, e279_57, e279_60, e279_62, e279_63, e279_65, e279_68, e279_71, e279_73, rk_n, rk_v, nl_n, nl_i, nl_r, cat_n, ip_cat_int, ip_cat_ref, ip_cat_long, ip_rf_some, Nat.reduceAdd, Nat.reduceLeDiff, Nat.reduceLT, Nat.le_refl, Nat.zero_le, M1 _ _ _ _ _ _ _ _ rfl, DM, g0, sb, nn, up_eq, true_or, or_true, Bool.false_eq_true, Bool.true_eq_false, if_true, if_false, not_true_eq_false, not_false_eq_true, zle, eq_self]
          exact l279 hR H n2 (fun k h1 h2 => by rw [up_a (by decide)]; exact (hp' k h1 h2).1) (by omega) (dpN f 41 k - i) k 0 hk (by omega) (by omega)
      · have sb := sub_neg hi (D := dpN f 41 k) (by omega)
        have sb' := Int32.not_le.mpr sb
        refine same_ok (I1 := I) (I2 := ip_up I 265 0 0) (u := -1) (R1 := R) (nx1 := nx) X0 _ rfl (fun d => w175 ?_) onlyP_refl (fun _ _ _ => rfl) (fun d => ?_) scM_0 up_eq
        · simp only [en176, e176_0, e176_1, e176_2, e176_5, e176_6, e176_7, e176_10, e176_11, e176_12, e176_13, e176_14, e176_17, e176_18, e176_21, e176_22, e176_23, e176_24, e176_25, e176_26, e176_29, rk_n, rk_v, nl_n, nl_i, nl_r, cat_n, ip_cat_int, ip_cat_ref, ip_cat_long, ip_rf_some, Nat.reduceAdd, Nat.reduceLeDiff, Nat.reduceLT, Nat.le_refl, Nat.zero_le, C1, DC, g0, sb', Bool.false_eq_true, Bool.true_eq_false, if_true, if_false, not_true_eq_false, not_false_eq_true, zle, eq_self]
        · simp only [en279, e279_0, e279_1, e279_2, e279_3, e279_6, e279_9, e279_10, e279_13, e279_14, e279_17, e279_18, e279_21, e279_24, e279_25, e279_26, e279_27, e279_28, e279_31, e279_32, e279_33, e279_34, e279_35, e279_38, e279_39, e279_42, e279_43, e279_44, e279_45, e279_47, e279_48, e279_52, e279_53, e279_56, e279_57, e279_60, e279_62, e279_63, e279_65, e279_68, e279_71, e279_73, rk_n, rk_v, nl_n, nl_i, nl_r, cat_n, ip_cat_int, ip_cat_ref, ip_cat_long, ip_rf_some, Nat.reduceAdd, Nat.reduceLeDiff, Nat.reduceLT, Nat.le_refl, Nat.zero_le, M1 _ _ _ _ _ _ _ _ rfl, DM, g0, sb', up_eq, true_or, or_true, Bool.false_eq_true, Bool.true_eq_false, if_true, if_false, not_true_eq_false, not_false_eq_true, zle, eq_self]
  · refine same_x (I1 := I) (I2 := ip_up I 265 0 1) (u := 0) (R1 := R) (code := 1) X0 (by decide) (fun d => ?_) onlyP_refl (fun _ _ _ => rfl) (fun d => ?_) scM_0 up_eq
    · refine w175x1 (d := d + 13) ?_
      simp only [en176, e176_0, e176_1, e176_2, e176_5, e176_6, e176_7, e176_10, e176_11, e176_12, e176_13, e176_14, e176_17, e176_18, e176_21, e176_22, e176_23, e176_24, e176_25, e176_26, e176_29, rk_n, rk_v, nl_n, nl_i, nl_r, cat_n, ip_cat_int, ip_cat_ref, ip_cat_long, ip_rf_some, Nat.reduceAdd, Nat.reduceLeDiff, Nat.reduceLT, Nat.le_refl, Nat.zero_le, C1, rk_x hh176, Bool.false_eq_true, Bool.true_eq_false, if_true, if_false, not_true_eq_false, not_false_eq_true, zle, eq_self]
      rfl
    · simp only [en279, e279_0, e279_1, e279_2, e279_3, e279_6, e279_9, e279_10, e279_13, e279_14, e279_17, e279_18, e279_21, e279_24, e279_25, e279_26, e279_27, e279_28, e279_31, e279_32, e279_33, e279_34, e279_35, e279_38, e279_39, e279_42, e279_43, e279_44, e279_45, e279_47, e279_48, e279_52, e279_53, e279_56, e279_57, e279_60, e279_62, e279_63, e279_65, e279_68, e279_71, e279_73, rk_n, rk_v, nl_n, nl_i, nl_r, cat_n, ip_cat_int, ip_cat_ref, ip_cat_long, ip_rf_some, Nat.reduceAdd, Nat.reduceLeDiff, Nat.reduceLT, Nat.le_refl, Nat.zero_le, M1 _ _ _ _ _ _ _ _ rfl, up_eq, true_or, Bool.false_eq_true, Bool.true_eq_false, if_true, if_false, not_true_eq_false, not_false_eq_true, zle, eq_self]
end S36
