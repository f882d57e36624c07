/-! CHAIN: what is best; the class's findChain -/
def kf (f : Nat) : Nat := pop f * 256 + f
theorem kf_lt {f : Nat} (h : f < 256) : kf f < 4096 := by have := pop_le f h; unfold kf; omega
theorem kf_inj {f g : Nat} (h1 : f < 256) (h2 : g < 256) (e : kf f = kf g) : f = g := by
  have := pop_le f h1
  have := pop_le g h2
  unfold kf at e
  omega
theorem smN_kf {s f : Nat} (h1 : s < 256) (h2 : f < 256) : smN s f = true ↔ kf s < kf f := by
  have := pop_le s h1
  have := pop_le f h2
  unfold smN kf
  rw [decide_eq_true_eq]
  omega
theorem kf_and (s e : Nat) : kf (s &&& e) ≤ kf s := by
  have a1 := pop_and s e
  have a2 : s &&& e ≤ s := Nat.and_le_left
  unfold kf
  exact Nat.add_le_add (Nat.mul_le_mul_right 256 a1) a2
theorem val_kf {r : Nat → Nat} {s : Nat} : val r s = (2 - r s) * 65536 + kf s := by unfold val kf; rw [Nat.add_assoc]
/-- ahead or alike: rank, then the first set, then the second -/
def cle (R b x R' b' x' : Nat) : Prop := R' < R ∨ (R = R' ∧ (b < b' ∨ (b = b' ∧ x ≤ x')))
def hwG (g : Nat) : Int32 := if g = 2 then 2 else if g = 1 then 3 else 0
section CJ
variable {n d a b T c s t z o w m p lev k side ap b0 b1 h0 h1 md C F B pg po u hi f0 gg mm ff oo : Nat} {I J K M : Nat → Nat → Int32} {L : Nat → Nat → Int64} {R : Nat → Nat → Option Nat} {nc ns : Nat} {nx : Bool} {x y j v lv hw0 what ah num hw came beh : Int32} {h : ip_H} {f g std rst V W : Nat → Nat} {win : Nat → Bool} {br fl : Nat → Int32}
theorem og_hw : ogI c std rst br win V fl lev ap s = hwG (rkN (ogI c std rst br win V fl lev ap s)) := by
  unfold ogI outE
  by_cases g1 : aftN c std rst br win V fl lev s = Int32.ofNat (1 - ap)
  · rw [if_pos g1]; rfl
  · rw [if_neg g1, if_neg g1]
    by_cases g2 : aftN c std rst br win V fl lev s = -1
    · rw [if_pos g2]; rfl
    · rw [if_neg g2]; rfl
theorem og_0 : ogI c std rst br win V fl lev ap s = 0 ↔ rkN (ogI c std rst br win V fl lev ap s) = 0 := by
  constructor
  · intro e; rw [e]; rfl
  · intro e; rw [og_hw, e]; rfl
/-- a chain: rank, appeals, sets -/
def CAND (c : Nat) (std rst : Nat → Nat) (br : Nat → Int32) (win : Nat → Bool) (V : Nat → Nat) (fl : Nat → Int32) (lev ap pg g m f o : Nat) : Prop := (f < 2 ^ c ∧ pgM f rst c ≤ pg) ∧ ((m = 1 ∧ g = rkN (ogI c std rst br win V fl lev ap (f &&& errS c std rst br win V fl lev ap)) ∧ 0 < g ∧ o = 0) ∨ (m = 2 ∧ rkN (ogI c std rst br win V fl lev ap (f &&& errS c std rst br win V fl lev ap)) = 0 ∧ (o < 2 ^ c ∧ pgM o rst c ≤ pg) ∧ g = rkN (ogI c std rst br win V fl lev ap (o &&& E2 c std rst br win V fl lev ap f))))
def Rk (g m : Nat) : Nat := 2 * g + 2 - m
def isMinC (c : Nat) (std rst : Nat → Nat) (br : Nat → Int32) (win : Nat → Bool) (V : Nat → Nat) (fl : Nat → Int32) (lev ap pg g m f o : Nat) : Prop := CAND c std rst br win V fl lev ap pg g m f o ∧ ∀ g' m' f' o', CAND c std rst br win V fl lev ap pg g' m' f' o' → cle (Rk g m) (kf f) (kf o) (Rk g' m') (kf f') (kf o')
theorem kf_0 : kf 0 = 0 := by decide
theorem cand_b (hc8 : c ≤ 8) {g m f o : Nat} (h : CAND c std rst br win V fl lev ap pg g m f o) : g ≤ 2 ∧ (m = 1 ∨ m = 2) ∧ f < 256 ∧ o < 256 := by
  have P8 := p2le hc8
  obtain ⟨⟨h1, h2⟩, ⟨h3, h4, h5, h6⟩ | ⟨h3, h4, ⟨h5, h6⟩, h7⟩⟩ := h
  · have := rkN_le (ogI c std rst br win V fl lev ap (f &&& errS c std rst br win V fl lev ap))
    exact ⟨by omega, Or.inl h3, by omega, by omega⟩
  · have := rkN_le (ogI c std rst br win V fl lev ap (o &&& E2 c std rst br win V fl lev ap f))
    exact ⟨by omega, Or.inr h3, by omega, by omega⟩
theorem minC_uniq (hc8 : c ≤ 8) {g m f o g' m' f' o' : Nat} (h1 : isMinC c std rst br win V fl lev ap pg g m f o) (h2 : isMinC c std rst br win V fl lev ap pg g' m' f' o') : g = g' ∧ m = m' ∧ f = f' ∧ o = o' := by
  have a1 := h1.2 _ _ _ _ h2.1
  have a2 := h2.2 _ _ _ _ h1.1
  obtain ⟨b1, b2, b3, b4⟩ := cand_b hc8 h1.1
  obtain ⟨d1, d2, d3, d4⟩ := cand_b hc8 h2.1
  unfold cle Rk at a1 a2
  have e1 : kf f = kf f' := by omega
  have e2 : kf o = kf o' := by omega
  have e3 := kf_inj b3 d3 e1
  have e4 := kf_inj b4 d4 e2
  refine ⟨?_, ?_, e3, e4⟩ <;> omega
/-- E2 hangs on what is heard alone -/
theorem E2_and (a2 : ap < 2) (hl : lev = 1) (hc8 : c ≤ 8) : E2 c std rst br win V fl lev ap (s &&& heardN c std rst br win V fl lev ap) = E2 c std rst br win V fl lev ap s := by
  unfold E2
  apply setN_congr
  intro k hk
  have e : E2b V fl ap (s &&& heardN c std rst br win V fl lev ap) (s &&& heardN c std rst br win V fl lev ap &&& heardN c std rst br win V fl lev ap) k = E2b V fl ap s (s &&& heardN c std rst br win V fl lev ap) k := by
    rw [Nat.and_assoc, Nat.and_self]
    unfold E2b
    rw [Nat.testBit_and]
    cases hb : (heardN c std rst br win V fl lev ap).testBit k with
    | true => rw [Bool.and_true]
    | false =>
      rw [Bool.and_false]
      -- not heard at level 1: not heard at level 2 either, unless its flaw is 8 or more and nothing else bars it
      have hw : ¬ whyI V fl lev k ap = 0 := by
        intro e
        unfold heardN at hb
        rw [setN_bit, decide_eq_true hk, Bool.true_and, decide_eq_false_iff_not] at hb
        exact hb e
      unfold whyI heldN raisN at hw
      subst hl
      simp only [show (1 = 2) = False from eq_false (by decide), if_false] at hw
      cases ha : agN V k ap with
      | false => simp
      | true =>
        rw [ha] at hw
        simp only [Bool.true_eq_false, if_false] at hw
        revert hw
        cases (V 7).testBit k <;> cases (V 8).testBit k <;> cases (V (14 + ap)).testBit k <;> cases s.testBit k <;> by_cases g9 : fl k = 9 <;> by_cases g8 : fl k < 8 <;> simp [g9, g8]
  simp only [e]
theorem err_sub_heard : (s &&& heardN c std rst br win V fl lev side) &&& errS c std rst br win V fl lev side = s &&& errS c std rst br win V fl lev side := by rw [Nat.and_assoc, heard_err]
/-- a chain over what is heard alone is as good -/
theorem cand_and (a2 : ap < 2) (hl : lev = 1) (hc8 : c ≤ 8) {g m f o : Nat} (h : CAND c std rst br win V fl lev ap pg g m f o) : CAND c std rst br win V fl lev ap pg g m (f &&& heardN c std rst br win V fl lev ap) o := by
  obtain ⟨⟨h1, h2⟩, h3⟩ := h
  refine ⟨⟨Nat.lt_of_le_of_lt Nat.and_le_left h1, Nat.le_trans (pgM_and c) h2⟩, ?_⟩
  rw [err_sub_heard, E2_and a2 hl hc8]
  exact h3
theorem cand_0 : CAND c std rst br win V fl lev ap pg 0 2 0 0 ∨ ¬ rkN (ogI c std rst br win V fl lev ap 0) = 0 := by
  by_cases g : rkN (ogI c std rst br win V fl lev ap 0) = 0
  · left
    refine ⟨⟨Nat.two_pow_pos c, by rw [pgM_0]; exact Nat.zero_le _⟩, Or.inr ⟨rfl, by rw [Nat.zero_and]; exact g, ⟨Nat.two_pow_pos c, by rw [pgM_0]; exact Nat.zero_le _⟩, by rw [Nat.zero_and]; exact g.symm⟩⟩
  · exact Or.inr g
/-- with nothing briefed all stays -/
theorem og_none (hc8 : c ≤ 8) (hv : V 4 < 2 ^ c) (hd : ∀ k, k < c → (V 4).testBit k = true → (V 6).testBit k = false) (hS : sureI win (V 4) (V 6) = Int32.ofNat (1 - ap)) : ogI c std rst br win V fl lev ap 0 = 0 := by
  have r0 : restOn rst 0 c = 0 := by
    apply Nat.eq_of_testBit_eq
    intro i
    rw [Nat.zero_testBit]
    cases e : (restOn rst 0 c).testBit i with
    | false => rfl
    | true =>
      obtain ⟨k, h1, -⟩ := (restOn_or rst 0 c i).mp e
      rw [Nat.zero_testBit] at h1
      cases h1
  have an : anwN std c 0 = 0 := by
    apply Nat.eq_of_testBit_eq
    intro i
    unfold anwN
    rw [setN_bit, Nat.zero_testBit]
    simp
  have op : opnN c std rst br win V fl lev 0 = V 6 := by unfold opnN; rw [Nat.zero_and, Nat.or_zero, r0, Nat.or_zero]
  have tr : trnN c std rst br win V fl lev 0 = 0 := by unfold trnN; rw [an, Nat.zero_and]
  have af : aftN c std rst br win V fl lev 0 = Int32.ofNat (1 - ap) := by
    unfold aftN
    have zr : zrnN c std rst br win V fl lev 0 = V 4 := by unfold zrnN; rw [tr, op, Nat.xor_zero, and_dis hc8 hv hd]
    rw [zr, op]
    exact hS
  unfold ogI outE
  rw [if_pos af]
end CJ
