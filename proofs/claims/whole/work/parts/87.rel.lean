/-! THE RELATION between class and model -/
def sN (x : Int32) : Nat := x.toNatClampNeg
theorem inb_sN {x : Int32} {K : Nat} (h : inb x K) : x = Int32.ofNat (sN x) ∧ sN x < K := by
  obtain ⟨t, h1, h2⟩ := inb_nu h
  by_cases hb : t < 2147483648
  · have e : sN x = t := by unfold sN; rw [h2, nu_tn hb]
    rw [e]; exact ⟨h2, h1⟩
  · unfold inb at h
    have h3 : ¬ x < 0 := fun e => h (Or.inl e)
    obtain ⟨t', h4, h5⟩ := nu_of h3
    have e : sN x = t' := by unfold sN; rw [h5, nu_tn h4]
    rw [e]
    refine ⟨h5, ?_⟩
    have := h
    rw [h5, nu_tn h4] at this
    exact Nat.lt_of_not_le (fun z => this (Or.inr z))
theorem sN_of {t : Nat} (h : t < 2147483648) : sN (Int32.ofNat t) = t := nu_tn h
def pck (ls : List Nat) : Nat := ls.foldl (fun v x => 32 * v + x) 0
def NAM (T c : Nat) (I : Nat → Nat → Int32) (L : Nat → Nat → Int64) : Prop := ∀ k, k < c → ∃ ls : List Nat, ls.length ≤ 6 ∧ 0 < ls.length ∧ (∀ x, x ∈ ls → 1 ≤ x ∧ x ≤ 26) ∧ (∀ i, i < 6 → I (T + 1) (6 * k + i) = Int32.ofNat (if i < ls.length then 96 + ls.getD i 0 else 0)) ∧ L 274 k = Int64.ofNat (pck ls)
def stdI (I : Nat → Nat → Int32) (k : Nat) : Nat := sN (I 275 k)
def rstI (I : Nat → Nat → Int32) (k : Nat) : Nat := sN (I 276 k)
def RTx (T c : Nat) (I : Nat → Nat → Int32) (L : Nat → Nat → Int64) (R : Nat → Nat → Option Nat) : Prop :=
  (T = 9 ∨ T = 16) ∧ R 2 4 = some T ∧ R 4 2 = some (25 - T) ∧ c ≤ 8 ∧ I T 6 = Int32.ofNat c ∧ I 265 17 = Int32.ofNat c ∧ I T 7 = I 265 18 ∧
  (∀ k, k < c → I (T + 2) k = I 275 k ∧ inb (I 275 k) 3) ∧ (∀ k, k < c → I (T + 3) k = I 276 k ∧ inb (I 276 k) 256) ∧
  (∀ k, k < c → I (T + 4) k = Int32.ofNat (restOn (rstI I) (2 ^ k) c)) ∧ (∀ k, k < 6 → I (T + 5) k = I 277 k) ∧ (∀ s, s < 256 → I 287 s = wb (winL L T) s) ∧ NAM T c I L
/-- node k in both -/
def ND (c k : Nat) (I : Nat → Nat → Int32) : Prop :=
  (I (65 + 5 * k) 0 = I 289 k ∧ (I 289 k = 0 ∨ I 289 k = 1 ∨ I 289 k = 2)) ∧
  (I (65 + 5 * k) 1 = I 290 k ∧ (k = 0 → I 290 k = -1 ∧ I (65 + 5 * k) 11 = 1 ∧ I 289 k = 0) ∧ (0 < k → ∃ q, q < k ∧ I 290 k = Int32.ofNat q ∧ I (65 + 5 * k) 11 = I (65 + 5 * q) 11 + (if I 289 k = 0 then 1 else 0))) ∧
  (I (65 + 5 * k) 2 = I 291 k ∧ (I 289 k = 0 → I 291 k = -1) ∧ (¬ I 289 k = 0 → I 291 k = 0 ∨ I 291 k = 1 ∨ I 291 k = 2 ∨ I 291 k = 3)) ∧
  (I (65 + 5 * k) 3 = I 292 k ∧ inb (I 292 k) (2 ^ c) ∧ (¬ I 289 k = 0 → I 292 k = I 293 k)) ∧
  (I (65 + 5 * k) 4 = I 296 k ∧ inb (I 296 k) (2 ^ c)) ∧ (I (65 + 5 * k) 6 = I 293 k ∧ inb (I 293 k) (2 ^ c)) ∧ sN (I 296 k) &&& sN (I 293 k) = 0 ∧
  I (65 + 5 * k) 5 = Int32.ofNat ((2 ^ c - 1) &&& (255 ^^^ sN (I 293 k)) &&& (255 ^^^ sN (I 296 k))) ∧
  (I (65 + 5 * k) 7 = I 294 k ∧ inb (I 294 k) (2 ^ c)) ∧ (I (65 + 5 * k) 8 = I 295 k ∧ inb (I 295 k) (2 ^ c)) ∧ (I (65 + 5 * k) 10 = I 298 k ∧ inb (I 298 k) (2 ^ c)) ∧
  I (65 + 5 * k) 9 = I 297 k ∧ I 299 k = (if I 289 k = 0 then Int32.ofNat (sN (I 292 k) &&& (255 ^^^ sN (I 293 k))) else 0) ∧
  (∀ s, s < 2 → (I (65 + 5 * k + 1) s = I 300 (2 * k + s) ∧ inb (I 300 (2 * k + s)) (2 ^ c)) ∧ (I (65 + 5 * k + 2) s = I 301 (2 * k + s) ∧ inb (I 301 (2 * k + s)) (2 ^ c))) ∧
  (∀ i, i < c → ((sN (I 293 k)).testBit i = true → I 302 (8 * k + i) = -1 ∧ I 303 (8 * k + i) = -1 ∧ I 304 (8 * k + i) = -1) ∧ ((sN (I 293 k)).testBit i = false → I (65 + 5 * k + 3) i = I 302 (8 * k + i) ∧ ∃ q, q ≤ k ∧ I (65 + 5 * k + 4) i = Int32.ofNat q ∧ I 304 (8 * k + i) = Int32.ofNat q ∧ I 303 (8 * k + i) = I 289 q))
def RNs (c N w : Nat) (I : Nat → Nat → Int32) : Prop := (1 ≤ N ∧ N ≤ 40 ∧ w < N) ∧ (I 2 6 = Int32.ofNat N ∧ I 265 37 = Int32.ofNat N) ∧ (I 2 7 = Int32.ofNat w ∧ I 265 38 = Int32.ofNat w) ∧ ∀ k, k < N → ND c k I
def RTa (t : Nat) (I : Nat → Nat → Int32) : Prop := t ≤ 400 ∧ I 2 1 = Int32.ofNat t ∧ I 265 2 = Int32.ofNat t ∧ ∀ k, k < t → I 3 k = I 266 k ∧ ¬ I 266 k = -1
def RPa (p : Nat) (I : Nat → Nat → Int32) : Prop := p ≤ 256 ∧ I 63 1 = Int32.ofNat p ∧ I 265 70 = Int32.ofNat p ∧ ∀ k, k < p → I 64 k = I 306 k
def REL (T c N w t p : Nat) (I : Nat → Nat → Int32) (L : Nat → Nat → Int64) (R : Nat → Nat → Option Nat) : Prop := LYR R ∧ RTx T c I L R ∧ RNs c N w I ∧ RTa t I ∧ RPa p I ∧ I 2 2 = I 265 5 ∧ (∀ k, k < 6 → L 1 k = ip_nm k)
/-! what queries may write -/
def scC (a k : Nat) : Prop := 24 ≤ a ∧ a ≤ 62
def scM (a k : Nat) : Prop := a = 305 ∨ (a = 265 ∧ scr k)
def scE (a k : Nat) : Prop := scC a k ∨ scM a k
section RE
variable {n d a b T c s t z o w m p lev k side ap b0 b1 N q : Nat} {I J K : Nat → Nat → Int32} {L L' : Nat → Nat → Int64} {R R' : Nat → Nat → Option Nat} {nc ns : Nat} {nx : Bool} {x y j v : Int32}
theorem ND_on (hk : k < 40) (H : onlyP scE I J) (X : ND c k I) : ND c k J := by
  have A : ∀ i j, i < 40 → J (65 + 5 * i) j = I (65 + 5 * i) j := fun i j hi => H _ _ (by unfold scE scC scM scr; omega)
  have B : ∀ e j, 1 ≤ e → e ≤ 4 → J (65 + 5 * k + e) j = I (65 + 5 * k + e) j := fun e j h1 h2 => H _ _ (by unfold scE scC scM scr; omega)
  have C : ∀ e j, 289 ≤ e → e ≤ 304 → J e j = I e j := fun e j h1 h2 => H _ _ (by unfold scE scC scM scr; omega)
  have C9 : ∀ j, J 289 j = I 289 j := fun j => C 289 j (by omega) (by omega)
  have B1 : ∀ j, J (65 + 5 * k + 1) j = I (65 + 5 * k + 1) j := fun j => B 1 j (by omega) (by omega)
  have B2 : ∀ j, J (65 + 5 * k + 2) j = I (65 + 5 * k + 2) j := fun j => B 2 j (by omega) (by omega)
  have B3 : ∀ j, J (65 + 5 * k + 3) j = I (65 + 5 * k + 3) j := fun j => B 3 j (by omega) (by omega)
  have B4 : ∀ j, J (65 + 5 * k + 4) j = I (65 + 5 * k + 4) j := fun j => B 4 j (by omega) (by omega)
  have Ak : ∀ j, J (65 + 5 * k) j = I (65 + 5 * k) j := fun j => A k j hk
  unfold ND at X ⊢
  rw [C9, Ak, Ak, Ak, Ak, Ak, Ak, Ak, Ak, Ak, Ak, Ak, Ak, C 290 _ (by omega) (by omega), C 291 _ (by omega) (by omega), C 292 _ (by omega) (by omega), C 293 _ (by omega) (by omega), C 294 _ (by omega) (by omega), C 295 _ (by omega) (by omega), C 296 _ (by omega) (by omega), C 297 _ (by omega) (by omega), C 298 _ (by omega) (by omega), C 299 _ (by omega) (by omega)]
  obtain ⟨x1, ⟨x2, x3, x4⟩, x5, x6, x7, x8, x9, x10, x11, x12, x13, x14, x15, x16, x17⟩ := X
  refine ⟨x1, ⟨x2, x3, ?_⟩, x5, x6, x7, x8, x9, x10, x11, x12, x13, x14, x15, ?_, ?_⟩
  · intro h0
    obtain ⟨q, h1, h2, h3⟩ := x4 h0
    exact ⟨q, h1, h2, by rw [A q 11 (by omega)]; exact h3⟩
  · intro s hs
    rw [B1, B2, C 300 _ (by omega) (by omega), C 301 _ (by omega) (by omega)]
    exact x16 s hs
  · intro i hi
    rw [C 302 _ (by omega) (by omega), C 303 _ (by omega) (by omega), C 304 _ (by omega) (by omega), B3, B4]
    refine ⟨(x17 i hi).1, fun h => ?_⟩
    obtain ⟨h1, q, h2, h3, h4, h5⟩ := (x17 i hi).2 h
    exact ⟨h1, q, h2, h3, h4, by rw [C9]; exact h5⟩
theorem REL_q (X : REL T c N w t p I L R) (H : onlyP scE I J) (HL : ∀ a k, ¬ a = 307 → L' a k = L a k) (HR : ∀ a k, ¬ (isC a ∧ k < 3) → R' a k = R a k) : REL T c N w t p J L' R' := by
  obtain ⟨x1, x2, x3, x4, x5, x6, x7⟩ := X
  have G : ∀ a k, a < 24 → J a k = I a k := fun a k h => H _ _ (by unfold scE scC scM scr; omega)
  have G2 : ∀ a k, 63 ≤ a → ¬ a = 265 → ¬ a = 305 → J a k = I a k := fun a k h1 h2 h3 => H _ _ (by unfold scE scC scM scr; omega)
  have G3 : ∀ k, ¬ scr k → J 265 k = I 265 k := fun k h => H _ _ (fun e => by
    rcases e with e | e | e
    · unfold scC at e; omega
    · omega
    · exact h e.2)
  refine ⟨LYR_on (fun a k h => HR a k (fun e => h (Or.inl e))) x1, ?_, ?_, ?_, ?_, ?_, ?_⟩
  · obtain ⟨y1, y2, y3, y4, y5, y6, y7, y8, y9, y10, y11, y12, y13⟩ := x2
    have hT : T < 17 := by omega
    have rs : rstI J = rstI I := by funext k; unfold rstI; rw [G2 276 k (by omega) (by omega) (by omega)]
    have wl : ∀ s, winL L' T s = winL L T s := by intro s; unfold winL; rw [HL (T + 6) _ (by omega)]
    refine ⟨y1, by rw [HR 2 4 (by unfold isC; omega)]; exact y2, by rw [HR 4 2 (by unfold isC; omega)]; exact y3, y4, by rw [G T 6 (by omega)]; exact y5, by rw [G3 17 (by unfold scr; omega)]; exact y6, by rw [G T 7 (by omega), G3 18 (by unfold scr; omega)]; exact y7, ?_, ?_, ?_, ?_, ?_, ?_⟩
    · intro k hk; rw [G (T + 2) k (by omega), G2 275 k (by omega) (by omega) (by omega)]; exact y8 k hk
    · intro k hk; rw [G (T + 3) k (by omega), G2 276 k (by omega) (by omega) (by omega)]; exact y9 k hk
    · intro k hk; rw [G (T + 4) k (by omega), rs]; exact y10 k hk
    · intro k hk; rw [G (T + 5) k (by omega), G2 277 k (by omega) (by omega) (by omega)]; exact y11 k hk
    · intro k hk; rw [G2 287 k (by omega) (by omega) (by omega)]; unfold wb; rw [wl]; exact y12 k hk
    · intro k hk
      obtain ⟨ls, z1, z2, z3, z4, z5⟩ := y13 k hk
      exact ⟨ls, z1, z2, z3, fun i hi => by rw [G (T + 1) _ (by omega)]; exact z4 i hi, by rw [HL 274 k (by omega)]; exact z5⟩
  · obtain ⟨y1, y2, y3, y4⟩ := x3
    refine ⟨y1, by rw [G 2 6 (by omega), G3 37 (by unfold scr; omega)]; exact y2, by rw [G 2 7 (by omega), G3 38 (by unfold scr; omega)]; exact y3, fun k hk => ND_on (by omega) H (y4 k hk)⟩
  · obtain ⟨y1, y2, y3, y4⟩ := x4
    exact ⟨y1, by rw [G 2 1 (by omega)]; exact y2, by rw [G3 2 (by unfold scr; omega)]; exact y3, fun k hk => by rw [G 3 k (by omega), G2 266 k (by omega) (by omega) (by omega)]; exact y4 k hk⟩
  · obtain ⟨y1, y2, y3, y4⟩ := x5
    exact ⟨y1, by rw [G2 63 1 (by omega) (by omega) (by omega)]; exact y2, by rw [G3 70 (by unfold scr; omega)]; exact y3, fun k hk => by rw [G2 64 k (by omega) (by omega) (by omega), G2 306 k (by omega) (by omega) (by omega)]; exact y4 k hk⟩
  · rw [G 2 2 (by omega), G3 5 (by unfold scr; omega)]; exact x6
  · intro k hk; rw [HL 1 k (by omega)]; exact x7 k hk
/-! pictures out of the relation -/
theorem REL_C (X : REL T c N w t p I L R) : CTx T c (stdI I) (rstI I) (I 277) (winL L T) I L := by
  obtain ⟨y1, y2, y3, y4, y5, y6, y7, y8, y9, y10, y11, y12, y13⟩ := X.2.1
  refine ⟨by unfold isT; omega, y4, y5, ?_, ?_, y10, y11, fun _ _ => rfl⟩
  · intro k hk
    obtain ⟨e1, e2⟩ := y8 k hk
    obtain ⟨e3, e4⟩ := inb_sN e2
    exact ⟨e1.trans e3, e4⟩
  · intro k hk
    obtain ⟨e1, e2⟩ := y9 k hk
    obtain ⟨e3, e4⟩ := inb_sN e2
    exact ⟨e1.trans e3, e4⟩
theorem REL_M (X : REL T c N w t p I L R) : MTx c (stdI I) (rstI I) (I 277) (winL L T) I := by
  obtain ⟨y1, y2, y3, y4, y5, y6, y7, y8, y9, y10, y11, y12, y13⟩ := X.2.1
  exact ⟨y4, y6, fun k hk => inb_sN (y8 k hk).2, fun k hk => inb_sN (y9 k hk).2, fun _ _ => rfl, y12⟩
/-- node k, with what is settled in node q -/
def VI (I : Nat → Nat → Int32) (k q : Nat) : Nat → Nat := fun j => if j = 4 then sN (I 296 k) else if j = 5 then sN (I (65 + 5 * k) 5) else if j = 6 then sN (I 293 k) else if j = 7 then sN (I 294 k) else if j = 8 then sN (I 295 k) else if j = 10 then sN (I 298 k) else if j = 12 then sN (I 300 (2 * k)) else if j = 13 then sN (I 300 (2 * k + 1)) else if j = 14 then sN (I 301 (2 * k)) else if j = 15 then sN (I 301 (2 * k + 1)) else if j = 16 then sN (I 294 q) else 0
def flI (I : Nat → Nat → Int32) (k i : Nat) : Int32 := I 302 (8 * k + i)
theorem onN_lt {c a b : Nat} (h : c ≤ 8) : (2 ^ c - 1) &&& a &&& b < 2 ^ c := by
  have := Nat.two_pow_pos c
  exact Nat.lt_of_le_of_lt (Nat.le_trans Nat.and_le_left Nat.and_le_left) (by omega)
theorem VI_lt (hc8 : c ≤ 8) (X : ND c k I) (Y : ND c q I) : ∀ j, VI I k q j < 2 ^ c := by
  obtain ⟨x1, x2, x3, x4, x5, x6, x7, x8, x9, x10, x11, x12, x13, x14, x15⟩ := X
  have P := Nat.two_pow_pos c
  have P8 := p2le hc8
  have e5 : sN (I (65 + 5 * k) 5) < 2 ^ c := by
    rw [x8, sN_of (Nat.lt_of_lt_of_le (onN_lt hc8) (by omega))]
    exact onN_lt hc8
  have b0 := x14 0 (by omega)
  have b1 := x14 1 (by omega)
  intro j
  unfold VI
  repeat' split
  all_goals first | exact (inb_sN x5.2).2 | exact e5 | exact (inb_sN x6.2).2 | exact (inb_sN x9.2).2 | exact (inb_sN x10.2).2 | exact (inb_sN x11.2).2 | exact (inb_sN b0.1.2).2 | exact (inb_sN b1.1.2).2 | exact (inb_sN b0.2.2).2 | exact (inb_sN b1.2.2).2 | exact (inb_sN Y.2.2.2.2.2.2.2.2.1.2).2 | exact P
theorem VI_5 (hc8 : c ≤ 8) (X : ND c k I) {i : Nat} (hi : i < c) : (VI I k q 5).testBit i = (!(VI I k q 6).testBit i && !(VI I k q 4).testBit i) := by
  obtain ⟨x1, x2, x3, x4, x5, x6, x7, x8, -⟩ := X
  have P8 := p2le hc8
  show (sN (I (65 + 5 * k) 5)).testBit i = _
  rw [x8, sN_of (Nat.lt_of_lt_of_le (onN_lt hc8) (by omega)), Nat.testBit_and, Nat.testBit_and, tbn, tbn, Nat.testBit_two_pow_sub_one, decide_eq_true hi, decide_eq_true (show i < 8 by omega)]
  simp
  rfl
theorem VI_4 (X : ND c k I) {i : Nat} (h : (VI I k q 4).testBit i = true) : (VI I k q 6).testBit i = false := by
  have x7 := X.2.2.2.2.2.2.1
  cases e : (VI I k q 6).testBit i with
  | false => rfl
  | true =>
    have := congrArg (fun v => v.testBit i) x7
    simp only [Nat.testBit_and, Nat.zero_testBit] at this
    have h' : (sN (I 296 k)).testBit i = true := h
    have e' : (sN (I 293 k)).testBit i = true := e
    rw [h', e'] at this
    cases this
theorem ND_M (hc8 : c ≤ 8) (hk : k < 40) (hq : q < 40) (X : ND c k I) (Y : ND c q I) (e38 : I 265 38 = Int32.ofNat k) (hp : lev = 2 → I 290 k = Int32.ofNat q) : MNd k q lev (VI I k q) (flI I k) I := by
  have v := VI_lt hc8 X Y
  have P8 := p2le hc8
  obtain ⟨x1, x2, x3, x4, x5, x6, x7, x8, x9, x10, x11, x12, x13, x14, x15⟩ := X
  refine ⟨hk, e38, fun j => Nat.lt_of_lt_of_le (v j) P8, (inb_sN x6.2).1, (inb_sN x5.2).1, (inb_sN x9.2).1, (inb_sN x10.2).1, (inb_sN x11.2).1, ?_, fun i hi => rfl, fun e => ⟨hq, hp e, (inb_sN Y.2.2.2.2.2.2.2.2.1.2).1⟩⟩
  intro s hs
  obtain ⟨⟨-, b1⟩, -, b2⟩ := x14 s hs
  rcases lt2 hs with rfl | rfl
  · exact ⟨(inb_sN b1).1, (inb_sN b2).1⟩
  · exact ⟨(inb_sN b1).1, (inb_sN b2).1⟩
theorem ND_C (hc8 : c ≤ 8) (hk : k < 40) (hq : q < 40) {B : Nat} (nB : isN B) (X : ND c k I) (Y : ND c q I) (hp : lev = 2 → B = 65 + 5 * q) : CNd (65 + 5 * k) B c lev (VI I k q) (flI I k) I := by
  have v := VI_lt hc8 X Y
  have P8 := p2le hc8
  have v5 := fun i (hi : i < c) => VI_5 (q := q) hc8 X hi
  have v4 := fun i => VI_4 (q := q) (i := i) X
  obtain ⟨x1, x2, x3, x4, x5, x6, x7, x8, x9, x10, x11, x12, x13, x14, x15⟩ := X
  refine ⟨isN_nd hk, nB, fun j => Nat.lt_of_lt_of_le (v j) P8, x5.1.trans (inb_sN x5.2).1, ?_, x6.1.trans (inb_sN x6.2).1, x9.1.trans (inb_sN x9.2).1, x10.1.trans (inb_sN x10.2).1, x11.1.trans (inb_sN x11.2).1, ?_, ?_, ?_, v5, fun i _ => v4 i⟩
  · show I (65 + 5 * k) 5 = Int32.ofNat (sN (I (65 + 5 * k) 5))
    rw [x8, sN_of (Nat.lt_of_lt_of_le (onN_lt hc8) (by omega))]
  · intro s hs
    obtain ⟨⟨a1, b1⟩, a2, b2⟩ := x14 s hs
    rcases lt2 hs with rfl | rfl
    · exact ⟨a1.trans (inb_sN b1).1, a2.trans (inb_sN b2).1⟩
    · exact ⟨a1.trans (inb_sN b1).1, a2.trans (inb_sN b2).1⟩
  · intro i hi h
    exact ((x15 i hi).2 h).1
  · intro e
    rw [hp e]
    exact Y.2.2.2.2.2.2.2.2.1.1.trans (inb_sN Y.2.2.2.2.2.2.2.2.1.2).1
end RE
