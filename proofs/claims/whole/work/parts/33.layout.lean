/-! THE LAYOUT behind the constructors (printed by wip/whole/gen_layout.py): SH n: kinds and lengths by place (n: the script's length); places of objects by class; LYR: where the final references lead -/
def okD (m pc : Nat) (i : Instr) (len : Nat) : Bool := match decode (ip_code m) pc with
  | .ok (j, l) => decide (j = i) && (l == len)
  | .error _ => false
theorem okD_ok {m pc : Nat} {i : Instr} {len : Nat} (h : okD m pc i len = true) : decode (ip_code m) pc = .ok (i, len) := by
  unfold okD at h
  split at h
  · rename_i j l e
    rw [Bool.and_eq_true] at h
    rw [e, of_decide_eq_true h.1, eq_of_beq h.2]
  · cases h
def SHt : List (Nat × Nat) := [(106, 6), (7, 11), (100, 400), (4, 7), (5, 3), (101, 160), (101, 10), (100, 0), (6, 9), (100, 48), (100, 8), (100, 8), (100, 8), (100, 6), (101, 4), (6, 9), (100, 48), (100, 8), (100, 8), (100, 8), (100, 6), (101, 4), (103, 40), (0, 14), (6, 9), (100, 48), (100, 8), (100, 8), (100, 8), (100, 6), (101, 4), (1, 16), (100, 2), (100, 2), (100, 8), (100, 8), (100, 2), (100, 2), (100, 2), (3, 9), (0, 14), (6, 9), (100, 48), (100, 8), (100, 8), (100, 8), (100, 6), (101, 4), (1, 16), (100, 2), (100, 2), (100, 8), (100, 8), (100, 2), (100, 2), (100, 2), (1, 16), (100, 2), (100, 2), (100, 8), (100, 8), (100, 256), (2, 2), (100, 256), (1, 16), (100, 2), (100, 2), (100, 8), (100, 8), (1, 16), (100, 2), (100, 2), (100, 8), (100, 8), (1, 16), (100, 2), (100, 2), (100, 8), (100, 8), (1, 16), (100, 2), (100, 2), (100, 8), (100, 8), (1, 16), (100, 2), (100, 2), (100, 8), (100, 8), (1, 16), (100, 2), (100, 2), (100, 8), (100, 8), (1, 16), (100, 2), (100, 2), (100, 8), (100, 8), (1, 16), (100, 2), (100, 2), (100, 8), (100, 8), (1, 16), (100, 2), (100, 2), (100, 8), (100, 8), (1, 16), (100, 2), (100, 2), (100, 8), (100, 8), (1, 16), (100, 2), (100, 2), (100, 8), (100, 8), (1, 16), (100, 2), (100, 2), (100, 8), (100, 8), (1, 16), (100, 2), (100, 2), (100, 8), (100, 8), (1, 16), (100, 2), (100, 2), (100, 8), (100, 8), (1, 16), (100, 2), (100, 2), (100, 8), (100, 8), (1, 16), (100, 2), (100, 2), (100, 8), (100, 8), (1, 16), (100, 2), (100, 2), (100, 8), (100, 8), (1, 16), (100, 2), (100, 2), (100, 8), (100, 8), (1, 16), (100, 2), (100, 2), (100, 8), (100, 8), (1, 16), (100, 2), (100, 2), (100, 8), (100, 8), (1, 16), (100, 2), (100, 2), (100, 8), (100, 8), (1, 16), (100, 2), (100, 2), (100, 8), (100, 8), (1, 16), (100, 2), (100, 2), (100, 8), (100, 8), (1, 16), (100, 2), (100, 2), (100, 8), (100, 8), (1, 16), (100, 2), (100, 2), (100, 8), (100, 8), (1, 16), (100, 2), (100, 2), (100, 8), (100, 8), (1, 16), (100, 2), (100, 2), (100, 8), (100, 8), (1, 16), (100, 2), (100, 2), (100, 8), (100, 8), (1, 16), (100, 2), (100, 2), (100, 8), (100, 8), (1, 16), (100, 2), (100, 2), (100, 8), (100, 8), (1, 16), (100, 2), (100, 2), (100, 8), (100, 8), (1, 16), (100, 2), (100, 2), (100, 8), (100, 8), (1, 16), (100, 2), (100, 2), (100, 8), (100, 8), (1, 16), (100, 2), (100, 2), (100, 8), (100, 8), (1, 16), (100, 2), (100, 2), (100, 8), (100, 8), (1, 16), (100, 2), (100, 2), (100, 8), (100, 8), (1, 16), (100, 2), (100, 2), (100, 8), (100, 8), (1, 16), (100, 2), (100, 2), (100, 8), (100, 8), (1, 16), (100, 2), (100, 2), (100, 8), (100, 8), (1, 16), (100, 2), (100, 2), (100, 8), (100, 8), (8, 71), (100, 400), (101, 8), (100, 8), (100, 8), (100, 6), (100, 420), (100, 420), (100, 420), (101, 8), (100, 8), (100, 8), (100, 6), (100, 420), (100, 420), (100, 420), (100, 10), (100, 10), (100, 10), (100, 10), (102, 10), (102, 10), (100, 256), (102, 420), (100, 40), (100, 40), (100, 40), (100, 40), (100, 40), (100, 40), (100, 40), (100, 40), (100, 40), (100, 40), (100, 40), (100, 80), (100, 80), (100, 320), (100, 320), (100, 320), (100, 256), (100, 400), (101, 1)]
def SH (n : Nat) : List (Nat × Nat) := (105, n) :: SHt
def isN (a : Nat) : Prop := a = 32 ∨ a = 49 ∨ a = 57 ∨ ∃ k, k < 40 ∧ a = 65 + 5 * k
def isT (a : Nat) : Prop := a = 9 ∨ a = 16 ∨ a = 25 ∨ a = 42
def isC (a : Nat) : Prop := a = 24 ∨ a = 41
/-- the place of the node of a number -/
def nd (j : Int32) : Nat := 65 + 5 * j.toNatClampNeg
/-- an index within an array -/
def inb (j : Int32) (n : Nat) : Prop := ¬ (j < 0 ∨ n ≤ j.toNatClampNeg)
theorem kd_succ (n a : Nat) : kd (SH n) (a + 1) = kd SHt a := rfl
theorem ln_succ (n a : Nat) : ln (SH n) (a + 1) = ln SHt a := rfl
theorem nd_isN {j : Int32} (h : inb j 40) : isN (nd j) := by
  unfold inb at h
  exact Or.inr (Or.inr (Or.inr ⟨j.toNatClampNeg, by omega, rfl⟩))
theorem kdN0 {n a : Nat} (h : isN a) : kd (SH n) a = 1 := by
  rcases h with rfl | rfl | rfl | ⟨k, hk, rfl⟩
  · rfl
  · rfl
  · rfl
  · have e : 65 + 5 * k = (64 + 5 * k) + 1 := by omega
    rw [e, kd_succ]
    exact (by decide +kernel : ∀ k, k < 40 → kd SHt (64 + 5 * k) = 1) k hk
theorem kdN1 {n a : Nat} (h : isN a) : kd (SH n) (a + 1) = 100 := by
  rcases h with rfl | rfl | rfl | ⟨k, hk, rfl⟩
  · rfl
  · rfl
  · rfl
  · have e : 65 + 5 * k + 1 = (64 + 5 * k + 1) + 1 := by omega
    rw [e, kd_succ]
    exact (by decide +kernel : ∀ k, k < 40 → kd SHt (64 + 5 * k + 1) = 100) k hk
theorem lnN1 {n a : Nat} (h : isN a) : ln (SH n) (a + 1) = 2 := by
  rcases h with rfl | rfl | rfl | ⟨k, hk, rfl⟩
  · rfl
  · rfl
  · rfl
  · have e : 65 + 5 * k + 1 = (64 + 5 * k + 1) + 1 := by omega
    rw [e, ln_succ]
    exact (by decide +kernel : ∀ k, k < 40 → ln SHt (64 + 5 * k + 1) = 2) k hk
theorem kdN2 {n a : Nat} (h : isN a) : kd (SH n) (a + 2) = 100 := by
  rcases h with rfl | rfl | rfl | ⟨k, hk, rfl⟩
  · rfl
  · rfl
  · rfl
  · have e : 65 + 5 * k + 2 = (64 + 5 * k + 2) + 1 := by omega
    rw [e, kd_succ]
    exact (by decide +kernel : ∀ k, k < 40 → kd SHt (64 + 5 * k + 2) = 100) k hk
theorem lnN2 {n a : Nat} (h : isN a) : ln (SH n) (a + 2) = 2 := by
  rcases h with rfl | rfl | rfl | ⟨k, hk, rfl⟩
  · rfl
  · rfl
  · rfl
  · have e : 65 + 5 * k + 2 = (64 + 5 * k + 2) + 1 := by omega
    rw [e, ln_succ]
    exact (by decide +kernel : ∀ k, k < 40 → ln SHt (64 + 5 * k + 2) = 2) k hk
theorem kdN3 {n a : Nat} (h : isN a) : kd (SH n) (a + 3) = 100 := by
  rcases h with rfl | rfl | rfl | ⟨k, hk, rfl⟩
  · rfl
  · rfl
  · rfl
  · have e : 65 + 5 * k + 3 = (64 + 5 * k + 3) + 1 := by omega
    rw [e, kd_succ]
    exact (by decide +kernel : ∀ k, k < 40 → kd SHt (64 + 5 * k + 3) = 100) k hk
theorem lnN3 {n a : Nat} (h : isN a) : ln (SH n) (a + 3) = 8 := by
  rcases h with rfl | rfl | rfl | ⟨k, hk, rfl⟩
  · rfl
  · rfl
  · rfl
  · have e : 65 + 5 * k + 3 = (64 + 5 * k + 3) + 1 := by omega
    rw [e, ln_succ]
    exact (by decide +kernel : ∀ k, k < 40 → ln SHt (64 + 5 * k + 3) = 8) k hk
theorem kdN4 {n a : Nat} (h : isN a) : kd (SH n) (a + 4) = 100 := by
  rcases h with rfl | rfl | rfl | ⟨k, hk, rfl⟩
  · rfl
  · rfl
  · rfl
  · have e : 65 + 5 * k + 4 = (64 + 5 * k + 4) + 1 := by omega
    rw [e, kd_succ]
    exact (by decide +kernel : ∀ k, k < 40 → kd SHt (64 + 5 * k + 4) = 100) k hk
theorem lnN4 {n a : Nat} (h : isN a) : ln (SH n) (a + 4) = 8 := by
  rcases h with rfl | rfl | rfl | ⟨k, hk, rfl⟩
  · rfl
  · rfl
  · rfl
  · have e : 65 + 5 * k + 4 = (64 + 5 * k + 4) + 1 := by omega
    rw [e, ln_succ]
    exact (by decide +kernel : ∀ k, k < 40 → ln SHt (64 + 5 * k + 4) = 8) k hk
theorem geN {a : Nat} (h : isN a) : 2 ≤ a := by
  unfold isN at h
  omega
theorem kdT0 {n a : Nat} (h : isT a) : kd (SH n) a = 6 := by
  rcases h with rfl | rfl | rfl | rfl <;> rfl
theorem kdT1 {n a : Nat} (h : isT a) : kd (SH n) (a + 1) = 100 := by
  rcases h with rfl | rfl | rfl | rfl <;> rfl
theorem lnT1 {n a : Nat} (h : isT a) : ln (SH n) (a + 1) = 48 := by
  rcases h with rfl | rfl | rfl | rfl <;> rfl
theorem kdT2 {n a : Nat} (h : isT a) : kd (SH n) (a + 2) = 100 := by
  rcases h with rfl | rfl | rfl | rfl <;> rfl
theorem lnT2 {n a : Nat} (h : isT a) : ln (SH n) (a + 2) = 8 := by
  rcases h with rfl | rfl | rfl | rfl <;> rfl
theorem kdT3 {n a : Nat} (h : isT a) : kd (SH n) (a + 3) = 100 := by
  rcases h with rfl | rfl | rfl | rfl <;> rfl
theorem lnT3 {n a : Nat} (h : isT a) : ln (SH n) (a + 3) = 8 := by
  rcases h with rfl | rfl | rfl | rfl <;> rfl
theorem kdT4 {n a : Nat} (h : isT a) : kd (SH n) (a + 4) = 100 := by
  rcases h with rfl | rfl | rfl | rfl <;> rfl
theorem lnT4 {n a : Nat} (h : isT a) : ln (SH n) (a + 4) = 8 := by
  rcases h with rfl | rfl | rfl | rfl <;> rfl
theorem kdT5 {n a : Nat} (h : isT a) : kd (SH n) (a + 5) = 100 := by
  rcases h with rfl | rfl | rfl | rfl <;> rfl
theorem lnT5 {n a : Nat} (h : isT a) : ln (SH n) (a + 5) = 6 := by
  rcases h with rfl | rfl | rfl | rfl <;> rfl
theorem kdT6 {n a : Nat} (h : isT a) : kd (SH n) (a + 6) = 101 := by
  rcases h with rfl | rfl | rfl | rfl <;> rfl
theorem lnT6 {n a : Nat} (h : isT a) : ln (SH n) (a + 6) = 4 := by
  rcases h with rfl | rfl | rfl | rfl <;> rfl
theorem geT {a : Nat} (h : isT a) : 2 ≤ a := by
  unfold isT at h
  omega
theorem kdC0 {n a : Nat} (h : isC a) : kd (SH n) a = 0 := by
  rcases h with rfl | rfl <;> rfl
theorem kdC13 {n a : Nat} (h : isC a) : kd (SH n) (a + 13) = 100 := by
  rcases h with rfl | rfl <;> rfl
theorem lnC13 {n a : Nat} (h : isC a) : ln (SH n) (a + 13) = 2 := by
  rcases h with rfl | rfl <;> rfl
theorem kdC14 {n a : Nat} (h : isC a) : kd (SH n) (a + 14) = 100 := by
  rcases h with rfl | rfl <;> rfl
theorem lnC14 {n a : Nat} (h : isC a) : ln (SH n) (a + 14) = 2 := by
  rcases h with rfl | rfl <;> rfl
theorem kdC15 {n a : Nat} (h : isC a) : kd (SH n) (a + 15) = 100 := by
  rcases h with rfl | rfl <;> rfl
theorem lnC15 {n a : Nat} (h : isC a) : ln (SH n) (a + 15) = 2 := by
  rcases h with rfl | rfl <;> rfl
theorem geC {a : Nat} (h : isC a) : 2 ≤ a := by
  unfold isC at h
  omega
def LYR (R : Nat → Nat → Option Nat) : Prop := (∀ a, isN a → R a 12 = some (a + 1) ∧ R a 13 = some (a + 2) ∧ R a 14 = some (a + 3) ∧ R a 15 = some (a + 4)) ∧ (∀ a, isT a → R a 0 = some (a + 1) ∧ R a 1 = some (a + 2) ∧ R a 2 = some (a + 3) ∧ R a 3 = some (a + 4) ∧ R a 4 = some (a + 5) ∧ R a 5 = some (a + 6)) ∧ (∀ a, isC a → R a 6 = some (a + 13) ∧ R a 7 = some (a + 14) ∧ R a 13 = some (a + 15)) ∧ (∀ k, k < 40 → R 23 k = some (65 + 5 * k)) ∧ R 2 0 = some 3 ∧ R 2 3 = some 4 ∧ R 2 5 = some 23 ∧ R 2 8 = some 24 ∧ R 2 9 = some 40 ∧ R 2 10 = some 63 ∧ R 4 0 = some 5 ∧ R 5 0 = some 6 ∧ R 5 1 = some 7 ∧ R 40 0 = some 41 ∧ R 40 1 = some 57 ∧ R 40 2 = some 62 ∧ R 63 0 = some 64 ∧ R 265 1 = some 266 ∧ R 265 10 = some 267 ∧ R 265 11 = some 268 ∧ R 265 12 = some 269 ∧ R 265 13 = some 270 ∧ R 265 14 = some 271 ∧ R 265 15 = some 272 ∧ R 265 16 = some 273 ∧ R 265 20 = some 274 ∧ R 265 21 = some 275 ∧ R 265 22 = some 276 ∧ R 265 23 = some 277 ∧ R 265 24 = some 278 ∧ R 265 25 = some 279 ∧ R 265 26 = some 280 ∧ R 265 27 = some 281 ∧ R 265 28 = some 282 ∧ R 265 29 = some 283 ∧ R 265 30 = some 284 ∧ R 265 31 = some 285 ∧ R 265 32 = some 286 ∧ R 265 35 = some 287 ∧ R 265 36 = some 288 ∧ R 265 39 = some 289 ∧ R 265 40 = some 290 ∧ R 265 41 = some 291 ∧ R 265 42 = some 292 ∧ R 265 43 = some 293 ∧ R 265 44 = some 294 ∧ R 265 45 = some 295 ∧ R 265 46 = some 296 ∧ R 265 47 = some 297 ∧ R 265 48 = some 298 ∧ R 265 49 = some 299 ∧ R 265 50 = some 300 ∧ R 265 51 = some 301 ∧ R 265 52 = some 302 ∧ R 265 53 = some 303 ∧ R 265 54 = some 304 ∧ R 265 64 = some 305 ∧ R 265 69 = some 306
theorem lyN12 {R : Nat → Nat → Option Nat} {a : Nat} (h : LYR R) (ha : isN a) : ip_rf (R a 12) = .ref (a + 1) := by rw [(h.1 a ha).1]; rfl
theorem lyN13 {R : Nat → Nat → Option Nat} {a : Nat} (h : LYR R) (ha : isN a) : ip_rf (R a 13) = .ref (a + 2) := by rw [(h.1 a ha).2.1]; rfl
theorem lyN14 {R : Nat → Nat → Option Nat} {a : Nat} (h : LYR R) (ha : isN a) : ip_rf (R a 14) = .ref (a + 3) := by rw [(h.1 a ha).2.2.1]; rfl
theorem lyN15 {R : Nat → Nat → Option Nat} {a : Nat} (h : LYR R) (ha : isN a) : ip_rf (R a 15) = .ref (a + 4) := by rw [(h.1 a ha).2.2.2]; rfl
theorem lyT0 {R : Nat → Nat → Option Nat} {a : Nat} (h : LYR R) (ha : isT a) : ip_rf (R a 0) = .ref (a + 1) := by rw [(h.2.1 a ha).1]; rfl
theorem lyT1 {R : Nat → Nat → Option Nat} {a : Nat} (h : LYR R) (ha : isT a) : ip_rf (R a 1) = .ref (a + 2) := by rw [(h.2.1 a ha).2.1]; rfl
theorem lyT2 {R : Nat → Nat → Option Nat} {a : Nat} (h : LYR R) (ha : isT a) : ip_rf (R a 2) = .ref (a + 3) := by rw [(h.2.1 a ha).2.2.1]; rfl
theorem lyT3 {R : Nat → Nat → Option Nat} {a : Nat} (h : LYR R) (ha : isT a) : ip_rf (R a 3) = .ref (a + 4) := by rw [(h.2.1 a ha).2.2.2.1]; rfl
theorem lyT4 {R : Nat → Nat → Option Nat} {a : Nat} (h : LYR R) (ha : isT a) : ip_rf (R a 4) = .ref (a + 5) := by rw [(h.2.1 a ha).2.2.2.2.1]; rfl
theorem lyT5 {R : Nat → Nat → Option Nat} {a : Nat} (h : LYR R) (ha : isT a) : ip_rf (R a 5) = .ref (a + 6) := by rw [(h.2.1 a ha).2.2.2.2.2]; rfl
theorem lyC6 {R : Nat → Nat → Option Nat} {a : Nat} (h : LYR R) (ha : isC a) : ip_rf (R a 6) = .ref (a + 13) := by rw [(h.2.2.1 a ha).1]; rfl
theorem lyC7 {R : Nat → Nat → Option Nat} {a : Nat} (h : LYR R) (ha : isC a) : ip_rf (R a 7) = .ref (a + 14) := by rw [(h.2.2.1 a ha).2.1]; rfl
theorem lyC13 {R : Nat → Nat → Option Nat} {a : Nat} (h : LYR R) (ha : isC a) : ip_rf (R a 13) = .ref (a + 15) := by rw [(h.2.2.1 a ha).2.2]; rfl
theorem ly_nd {R : Nat → Nat → Option Nat} {j : Int32} (h : LYR R) (hj : inb j 40) : ip_rf (R 23 j.toNatClampNeg) = .ref (nd j) := by
  unfold inb at hj
  rw [h.2.2.2.1 j.toNatClampNeg (by omega)]
  rfl
theorem ly_2_0 {R : Nat → Nat → Option Nat} (h : LYR R) : ip_rf (R 2 0) = .ref 3 := by rw [h.2.2.2.2.1]; rfl
theorem ly_2_3 {R : Nat → Nat → Option Nat} (h : LYR R) : ip_rf (R 2 3) = .ref 4 := by rw [h.2.2.2.2.2.1]; rfl
theorem ly_2_5 {R : Nat → Nat → Option Nat} (h : LYR R) : ip_rf (R 2 5) = .ref 23 := by rw [h.2.2.2.2.2.2.1]; rfl
theorem ly_2_8 {R : Nat → Nat → Option Nat} (h : LYR R) : ip_rf (R 2 8) = .ref 24 := by rw [h.2.2.2.2.2.2.2.1]; rfl
theorem ly_2_9 {R : Nat → Nat → Option Nat} (h : LYR R) : ip_rf (R 2 9) = .ref 40 := by rw [h.2.2.2.2.2.2.2.2.1]; rfl
theorem ly_2_10 {R : Nat → Nat → Option Nat} (h : LYR R) : ip_rf (R 2 10) = .ref 63 := by rw [h.2.2.2.2.2.2.2.2.2.1]; rfl
theorem ly_4_0 {R : Nat → Nat → Option Nat} (h : LYR R) : ip_rf (R 4 0) = .ref 5 := by rw [h.2.2.2.2.2.2.2.2.2.2.1]; rfl
theorem ly_5_0 {R : Nat → Nat → Option Nat} (h : LYR R) : ip_rf (R 5 0) = .ref 6 := by rw [h.2.2.2.2.2.2.2.2.2.2.2.1]; rfl
theorem ly_5_1 {R : Nat → Nat → Option Nat} (h : LYR R) : ip_rf (R 5 1) = .ref 7 := by rw [h.2.2.2.2.2.2.2.2.2.2.2.2.1]; rfl
theorem ly_40_0 {R : Nat → Nat → Option Nat} (h : LYR R) : ip_rf (R 40 0) = .ref 41 := by rw [h.2.2.2.2.2.2.2.2.2.2.2.2.2.1]; rfl
theorem ly_40_1 {R : Nat → Nat → Option Nat} (h : LYR R) : ip_rf (R 40 1) = .ref 57 := by rw [h.2.2.2.2.2.2.2.2.2.2.2.2.2.2.1]; rfl
theorem ly_40_2 {R : Nat → Nat → Option Nat} (h : LYR R) : ip_rf (R 40 2) = .ref 62 := by rw [h.2.2.2.2.2.2.2.2.2.2.2.2.2.2.2.1]; rfl
theorem ly_63_0 {R : Nat → Nat → Option Nat} (h : LYR R) : ip_rf (R 63 0) = .ref 64 := by rw [h.2.2.2.2.2.2.2.2.2.2.2.2.2.2.2.2.1]; rfl
theorem ly_265_1 {R : Nat → Nat → Option Nat} (h : LYR R) : ip_rf (R 265 1) = .ref 266 := by rw [h.2.2.2.2.2.2.2.2.2.2.2.2.2.2.2.2.2.1]; rfl
theorem ly_265_10 {R : Nat → Nat → Option Nat} (h : LYR R) : ip_rf (R 265 10) = .ref 267 := by rw [h.2.2.2.2.2.2.2.2.2.2.2.2.2.2.2.2.2.2.1]; rfl
theorem ly_265_11 {R : Nat → Nat → Option Nat} (h : LYR R) : ip_rf (R 265 11) = .ref 268 := by rw [h.2.2.2.2.2.2.2.2.2.2.2.2.2.2.2.2.2.2.2.1]; rfl
theorem ly_265_12 {R : Nat → Nat → Option Nat} (h : LYR R) : ip_rf (R 265 12) = .ref 269 := by rw [h.2.2.2.2.2.2.2.2.2.2.2.2.2.2.2.2.2.2.2.2.1]; rfl
theorem ly_265_13 {R : Nat → Nat → Option Nat} (h : LYR R) : ip_rf (R 265 13) = .ref 270 := by rw [h.2.2.2.2.2.2.2.2.2.2.2.2.2.2.2.2.2.2.2.2.2.1]; rfl
theorem ly_265_14 {R : Nat → Nat → Option Nat} (h : LYR R) : ip_rf (R 265 14) = .ref 271 := by rw [h.2.2.2.2.2.2.2.2.2.2.2.2.2.2.2.2.2.2.2.2.2.2.1]; rfl
theorem ly_265_15 {R : Nat → Nat → Option Nat} (h : LYR R) : ip_rf (R 265 15) = .ref 272 := by rw [h.2.2.2.2.2.2.2.2.2.2.2.2.2.2.2.2.2.2.2.2.2.2.2.1]; rfl
theorem ly_265_16 {R : Nat → Nat → Option Nat} (h : LYR R) : ip_rf (R 265 16) = .ref 273 := by rw [h.2.2.2.2.2.2.2.2.2.2.2.2.2.2.2.2.2.2.2.2.2.2.2.2.1]; rfl
theorem ly_265_20 {R : Nat → Nat → Option Nat} (h : LYR R) : ip_rf (R 265 20) = .ref 274 := by rw [h.2.2.2.2.2.2.2.2.2.2.2.2.2.2.2.2.2.2.2.2.2.2.2.2.2.1]; rfl
theorem ly_265_21 {R : Nat → Nat → Option Nat} (h : LYR R) : ip_rf (R 265 21) = .ref 275 := by rw [h.2.2.2.2.2.2.2.2.2.2.2.2.2.2.2.2.2.2.2.2.2.2.2.2.2.2.1]; rfl
theorem ly_265_22 {R : Nat → Nat → Option Nat} (h : LYR R) : ip_rf (R 265 22) = .ref 276 := by rw [h.2.2.2.2.2.2.2.2.2.2.2.2.2.2.2.2.2.2.2.2.2.2.2.2.2.2.2.1]; rfl
theorem ly_265_23 {R : Nat → Nat → Option Nat} (h : LYR R) : ip_rf (R 265 23) = .ref 277 := by rw [h.2.2.2.2.2.2.2.2.2.2.2.2.2.2.2.2.2.2.2.2.2.2.2.2.2.2.2.2.1]; rfl
theorem ly_265_24 {R : Nat → Nat → Option Nat} (h : LYR R) : ip_rf (R 265 24) = .ref 278 := by rw [h.2.2.2.2.2.2.2.2.2.2.2.2.2.2.2.2.2.2.2.2.2.2.2.2.2.2.2.2.2.1]; rfl
theorem ly_265_25 {R : Nat → Nat → Option Nat} (h : LYR R) : ip_rf (R 265 25) = .ref 279 := by rw [h.2.2.2.2.2.2.2.2.2.2.2.2.2.2.2.2.2.2.2.2.2.2.2.2.2.2.2.2.2.2.1]; rfl
theorem ly_265_26 {R : Nat → Nat → Option Nat} (h : LYR R) : ip_rf (R 265 26) = .ref 280 := by rw [h.2.2.2.2.2.2.2.2.2.2.2.2.2.2.2.2.2.2.2.2.2.2.2.2.2.2.2.2.2.2.2.1]; rfl
theorem ly_265_27 {R : Nat → Nat → Option Nat} (h : LYR R) : ip_rf (R 265 27) = .ref 281 := by rw [h.2.2.2.2.2.2.2.2.2.2.2.2.2.2.2.2.2.2.2.2.2.2.2.2.2.2.2.2.2.2.2.2.1]; rfl
theorem ly_265_28 {R : Nat → Nat → Option Nat} (h : LYR R) : ip_rf (R 265 28) = .ref 282 := by rw [h.2.2.2.2.2.2.2.2.2.2.2.2.2.2.2.2.2.2.2.2.2.2.2.2.2.2.2.2.2.2.2.2.2.1]; rfl
theorem ly_265_29 {R : Nat → Nat → Option Nat} (h : LYR R) : ip_rf (R 265 29) = .ref 283 := by rw [h.2.2.2.2.2.2.2.2.2.2.2.2.2.2.2.2.2.2.2.2.2.2.2.2.2.2.2.2.2.2.2.2.2.2.1]; rfl
theorem ly_265_30 {R : Nat → Nat → Option Nat} (h : LYR R) : ip_rf (R 265 30) = .ref 284 := by rw [h.2.2.2.2.2.2.2.2.2.2.2.2.2.2.2.2.2.2.2.2.2.2.2.2.2.2.2.2.2.2.2.2.2.2.2.1]; rfl
theorem ly_265_31 {R : Nat → Nat → Option Nat} (h : LYR R) : ip_rf (R 265 31) = .ref 285 := by rw [h.2.2.2.2.2.2.2.2.2.2.2.2.2.2.2.2.2.2.2.2.2.2.2.2.2.2.2.2.2.2.2.2.2.2.2.2.1]; rfl
theorem ly_265_32 {R : Nat → Nat → Option Nat} (h : LYR R) : ip_rf (R 265 32) = .ref 286 := by rw [h.2.2.2.2.2.2.2.2.2.2.2.2.2.2.2.2.2.2.2.2.2.2.2.2.2.2.2.2.2.2.2.2.2.2.2.2.2.1]; rfl
theorem ly_265_35 {R : Nat → Nat → Option Nat} (h : LYR R) : ip_rf (R 265 35) = .ref 287 := by rw [h.2.2.2.2.2.2.2.2.2.2.2.2.2.2.2.2.2.2.2.2.2.2.2.2.2.2.2.2.2.2.2.2.2.2.2.2.2.2.1]; rfl
theorem ly_265_36 {R : Nat → Nat → Option Nat} (h : LYR R) : ip_rf (R 265 36) = .ref 288 := by rw [h.2.2.2.2.2.2.2.2.2.2.2.2.2.2.2.2.2.2.2.2.2.2.2.2.2.2.2.2.2.2.2.2.2.2.2.2.2.2.2.1]; rfl
theorem ly_265_39 {R : Nat → Nat → Option Nat} (h : LYR R) : ip_rf (R 265 39) = .ref 289 := by rw [h.2.2.2.2.2.2.2.2.2.2.2.2.2.2.2.2.2.2.2.2.2.2.2.2.2.2.2.2.2.2.2.2.2.2.2.2.2.2.2.2.1]; rfl
theorem ly_265_40 {R : Nat → Nat → Option Nat} (h : LYR R) : ip_rf (R 265 40) = .ref 290 := by rw [h.2.2.2.2.2.2.2.2.2.2.2.2.2.2.2.2.2.2.2.2.2.2.2.2.2.2.2.2.2.2.2.2.2.2.2.2.2.2.2.2.2.1]; rfl
theorem ly_265_41 {R : Nat → Nat → Option Nat} (h : LYR R) : ip_rf (R 265 41) = .ref 291 := by rw [h.2.2.2.2.2.2.2.2.2.2.2.2.2.2.2.2.2.2.2.2.2.2.2.2.2.2.2.2.2.2.2.2.2.2.2.2.2.2.2.2.2.2.1]; rfl
theorem ly_265_42 {R : Nat → Nat → Option Nat} (h : LYR R) : ip_rf (R 265 42) = .ref 292 := by rw [h.2.2.2.2.2.2.2.2.2.2.2.2.2.2.2.2.2.2.2.2.2.2.2.2.2.2.2.2.2.2.2.2.2.2.2.2.2.2.2.2.2.2.2.1]; rfl
theorem ly_265_43 {R : Nat → Nat → Option Nat} (h : LYR R) : ip_rf (R 265 43) = .ref 293 := by rw [h.2.2.2.2.2.2.2.2.2.2.2.2.2.2.2.2.2.2.2.2.2.2.2.2.2.2.2.2.2.2.2.2.2.2.2.2.2.2.2.2.2.2.2.2.1]; rfl
theorem ly_265_44 {R : Nat → Nat → Option Nat} (h : LYR R) : ip_rf (R 265 44) = .ref 294 := by rw [h.2.2.2.2.2.2.2.2.2.2.2.2.2.2.2.2.2.2.2.2.2.2.2.2.2.2.2.2.2.2.2.2.2.2.2.2.2.2.2.2.2.2.2.2.2.1]; rfl
theorem ly_265_45 {R : Nat → Nat → Option Nat} (h : LYR R) : ip_rf (R 265 45) = .ref 295 := by rw [h.2.2.2.2.2.2.2.2.2.2.2.2.2.2.2.2.2.2.2.2.2.2.2.2.2.2.2.2.2.2.2.2.2.2.2.2.2.2.2.2.2.2.2.2.2.2.1]; rfl
theorem ly_265_46 {R : Nat → Nat → Option Nat} (h : LYR R) : ip_rf (R 265 46) = .ref 296 := by rw [h.2.2.2.2.2.2.2.2.2.2.2.2.2.2.2.2.2.2.2.2.2.2.2.2.2.2.2.2.2.2.2.2.2.2.2.2.2.2.2.2.2.2.2.2.2.2.2.1]; rfl
theorem ly_265_47 {R : Nat → Nat → Option Nat} (h : LYR R) : ip_rf (R 265 47) = .ref 297 := by rw [h.2.2.2.2.2.2.2.2.2.2.2.2.2.2.2.2.2.2.2.2.2.2.2.2.2.2.2.2.2.2.2.2.2.2.2.2.2.2.2.2.2.2.2.2.2.2.2.2.1]; rfl
theorem ly_265_48 {R : Nat → Nat → Option Nat} (h : LYR R) : ip_rf (R 265 48) = .ref 298 := by rw [h.2.2.2.2.2.2.2.2.2.2.2.2.2.2.2.2.2.2.2.2.2.2.2.2.2.2.2.2.2.2.2.2.2.2.2.2.2.2.2.2.2.2.2.2.2.2.2.2.2.1]; rfl
theorem ly_265_49 {R : Nat → Nat → Option Nat} (h : LYR R) : ip_rf (R 265 49) = .ref 299 := by rw [h.2.2.2.2.2.2.2.2.2.2.2.2.2.2.2.2.2.2.2.2.2.2.2.2.2.2.2.2.2.2.2.2.2.2.2.2.2.2.2.2.2.2.2.2.2.2.2.2.2.2.1]; rfl
theorem ly_265_50 {R : Nat → Nat → Option Nat} (h : LYR R) : ip_rf (R 265 50) = .ref 300 := by rw [h.2.2.2.2.2.2.2.2.2.2.2.2.2.2.2.2.2.2.2.2.2.2.2.2.2.2.2.2.2.2.2.2.2.2.2.2.2.2.2.2.2.2.2.2.2.2.2.2.2.2.2.1]; rfl
theorem ly_265_51 {R : Nat → Nat → Option Nat} (h : LYR R) : ip_rf (R 265 51) = .ref 301 := by rw [h.2.2.2.2.2.2.2.2.2.2.2.2.2.2.2.2.2.2.2.2.2.2.2.2.2.2.2.2.2.2.2.2.2.2.2.2.2.2.2.2.2.2.2.2.2.2.2.2.2.2.2.2.1]; rfl
theorem ly_265_52 {R : Nat → Nat → Option Nat} (h : LYR R) : ip_rf (R 265 52) = .ref 302 := by rw [h.2.2.2.2.2.2.2.2.2.2.2.2.2.2.2.2.2.2.2.2.2.2.2.2.2.2.2.2.2.2.2.2.2.2.2.2.2.2.2.2.2.2.2.2.2.2.2.2.2.2.2.2.2.1]; rfl
theorem ly_265_53 {R : Nat → Nat → Option Nat} (h : LYR R) : ip_rf (R 265 53) = .ref 303 := by rw [h.2.2.2.2.2.2.2.2.2.2.2.2.2.2.2.2.2.2.2.2.2.2.2.2.2.2.2.2.2.2.2.2.2.2.2.2.2.2.2.2.2.2.2.2.2.2.2.2.2.2.2.2.2.2.1]; rfl
theorem ly_265_54 {R : Nat → Nat → Option Nat} (h : LYR R) : ip_rf (R 265 54) = .ref 304 := by rw [h.2.2.2.2.2.2.2.2.2.2.2.2.2.2.2.2.2.2.2.2.2.2.2.2.2.2.2.2.2.2.2.2.2.2.2.2.2.2.2.2.2.2.2.2.2.2.2.2.2.2.2.2.2.2.2.1]; rfl
theorem ly_265_64 {R : Nat → Nat → Option Nat} (h : LYR R) : ip_rf (R 265 64) = .ref 305 := by rw [h.2.2.2.2.2.2.2.2.2.2.2.2.2.2.2.2.2.2.2.2.2.2.2.2.2.2.2.2.2.2.2.2.2.2.2.2.2.2.2.2.2.2.2.2.2.2.2.2.2.2.2.2.2.2.2.2.1]; rfl
theorem ly_265_69 {R : Nat → Nat → Option Nat} (h : LYR R) : ip_rf (R 265 69) = .ref 306 := by rw [h.2.2.2.2.2.2.2.2.2.2.2.2.2.2.2.2.2.2.2.2.2.2.2.2.2.2.2.2.2.2.2.2.2.2.2.2.2.2.2.2.2.2.2.2.2.2.2.2.2.2.2.2.2.2.2.2.2]; rfl
/-- accesses that are within bounds -/
def ia (n b : Nat) (j : Int32) : Prop := (kd (SH n) b = 100 ∧ 2 ≤ b) ∧ inb j (ln (SH n) b)
def la (n b : Nat) (j : Int32) : Prop := (kd (SH n) b = 101 ∧ 2 ≤ b) ∧ inb j (ln (SH n) b)
def za (n b : Nat) (j : Int32) : Prop := (kd (SH n) b = 102 ∧ 2 ≤ b) ∧ inb j (ln (SH n) b)
theorem ia_lit : (∀ (n : Nat) (j : Int32), ia n 3 j ↔ inb j 400) ∧ (∀ (n : Nat) (j : Int32), la n 6 j ↔ inb j 160) ∧ (∀ (n : Nat) (j : Int32), la n 7 j ↔ inb j 10) ∧ (∀ (n : Nat) (j : Int32), ia n 8 j ↔ inb j 0) ∧ (∀ (n : Nat) (j : Int32), ia n 62 j ↔ inb j 256) ∧ (∀ (n : Nat) (j : Int32), ia n 64 j ↔ inb j 256) ∧ (∀ (n : Nat) (j : Int32), ia n 266 j ↔ inb j 400) ∧ (∀ (n : Nat) (j : Int32), la n 267 j ↔ inb j 8) ∧ (∀ (n : Nat) (j : Int32), ia n 268 j ↔ inb j 8) ∧ (∀ (n : Nat) (j : Int32), ia n 269 j ↔ inb j 8) ∧ (∀ (n : Nat) (j : Int32), ia n 270 j ↔ inb j 6) ∧ (∀ (n : Nat) (j : Int32), ia n 271 j ↔ inb j 420) ∧ (∀ (n : Nat) (j : Int32), ia n 272 j ↔ inb j 420) ∧ (∀ (n : Nat) (j : Int32), ia n 273 j ↔ inb j 420) ∧ (∀ (n : Nat) (j : Int32), la n 274 j ↔ inb j 8) ∧ (∀ (n : Nat) (j : Int32), ia n 275 j ↔ inb j 8) ∧ (∀ (n : Nat) (j : Int32), ia n 276 j ↔ inb j 8) ∧ (∀ (n : Nat) (j : Int32), ia n 277 j ↔ inb j 6) ∧ (∀ (n : Nat) (j : Int32), ia n 278 j ↔ inb j 420) ∧ (∀ (n : Nat) (j : Int32), ia n 279 j ↔ inb j 420) ∧ (∀ (n : Nat) (j : Int32), ia n 280 j ↔ inb j 420) ∧ (∀ (n : Nat) (j : Int32), ia n 281 j ↔ inb j 10) ∧ (∀ (n : Nat) (j : Int32), ia n 282 j ↔ inb j 10) ∧ (∀ (n : Nat) (j : Int32), ia n 283 j ↔ inb j 10) ∧ (∀ (n : Nat) (j : Int32), ia n 284 j ↔ inb j 10) ∧ (∀ (n : Nat) (j : Int32), za n 285 j ↔ inb j 10) ∧ (∀ (n : Nat) (j : Int32), za n 286 j ↔ inb j 10) ∧ (∀ (n : Nat) (j : Int32), ia n 287 j ↔ inb j 256) ∧ (∀ (n : Nat) (j : Int32), za n 288 j ↔ inb j 420) ∧ (∀ (n : Nat) (j : Int32), ia n 289 j ↔ inb j 40) ∧ (∀ (n : Nat) (j : Int32), ia n 290 j ↔ inb j 40) ∧ (∀ (n : Nat) (j : Int32), ia n 291 j ↔ inb j 40) ∧ (∀ (n : Nat) (j : Int32), ia n 292 j ↔ inb j 40) ∧ (∀ (n : Nat) (j : Int32), ia n 293 j ↔ inb j 40) ∧ (∀ (n : Nat) (j : Int32), ia n 294 j ↔ inb j 40) ∧ (∀ (n : Nat) (j : Int32), ia n 295 j ↔ inb j 40) ∧ (∀ (n : Nat) (j : Int32), ia n 296 j ↔ inb j 40) ∧ (∀ (n : Nat) (j : Int32), ia n 297 j ↔ inb j 40) ∧ (∀ (n : Nat) (j : Int32), ia n 298 j ↔ inb j 40) ∧ (∀ (n : Nat) (j : Int32), ia n 299 j ↔ inb j 40) ∧ (∀ (n : Nat) (j : Int32), ia n 300 j ↔ inb j 80) ∧ (∀ (n : Nat) (j : Int32), ia n 301 j ↔ inb j 80) ∧ (∀ (n : Nat) (j : Int32), ia n 302 j ↔ inb j 320) ∧ (∀ (n : Nat) (j : Int32), ia n 303 j ↔ inb j 320) ∧ (∀ (n : Nat) (j : Int32), ia n 304 j ↔ inb j 320) ∧ (∀ (n : Nat) (j : Int32), ia n 305 j ↔ inb j 256) ∧ (∀ (n : Nat) (j : Int32), ia n 306 j ↔ inb j 400) ∧ (∀ (n : Nat) (j : Int32), la n 307 j ↔ inb j 1) := by
  refine ⟨?_, ?_, ?_, ?_, ?_, ?_, ?_, ?_, ?_, ?_, ?_, ?_, ?_, ?_, ?_, ?_, ?_, ?_, ?_, ?_, ?_, ?_, ?_, ?_, ?_, ?_, ?_, ?_, ?_, ?_, ?_, ?_, ?_, ?_, ?_, ?_, ?_, ?_, ?_, ?_, ?_, ?_, ?_, ?_, ?_, ?_, ?_, ?_⟩ <;> exact fun n j => ⟨fun h => h.2, fun h => ⟨⟨rfl, by decide⟩, h⟩⟩
theorem ia_N1 {n a : Nat} {j : Int32} (h : isN a) : ia n (a + 1) j ↔ inb j 2 := by
  unfold ia
  rw [lnN1 h]
  have q := geN h
  exact ⟨fun g => g.2, fun g => ⟨⟨kdN1 h, by omega⟩, g⟩⟩
theorem ia_N2 {n a : Nat} {j : Int32} (h : isN a) : ia n (a + 2) j ↔ inb j 2 := by
  unfold ia
  rw [lnN2 h]
  have q := geN h
  exact ⟨fun g => g.2, fun g => ⟨⟨kdN2 h, by omega⟩, g⟩⟩
theorem ia_N3 {n a : Nat} {j : Int32} (h : isN a) : ia n (a + 3) j ↔ inb j 8 := by
  unfold ia
  rw [lnN3 h]
  have q := geN h
  exact ⟨fun g => g.2, fun g => ⟨⟨kdN3 h, by omega⟩, g⟩⟩
theorem ia_N4 {n a : Nat} {j : Int32} (h : isN a) : ia n (a + 4) j ↔ inb j 8 := by
  unfold ia
  rw [lnN4 h]
  have q := geN h
  exact ⟨fun g => g.2, fun g => ⟨⟨kdN4 h, by omega⟩, g⟩⟩
theorem ia_T1 {n a : Nat} {j : Int32} (h : isT a) : ia n (a + 1) j ↔ inb j 48 := by
  unfold ia
  rw [lnT1 h]
  have q := geT h
  exact ⟨fun g => g.2, fun g => ⟨⟨kdT1 h, by omega⟩, g⟩⟩
theorem ia_T2 {n a : Nat} {j : Int32} (h : isT a) : ia n (a + 2) j ↔ inb j 8 := by
  unfold ia
  rw [lnT2 h]
  have q := geT h
  exact ⟨fun g => g.2, fun g => ⟨⟨kdT2 h, by omega⟩, g⟩⟩
theorem ia_T3 {n a : Nat} {j : Int32} (h : isT a) : ia n (a + 3) j ↔ inb j 8 := by
  unfold ia
  rw [lnT3 h]
  have q := geT h
  exact ⟨fun g => g.2, fun g => ⟨⟨kdT3 h, by omega⟩, g⟩⟩
theorem ia_T4 {n a : Nat} {j : Int32} (h : isT a) : ia n (a + 4) j ↔ inb j 8 := by
  unfold ia
  rw [lnT4 h]
  have q := geT h
  exact ⟨fun g => g.2, fun g => ⟨⟨kdT4 h, by omega⟩, g⟩⟩
theorem ia_T5 {n a : Nat} {j : Int32} (h : isT a) : ia n (a + 5) j ↔ inb j 6 := by
  unfold ia
  rw [lnT5 h]
  have q := geT h
  exact ⟨fun g => g.2, fun g => ⟨⟨kdT5 h, by omega⟩, g⟩⟩
theorem la_T6 {n a : Nat} {j : Int32} (h : isT a) : la n (a + 6) j ↔ inb j 4 := by
  unfold la
  rw [lnT6 h]
  have q := geT h
  exact ⟨fun g => g.2, fun g => ⟨⟨kdT6 h, by omega⟩, g⟩⟩
theorem ia_C13 {n a : Nat} {j : Int32} (h : isC a) : ia n (a + 13) j ↔ inb j 2 := by
  unfold ia
  rw [lnC13 h]
  have q := geC h
  exact ⟨fun g => g.2, fun g => ⟨⟨kdC13 h, by omega⟩, g⟩⟩
theorem ia_C14 {n a : Nat} {j : Int32} (h : isC a) : ia n (a + 14) j ↔ inb j 2 := by
  unfold ia
  rw [lnC14 h]
  have q := geC h
  exact ⟨fun g => g.2, fun g => ⟨⟨kdC14 h, by omega⟩, g⟩⟩
theorem ia_C15 {n a : Nat} {j : Int32} (h : isC a) : ia n (a + 15) j ↔ inb j 2 := by
  unfold ia
  rw [lnC15 h]
  have q := geC h
  exact ⟨fun g => g.2, fun g => ⟨⟨kdC15 h, by omega⟩, g⟩⟩
