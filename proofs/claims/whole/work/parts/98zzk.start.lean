/-! THE CONSTRUCTORS, run by the kernel over a heap without a script -/
def sr_0 : ip_H := ([(107, 0), (106, 6)], (fun _ _ => 0), (fun a j => if a = 1 then ip_nm j else 0), (fun _ _ => none), 0, 0, false)
def sr_a : Option (ip_O × ip_H) := fr_run 6000 200 0 0 (ip_entry 0 [.ref 2]) [] (ip_mk 7 11 sr_0)
def sr_b (h : ip_H) : Option (ip_O × ip_H) := fr_run 10000 200 183 0 (ip_entry 183 [.ref 265]) [] (ip_mk 8 71 h)
abbrev srN (R : Nat → Nat → Option Nat) (a : Nat) : Prop := R a 12 = some (a + 1) ∧ R a 13 = some (a + 2) ∧ R a 14 = some (a + 3) ∧ R a 15 = some (a + 4)
abbrev srT (R : Nat → Nat → Option Nat) (a : Nat) : Prop := R a 0 = some (a + 1) ∧ R a 1 = some (a + 2) ∧ R a 2 = some (a + 3) ∧ R a 3 = some (a + 4) ∧ R a 4 = some (a + 5) ∧ R a 5 = some (a + 6)
abbrev srC (R : Nat → Nat → Option Nat) (a : Nat) : Prop := R a 6 = some (a + 13) ∧ R a 7 = some (a + 14) ∧ R a 13 = some (a + 15)
abbrev srR1 (R : Nat → Nat → Option Nat) : Prop := srN R 32 ∧ srN R 49 ∧ srN R 57 ∧ ∀ k, k < 40 → srN R (65 + 5 * k)
abbrev srR2 (R : Nat → Nat → Option Nat) : Prop := (srT R 9 ∧ srT R 16 ∧ srT R 25 ∧ srT R 42) ∧ (srC R 24 ∧ srC R 41)
abbrev srR3 (R : Nat → Nat → Option Nat) : Prop := (∀ k, k < 40 → R 23 k = some (65 + 5 * k)) ∧ R 2 0 = some 3 ∧ R 2 3 = some 4 ∧ R 2 5 = some 23 ∧ R 2 8 = some 24 ∧ R 2 9 = some 40 ∧ R 2 10 = some 63 ∧ R 4 0 = some 5 ∧ R 5 0 = some 6 ∧ R 5 1 = some 7 ∧ R 40 0 = some 41 ∧ R 40 1 = some 57
abbrev srR4 (R : Nat → Nat → Option Nat) : Prop := R 40 2 = some 62 ∧ R 63 0 = some 64 ∧ R 265 1 = some 266 ∧ R 265 10 = some 267 ∧ R 265 11 = some 268 ∧ R 265 12 = some 269 ∧ R 265 13 = some 270 ∧ R 265 14 = some 271 ∧ R 265 15 = some 272 ∧ R 265 16 = some 273 ∧ R 265 20 = some 274 ∧ R 265 21 = some 275
abbrev srR5 (R : Nat → Nat → Option Nat) : Prop := R 265 22 = some 276 ∧ R 265 23 = some 277 ∧ R 265 24 = some 278 ∧ R 265 25 = some 279 ∧ R 265 26 = some 280 ∧ R 265 27 = some 281 ∧ R 265 28 = some 282 ∧ R 265 29 = some 283 ∧ R 265 30 = some 284 ∧ R 265 31 = some 285 ∧ R 265 32 = some 286 ∧ R 265 35 = some 287
abbrev srR6 (R : Nat → Nat → Option Nat) : Prop := R 265 36 = some 288 ∧ R 265 39 = some 289 ∧ R 265 40 = some 290 ∧ R 265 41 = some 291 ∧ R 265 42 = some 292 ∧ R 265 43 = some 293 ∧ R 265 44 = some 294 ∧ R 265 45 = some 295 ∧ R 265 46 = some 296 ∧ R 265 47 = some 297 ∧ R 265 48 = some 298 ∧ R 265 49 = some 299
abbrev srR7 (R : Nat → Nat → Option Nat) : Prop := R 265 50 = some 300 ∧ R 265 51 = some 301 ∧ R 265 52 = some 302 ∧ R 265 53 = some 303 ∧ R 265 54 = some 304 ∧ R 265 64 = some 305 ∧ R 265 69 = some 306
abbrev srI1 (I : Nat → Nat → Int32) : Prop := (I 16 6 = 0 ∧ I 265 17 = 0 ∧ I 16 7 = I 265 18 ∧ (∀ k, k < 6 → I 21 k = I 277 k) ∧ ∀ s, s < 256 → I 287 s = 1) ∧ (I 2 6 = 1 ∧ I 265 37 = 1 ∧ I 2 7 = 0 ∧ I 265 38 = 0)
abbrev srI2 (I : Nat → Nat → Int32) : Prop := (I 65 0 = 0 ∧ I 65 1 = -1 ∧ I 65 2 = -1 ∧ I 65 3 = 0 ∧ I 65 4 = 0 ∧ I 65 5 = 0 ∧ I 65 6 = 0 ∧ I 65 7 = 0 ∧ I 65 8 = 0 ∧ I 65 9 = -1 ∧ I 65 10 = 0 ∧ I 65 11 = 1) ∧ (I 66 0 = 0 ∧ I 66 1 = 0 ∧ I 67 0 = 0 ∧ I 67 1 = 0)
abbrev srI3 (I : Nat → Nat → Int32) : Prop := (I 289 0 = 0 ∧ I 290 0 = -1 ∧ I 291 0 = -1 ∧ I 292 0 = 0 ∧ I 293 0 = 0 ∧ I 294 0 = 0 ∧ I 295 0 = 0 ∧ I 296 0 = 0 ∧ I 297 0 = -1 ∧ I 298 0 = 0 ∧ I 299 0 = 0) ∧ (I 300 0 = 0 ∧ I 300 1 = 0 ∧ I 301 0 = 0 ∧ I 301 1 = 0)
abbrev srI4 (I : Nat → Nat → Int32) : Prop := (I 2 1 = 0 ∧ I 265 2 = 0 ∧ I 63 1 = 0 ∧ I 265 70 = 0 ∧ I 2 2 = I 265 5)
abbrev srL (L : Nat → Nat → Int64) (R : Nat → Nat → Option Nat) : Prop := (∀ k, k < 4 → L 22 k = 0) ∧ (∀ k, k < 6 → L 1 k = ip_nm k) ∧ R 2 4 = some 16 ∧ R 4 2 = some 9
theorem sr_t : (match sr_a with
  | some (.inl none, h) => (match sr_b h with
    | some (.inl none, g) => (match ip_mk 101 1 g with
      | (sh, I, L, R, nc, ns, nx) => decide (h.1.length = 265) && decide (h.2.2.2.2.2.2 = false) && decide (sh = (107, 0) :: SHt) && decide (srR1 R) && decide (srR2 R) && decide (srR3 R) && decide (srR4 R) && decide (srR5 R) && decide (srR6 R) && decide (srR7 R) && decide (srI1 I) && decide (srI2 I) && decide (srI3 I) && decide (srI4 I) && decide (srL L R) && decide (nc ≤ 400) && decide (ns ≤ 20000) && decide (nx = false))
    | _ => false)
  | _ => false) = true := by decide +kernel
