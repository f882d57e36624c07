/-! THE RELATION: parts that are kept -/
section RP
variable {n d a b T c s t z o w m p lev k side ap b0 b1 N q : Nat} {I J K : Nat → Nat → Int32} {L L' : Nat → Nat → Int64} {R R' : Nat → Nat → Option Nat} {nc ns : Nat} {nx : Bool} {x y j v : Int32} {P : Nat → Nat → Prop}
theorem RTx_P (X : RTx T c I L R) (H : onlyP P I J) (hP : ∀ a k, ((T ≤ a ∧ a ≤ T + 6) ∨ a = 275 ∨ a = 276 ∨ a = 277 ∨ a = 287 ∨ (a = 265 ∧ (k = 17 ∨ k = 18))) → ¬ P a k) (HL : ∀ a k, (a = T + 6 ∨ a = 274) → L' a k = L a k) (H1 : R' 2 4 = R 2 4) (H2 : R' 4 2 = R 4 2) : RTx T c J L' R' := by
  obtain ⟨y1, y2, y3, y4, y5, y6, y7, y8, y9, y10, y11, y12, y13⟩ := X
  have G : ∀ a k, T ≤ a → a ≤ T + 6 → J a k = I a k := fun a k h1 h2 => H a k (hP a k (Or.inl ⟨h1, h2⟩))
  have G5 : ∀ k, J 275 k = I 275 k := fun k => H _ _ (hP _ _ (by omega))
  have G6 : ∀ k, J 276 k = I 276 k := fun k => H _ _ (hP _ _ (by omega))
  have G7 : ∀ k, J 277 k = I 277 k := fun k => H _ _ (hP _ _ (by omega))
  have G8 : ∀ k, J 287 k = I 287 k := fun k => H _ _ (hP _ _ (by omega))
  have rs : rstI J = rstI I := by funext k; unfold rstI; rw [G6]
  have wl : ∀ s, winL L' T s = winL L T s := by intro s; unfold winL; rw [HL (T + 6) _ (by omega)]
  refine ⟨y1, H1.trans y2, H2.trans y3, y4, by rw [G T 6 (by omega) (by omega)]; exact y5, by rw [H 265 17 (hP _ _ (by omega))]; exact y6, by rw [G T 7 (by omega) (by omega), H 265 18 (hP _ _ (by omega))]; exact y7, ?_, ?_, ?_, ?_, ?_, ?_⟩
  · intro k hk; rw [G (T + 2) k (by omega) (by omega), G5]; exact y8 k hk
  · intro k hk; rw [G (T + 3) k (by omega) (by omega), G6]; exact y9 k hk
  · intro k hk; rw [G (T + 4) k (by omega) (by omega), rs]; exact y10 k hk
  · intro k hk; rw [G (T + 5) k (by omega) (by omega), G7]; exact y11 k hk
  · intro k hk; rw [G8]; unfold wb; rw [wl]; exact y12 k hk
  · intro k hk
    obtain ⟨ls, z1, z2, z3, z4, z5⟩ := y13 k hk
    exact ⟨ls, z1, z2, z3, fun i hi => by rw [G (T + 1) _ (by omega) (by omega)]; exact z4 i hi, by rw [HL 274 k (by omega)]; exact z5⟩
theorem RTa_P (X : RTa t I) (H : onlyP P I J) (hP : ∀ a k, (a = 3 ∨ a = 266 ∨ (a = 2 ∧ k = 1) ∨ (a = 265 ∧ k = 2)) → ¬ P a k) : RTa t J := by
  obtain ⟨y1, y2, y3, y4⟩ := X
  exact ⟨y1, by rw [H 2 1 (hP _ _ (by omega))]; exact y2, by rw [H 265 2 (hP _ _ (by omega))]; exact y3, fun k hk => by rw [H 3 k (hP _ _ (by omega)), H 266 k (hP _ _ (by omega))]; exact y4 k hk⟩
theorem RPa_P (X : RPa p I) (H : onlyP P I J) (hP : ∀ a k, (a = 64 ∨ a = 306 ∨ (a = 63 ∧ k = 1) ∨ (a = 265 ∧ k = 70)) → ¬ P a k) : RPa p J := by
  obtain ⟨y1, y2, y3, y4⟩ := X
  exact ⟨y1, by rw [H 63 1 (hP _ _ (by omega))]; exact y2, by rw [H 265 70 (hP _ _ (by omega))]; exact y3, fun k hk => by rw [H 64 k (hP _ _ (by omega)), H 306 k (hP _ _ (by omega))]; exact y4 k hk⟩
theorem ND_P (hk : k < 40) (X : ND c k I) (H : ∀ a j, ((65 ≤ a ∧ a < 265) ∨ (289 ≤ a ∧ a ≤ 304)) → J a j = I a j) : ND c k J := by
  have A : ∀ i j, i < 40 → J (65 + 5 * i) j = I (65 + 5 * i) j := fun i j hi => H _ _ (by omega)
  have B : ∀ e j, 1 ≤ e → e ≤ 4 → J (65 + 5 * k + e) j = I (65 + 5 * k + e) j := fun e j h1 h2 => H _ _ (by omega)
  have C : ∀ e j, 289 ≤ e → e ≤ 304 → J e j = I e j := fun e j h1 h2 => H _ _ (by omega)
  have C9 : ∀ j, J 289 j = I 289 j := fun j => C 289 j (by omega) (by omega)
  have B1 : ∀ j, J (65 + 5 * k + 1) j = I (65 + 5 * k + 1) j := fun j => B 1 j (by omega) (by omega)
  have B2 : ∀ j, J (65 + 5 * k + 2) j = I (65 + 5 * k + 2) j := fun j => B 2 j (by omega) (by omega)
  have B3 : ∀ j, J (65 + 5 * k + 3) j = I (65 + 5 * k + 3) j := fun j => B 3 j (by omega) (by omega)
  have B4 : ∀ j, J (65 + 5 * k + 4) j = I (65 + 5 * k + 4) j := fun j => B 4 j (by omega) (by omega)
  have Ak : ∀ j, J (65 + 5 * k) j = I (65 + 5 * k) j := fun j => A k j hk
  unfold ND at X ⊢
  rw [C9, Ak, Ak, Ak, Ak, Ak, Ak, Ak, Ak, Ak, Ak, Ak, Ak, C 290 _ (by omega) (by omega), C 291 _ (by omega) (by omega), C 292 _ (by omega) (by omega), C 293 _ (by omega) (by omega), C 294 _ (by omega) (by omega), C 295 _ (by omega) (by omega), C 296 _ (by omega) (by omega), C 297 _ (by omega) (by omega), C 298 _ (by omega) (by omega), C 299 _ (by omega) (by omega)]
  obtain ⟨x1, ⟨x2, x3, x4⟩, x5, x6, x7, x8, x9, x10, x11, x12, x13, x14, x15, x16, x17⟩ := X
  refine ⟨x1, ⟨x2, x3, ?_⟩, x5, x6, x7, x8, x9, x10, x11, x12, x13, x14, x15, ?_, ?_⟩
  · intro h0
    obtain ⟨q, h1, h2, h3⟩ := x4 h0
    exact ⟨q, h1, h2, by rw [A q 11 (by omega)]; exact h3⟩
  · intro s hs
    rw [B1, B2, C 300 _ (by omega) (by omega), C 301 _ (by omega) (by omega)]
    exact x16 s hs
  · intro i hi
    rw [C 302 _ (by omega) (by omega), C 303 _ (by omega) (by omega), C 304 _ (by omega) (by omega), B3, B4]
    refine ⟨(x17 i hi).1, fun h => ?_⟩
    obtain ⟨h1, q, h2, h3, h4, h5⟩ := (x17 i hi).2 h
    exact ⟨h1, q, h2, h3, h4, by rw [C9]; exact h5⟩
/-- a call that changes neither text nor nodes nor what stands elsewhere but what P tells -/
theorem REL_P {w' t' p' : Nat} (X : REL T c N w t p I L R) (H : onlyP P I J) (hP : ∀ a k, P a k → (24 ≤ a ∧ a ≤ 62) ∨ a = 305 ∨ a = 3 ∨ a = 266 ∨ a = 63 ∨ a = 64 ∨ a = 306 ∨ (a = 2 ∧ (k = 1 ∨ k = 7)) ∨ (a = 265 ∧ (scr k ∨ k = 2 ∨ k = 38 ∨ k = 70)))
    (hw : w' < N ∧ J 2 7 = Int32.ofNat w' ∧ J 265 38 = Int32.ofNat w') (ht : RTa t' J) (hp : RPa p' J) : REL T c N w' t' p' J L R := by
  obtain ⟨x1, x2, x3, x4, x5, x6, x7⟩ := X
  have nP : ∀ a k, ¬ ((24 ≤ a ∧ a ≤ 62) ∨ a = 305 ∨ a = 3 ∨ a = 266 ∨ a = 63 ∨ a = 64 ∨ a = 306 ∨ (a = 2 ∧ (k = 1 ∨ k = 7)) ∨ (a = 265 ∧ (scr k ∨ k = 2 ∨ k = 38 ∨ k = 70))) → ¬ P a k := fun a k h e => h (hP a k e)
  have hT := x2.1
  refine ⟨x1, RTx_P x2 H (fun a k h => nP a k (by unfold scr; omega)) (fun _ _ _ => rfl) rfl rfl, ?_, ht, hp, ?_, x7⟩
  · obtain ⟨y1, y2, y3, y4⟩ := x3
    refine ⟨⟨y1.1, y1.2.1, hw.1⟩, by rw [H 2 6 (nP _ _ (by omega)), H 265 37 (nP _ _ (by unfold scr; omega))]; exact y2, hw.2, fun k hk => ND_P (by omega) (y4 k hk) (fun a j h => H a j (nP a j (by omega)))⟩
  · rw [H 2 2 (nP _ _ (by omega)), H 265 5 (nP _ _ (by unfold scr; omega))]; exact x6
end RP
