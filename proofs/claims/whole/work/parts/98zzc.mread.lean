/-! READ: the model's read, its beginning and its end -/
section MR
variable {n d t c s a nm : Nat} {B : Nat → Int32} {f : Nat → List Nat} {sd rs br : Nat → Nat} {K : Nat → Nat → Int32} {L : Nat → Nat → Int64} {R : Nat → Nat → Option Nat} {nc ns : Nat} {nx : Bool} {CS : List CD} {v : Nat → Nat}
theorem br0_m : ∀ i, i < 6 → 1 + 3 * (Int32.ofNat i - Int32.ofNat i / 3 * 3) = Int32.ofNat (br0 i) := by decide
theorem mr_0 (hR : LYR R) (ht : t ≤ 400) (h2 : K 265 2 = Int32.ofNat t) (hb : ∀ i, i < t → K 266 i = B i) : ∃ K1, MSX B t 0 (fun _ => []) (fun _ => 0) (fun _ => 0) br0 false 0 [] 0 K1 L ∧ (∀ D, cf D 192 [.ref 265] (SH n, K, L, R, nc, ns, nx) = rf D 192 70 [some (.ref 265), some (.int (Int32.ofNat 6))] [] (SH n, K1, L, R, nc, ns, nx)) ∧ K1 265 2 = Int32.ofNat 0 ∧ onlyP (fun a k => (a = 265 ∧ 2 ≤ k ∧ k ≤ 9) ∨ a = 270) K K1 := by
  have G0 : ∃ K0, K0 = ip_up (ip_up (ip_up (ip_up (ip_up (ip_up (ip_up (ip_up K 265 3 (Int32.ofNat t)) 265 2 0) 265 4 0) 265 5 (-1)) 265 6 0) 265 7 0) 265 8 0) 265 9 0 := ⟨_, rfl⟩
  obtain ⟨K0, hK0⟩ := G0
  have O0 : onlyP (fun a k => (a = 265 ∧ 2 ≤ k ∧ k ≤ 9) ∨ a = 270) K K0 := by rw [hK0]; exact onlyP_up (onlyP_up (onlyP_up (onlyP_up (onlyP_up (onlyP_up (onlyP_up (onlyP_up onlyP_refl (by omega)) (by omega)) (by omega)) (by omega)) (by omega)) (by omega)) (by omega)) (by omega)
  have A1 := fun D => for_eq (c := 6) (fun k => rf D 192 45 [some (.ref 265), some (.int (Int32.ofNat k))] [] (SH n, gw K0 270 (fun i => Int32.ofNat (br0 i)) k, L, R, nc, ns, nx)) (fun k hk => by
    have g : ((6 : Int32) ≤ Int32.ofNat k) = False := eq_false (fun e => by have := (nu_le (t := 6) (by omega) (by omega)).mp e; omega)
    have e1 : Int32.ofNat k + 1 = Int32.ofNat (k + 1) := nu_add (s := 1)
    have l1 : k < 2147483648 := by omega
    have b0 := br0_m k hk
    rw [← gw_u, e192_45]
    simp only [e192_46, e192_48, e192_51, e192_52, e192_55, e192_56, e192_57, e192_58, e192_59, e192_60, e192_61, e192_62, e192_63, e192_64, e192_67, rk_n, rk_v, nl_n, nl_i, nl_r, cat_n, ip_cat_int, ip_cat_ref, ip_cat_long, ip_rf_some, Nat.reduceAdd, Nat.reduceLeDiff, Nat.reduceLT, Nat.le_refl, Nat.zero_le, hR, g, e1, b0, ia_lit, nu_i, nu_tn, l1, hk, (by decide : ¬ (3 : Int32) = 0), Bool.false_eq_true, Bool.true_eq_false, if_true, if_false, not_true_eq_false, not_false_eq_true, zle, eq_self])
  have G1 : ∃ K1, K1 = gw K0 270 (fun i => Int32.ofNat (br0 i)) 6 := ⟨_, rfl⟩
  obtain ⟨K1, hK1⟩ := G1
  have G : ∀ k, K1 265 k = K0 265 k := fun k => by rw [hK1, gw_o (by decide)]
  refine ⟨K1, ⟨⟨?_, ?_, fun i hi => ?_⟩, by omega, ?_, ?_, fun k hk => by omega, fun k hk => by omega, fun k hk => by omega, fun i hi => ?_, ?_, ⟨?_, by omega⟩, ⟨?_, fun i hi => absurd hi (by simp)⟩, fun _ => ⟨rfl, rfl⟩⟩, fun D => ?_, ?_, ?_⟩
  · rw [G, hK0]; simp only [up_k, up_eq, Nat.reduceEqDiff, not_false_eq_true]
  · rw [G, hK0]; simp only [up_k, up_eq, Nat.reduceEqDiff, not_false_eq_true]; rfl
  · rw [hK1, gw_o (by decide), O0 266 i (by omega)]; exact hb i hi
  · rw [G, hK0]; simp only [up_k, up_eq, Nat.reduceEqDiff, not_false_eq_true]
  · rw [G, hK0]; simp only [up_k, up_eq, Nat.reduceEqDiff, not_false_eq_true]; rfl
  · rw [hK1, gw_i hi]
  · rw [G, hK0]; simp only [up_k, up_eq, Nat.reduceEqDiff, not_false_eq_true]; rfl
  · rw [G, hK0]; simp only [up_k, up_eq, Nat.reduceEqDiff, not_false_eq_true]; rfl
  · rw [G, hK0]; simp only [up_k, up_eq, Nat.reduceEqDiff, not_false_eq_true]; rfl
  · have a1 := A1 D
    try dsimp only at a1
    rw [gw_0, ← hK1] at a1
    have a1 : rf D 192 45 [some (.ref 265), some (.int 0)] [] (SH n, K0, L, R, nc, ns, nx) = _ := a1
    have e : cf D 192 [.ref 265] (SH n, K, L, R, nc, ns, nx) = rf D 192 45 [some (.ref 265), some (.int 0)] [] (SH n, K0, L, R, nc, ns, nx) := by
      rw [hK0]
      simp only [en192, e192_0, e192_1, e192_2, e192_5, e192_8, e192_9, e192_10, e192_13, e192_14, e192_15, e192_18, e192_19, e192_20, e192_23, e192_24, e192_25, e192_28, e192_29, e192_30, e192_33, e192_34, e192_35, e192_38, e192_39, e192_40, e192_43, e192_44, rk_n, rk_v, nl_n, nl_i, nl_r, cat_n, ip_cat_int, ip_cat_ref, ip_cat_long, ip_rf_some, Nat.reduceAdd, Nat.reduceLeDiff, Nat.reduceLT, Nat.le_refl, Nat.zero_le, h2, true_or, or_true, Bool.false_eq_true, Bool.true_eq_false, if_true, if_false, not_true_eq_false, not_false_eq_true, zle, eq_self]
    rw [e, a1, e192_45]
    simp only [e192_46, e192_48, (by decide : ((6 : Int32) ≤ Int32.ofNat 6) = True), Bool.false_eq_true, Bool.true_eq_false, if_true, if_false, not_true_eq_false, not_false_eq_true, zle, eq_self]
  · rw [G, hK0]; simp only [up_k, up_eq, Nat.reduceEqDiff, not_false_eq_true]; rfl
  · intro a k h
    rw [hK1, gw_o (by omega)]
    exact O0 a k h
theorem mr_x {q : Nat} {l1 : Option Value} (hq : q ≤ 400) (h5 : K 265 5 = Int32.ofNat q) : ∀ D, rf D 192 166 [some (.ref 265), l1] [] (SH n, K, L, R, nc, ns, nx) = some (.inl (some (.int 0)), (SH n, ip_up K 265 0 1, L, R, nc, ns, nx)) := by
  intro D
  have f : ¬ Int32.ofNat q = -1 := nm1 hq
  simp only [e192_166, e192_167, e192_168, e192_171, e192_172, e192_175, e192_176, e192_179, e192_180, e192_183, e192_184, e192_187, e192_190, e192_191, h5, f, up_eq, (by decide : ¬ (1 : Int32) ≤ 0), Bool.false_eq_true, Bool.true_eq_false, if_true, if_false, not_true_eq_false, not_false_eq_true, zle, eq_self]
theorem mr_1 {x1 : Int32} (hR : LYR R) (hc8 : c ≤ 8) (hok : okc c CS) (hl : CS.length ≤ 400) (hev : ev CS v) (hv : le1 v) (Y : MSX B t c f sd rs br true nm CS a K L) : ∃ K' L', (∀ D, 6 ≤ D → rf D 192 166 [some (.ref 265), some (.int x1)] [] (SH n, K, L, R, nc, ns, nx) = some (.inl (some (.int (Int32.ofNat c))), (SH n, K', L', R, nc, ns, nx))) ∧ (K' 265 17 = Int32.ofNat c ∧ K' 265 18 = Int32.ofNat nm ∧ K' 265 0 = 0 ∧ K' 265 5 = -1) ∧ (∀ k, k < c → L' 274 k = Int64.ofNat (pck (f k)) ∧ K' 275 k = Int32.ofNat (sd k) ∧ K' 276 k = Int32.ofNat (rs k)) ∧ (∀ i, i < 6 → K' 277 i = Int32.ofNat (br i)) ∧ (∀ s, s < 256 → K' 287 s = if v s = 1 then 0 else 1) ∧ BEG c K' ∧ onlyP (fun a k => (a = 265 ∧ (k = 0 ∨ k = 17 ∨ k = 18 ∨ k = 19 ∨ k = 37 ∨ k = 38)) ∨ (275 ≤ a ∧ a ≤ 280) ∨ (287 ≤ a ∧ a ≤ 304)) K K' ∧ ∀ a k, ¬ a = 274 → L' a k = L a k := by
  obtain ⟨y1, y2, y3, y4, y5, y6, y7, y8, y9, y10, y11, y12⟩ := Y
  have G0 : ∃ K0, K0 = ip_up (ip_up (ip_up (ip_up K 265 0 0) 265 17 (Int32.ofNat c)) 265 18 (Int32.ofNat nm)) 265 19 (Int32.ofNat CS.length) := ⟨_, rfl⟩
  obtain ⟨K0, hK0⟩ := G0
  have O0 : onlyP (fun a k => a = 265 ∧ (k = 0 ∨ k = 17 ∨ k = 18 ∨ k = 19)) K K0 := by rw [hK0]; exact onlyP_up (onlyP_up (onlyP_up (onlyP_up onlyP_refl (by omega)) (by omega)) (by omega)) (by omega)
  have A1 := fun D => for_eq (c := 8) (fun k => rf D 192 218 [some (.ref 265), some (.int (Int32.ofNat k))] [] (SH n, gw (gw K0 275 (fun i => K0 268 i) k) 276 (fun i => K0 269 i) k, gw L 274 (fun i => L 267 i) k, R, nc, ns, nx)) (fun k hk => by
    have g : ((8 : Int32) ≤ Int32.ofNat k) = False := eq_false (fun e => by have := (nu_le (t := 8) (by omega) (by omega)).mp e; omega)
    have e1 : Int32.ofNat k + 1 = Int32.ofNat (k + 1) := nu_add (s := 1)
    have l1 : k < 2147483648 := by omega
    have r1 : gw L 274 (fun i => L 267 i) k 267 k = L 267 k := gw_o (by decide)
    have r2 : gw (gw K0 275 (fun i => K0 268 i) k) 276 (fun i => K0 269 i) k 268 k = K0 268 k := by rw [gw_o (by decide), gw_o (by decide)]
    have r3 : ip_up (gw (gw K0 275 (fun i => K0 268 i) k) 276 (fun i => K0 269 i) k) 275 k (K0 268 k) 269 k = K0 269 k := by rw [up_a (by decide), gw_o (by decide), gw_o (by decide)]
    rw [← gw_u (b := 276), ← gw_u (b := 275), ← gw_u (b := 274), ← gw_c (show ¬ 275 = 276 by decide), e192_218]
    simp only [e192_219, e192_221, e192_224, e192_225, e192_228, e192_229, e192_230, e192_233, e192_234, e192_235, e192_236, e192_237, e192_240, e192_241, e192_242, e192_245, e192_246, e192_247, e192_248, e192_249, e192_252, e192_253, e192_254, e192_257, e192_258, e192_259, e192_260, e192_263, rk_n, rk_v, nl_n, nl_i, nl_r, cat_n, ip_cat_int, ip_cat_ref, ip_cat_long, ip_rf_some, Nat.reduceAdd, Nat.reduceLeDiff, Nat.reduceLT, Nat.le_refl, Nat.zero_le, hR, g, e1, ia_lit, nu_i, nu_tn, l1, hk, r1, r2, r3, Bool.false_eq_true, Bool.true_eq_false, if_true, if_false, not_true_eq_false, not_false_eq_true, zle, eq_self])
  have G1 : ∃ K1, K1 = gw (gw K0 275 (fun i => K0 268 i) 8) 276 (fun i => K0 269 i) 8 := ⟨_, rfl⟩
  obtain ⟨K1, hK1⟩ := G1
  have GL : ∃ L1, L1 = gw L 274 (fun i => L 267 i) 8 := ⟨_, rfl⟩
  obtain ⟨L1, hL1⟩ := GL
  have A2 := fun D => for_eq (c := 6) (fun k => rf D 192 268 [some (.ref 265), some (.int (Int32.ofNat k))] [] (SH n, gw K1 277 (fun i => K1 270 i) k, L1, R, nc, ns, nx)) (fun k hk => by
    have g : ((6 : Int32) ≤ Int32.ofNat k) = False := eq_false (fun e => by have := (nu_le (t := 6) (by omega) (by omega)).mp e; omega)
    have e1 : Int32.ofNat k + 1 = Int32.ofNat (k + 1) := nu_add (s := 1)
    have l1 : k < 2147483648 := by omega
    have r1 : gw K1 277 (fun i => K1 270 i) k 270 k = K1 270 k := gw_o (by decide)
    rw [← gw_u (b := 277), e192_268]
    simp only [e192_269, e192_271, e192_274, e192_275, e192_278, e192_279, e192_280, e192_283, e192_284, e192_285, e192_286, e192_289, rk_n, rk_v, nl_n, nl_i, nl_r, cat_n, ip_cat_int, ip_cat_ref, ip_cat_long, ip_rf_some, Nat.reduceAdd, Nat.reduceLeDiff, Nat.reduceLT, Nat.le_refl, Nat.zero_le, hR, g, e1, ia_lit, nu_i, nu_tn, l1, hk, r1, Bool.false_eq_true, Bool.true_eq_false, if_true, if_false, not_true_eq_false, not_false_eq_true, zle, eq_self])
  have G2 : ∃ K2, K2 = gw K1 277 (fun i => K1 270 i) 6 := ⟨_, rfl⟩
  obtain ⟨K2, hK2⟩ := G2
  have k19 : ∀ w, gw (gw (gw K2 278 (fun i => K2 271 i) w) 279 (fun i => K2 272 i) w) 280 (fun i => K2 273 i) w 265 19 = Int32.ofNat CS.length := fun w => by
    rw [gw_o (by decide), gw_o (by decide), gw_o (by decide), hK2, gw_o (by decide), hK1, gw_o (by decide), gw_o (by decide), hK0, up_eq]
  have A3 := fun D => for_eq (c := CS.length) (fun k => rf D 192 294 [some (.ref 265), some (.int (Int32.ofNat k))] [] (SH n, gw (gw (gw K2 278 (fun i => K2 271 i) k) 279 (fun i => K2 272 i) k) 280 (fun i => K2 273 i) k, L1, R, nc, ns, nx)) (fun k hk => by
    have g : (Int32.ofNat CS.length ≤ Int32.ofNat k) = False := eq_false (fun e => by have := (nu_le (by omega) (by omega)).mp e; omega)
    have e1 : Int32.ofNat k + 1 = Int32.ofNat (k + 1) := nu_add (s := 1)
    have l1 : k < 2147483648 := by omega
    have l2 : k < 420 := by omega
    have r1 : gw (gw (gw K2 278 (fun i => K2 271 i) k) 279 (fun i => K2 272 i) k) 280 (fun i => K2 273 i) k 271 k = K2 271 k := by rw [gw_o (by decide), gw_o (by decide), gw_o (by decide)]
    have r2 : ip_up (gw (gw (gw K2 278 (fun i => K2 271 i) k) 279 (fun i => K2 272 i) k) 280 (fun i => K2 273 i) k) 278 k (K2 271 k) 272 k = K2 272 k := by rw [up_a (by decide), gw_o (by decide), gw_o (by decide), gw_o (by decide)]
    have r3 : ip_up (ip_up (gw (gw (gw K2 278 (fun i => K2 271 i) k) 279 (fun i => K2 272 i) k) 280 (fun i => K2 273 i) k) 278 k (K2 271 k)) 279 k (K2 272 k) 273 k = K2 273 k := by rw [up_a (by decide), up_a (by decide), gw_o (by decide), gw_o (by decide), gw_o (by decide)]
    have q19 := k19 k
    rw [← gw_u (b := 280), ← gw_u (b := 279), ← gw_u (b := 278), ← gw_c (show ¬ 279 = 280 by decide), ← gw_c (show ¬ 278 = 279 by decide), ← gw_c (show ¬ 278 = 280 by decide), e192_294]
    simp only [e192_295, e192_296, e192_299, e192_302, e192_303, e192_306, e192_307, e192_308, e192_311, e192_312, e192_313, e192_314, e192_315, e192_318, e192_319, e192_320, e192_323, e192_324, e192_325, e192_326, e192_327, e192_330, e192_331, e192_332, e192_335, e192_336, e192_337, e192_338, e192_341, rk_n, rk_v, nl_n, nl_i, nl_r, cat_n, ip_cat_int, ip_cat_ref, ip_cat_long, ip_rf_some, Nat.reduceAdd, Nat.reduceLeDiff, Nat.reduceLT, Nat.le_refl, Nat.zero_le, hR, q19, g, e1, ia_lit, nu_i, nu_tn, l1, l2, r1, r2, r3, Bool.false_eq_true, Bool.true_eq_false, if_true, if_false, not_true_eq_false, not_false_eq_true, zle, eq_self])
  have G3 : ∃ K3, K3 = gw (gw (gw K2 278 (fun i => K2 271 i) CS.length) 279 (fun i => K2 272 i) CS.length) 280 (fun i => K2 273 i) CS.length := ⟨_, rfl⟩
  obtain ⟨K3, hK3⟩ := G3
  have H3 : ∀ a k, ¬ (275 ≤ a ∧ a ≤ 280) → K3 a k = K0 a k := fun a k h => by
    rw [hK3, gw_o (by omega), gw_o (by omega), gw_o (by omega), hK2, gw_o (by omega), hK1, gw_o (by omega), gw_o (by omega)]
  have H2 : ∀ a k, ¬ (275 ≤ a ∧ a ≤ 277) → K2 a k = K0 a k := fun a k h => by
    rw [hK2, gw_o (by omega), hK1, gw_o (by omega), gw_o (by omega)]
  have C3 : CDX CS K3 := ⟨by rw [hK3]; exact k19 _, fun i hi => by
    obtain ⟨z1, z2, z3⟩ := y11.2 i hi
    refine ⟨?_, ?_, ?_⟩
    · rw [hK3, gw_o (by decide), gw_o (by decide), gw_i hi, H2 271 i (by omega), O0 271 i (by omega)]; exact z1
    · rw [hK3, gw_o (by decide), gw_i hi, H2 272 i (by omega), O0 272 i (by omega)]; exact z2
    · rw [hK3, gw_i hi, H2 273 i (by omega), O0 273 i (by omega)]; exact z3⟩
  have k17 : K3 265 17 = Int32.ofNat c := by rw [H3 265 17 (by omega), hK0]; simp only [up_k, up_eq, Nat.reduceEqDiff, not_false_eq_true]
  obtain ⟨K4, A4, W4, B4, O4⟩ := c184 (n := n) (L := L1) (nc := nc) (ns := ns) (nx := nx) hR hc8 hok hl hev hv C3 k17
  have H4 : ∀ a k, ¬ ((287 ≤ a ∧ a ≤ 304) ∨ (a = 265 ∧ (k = 37 ∨ k = 38))) → K4 a k = K3 a k := fun a k h => O4 a k h
  refine ⟨K4, L1, fun D hD => ?_, ⟨?_, ?_, ?_, ?_⟩, fun k hk => ⟨?_, ?_, ?_⟩, fun i hi => ?_, W4, B4, ?_, fun a k h => by rw [hL1, gw_o h]⟩
  · have a1 := A1 D
    have a2 := A2 D
    have a3 := A3 D
    try dsimp only at a1 a2 a3
    rw [gw_0, gw_0, gw_0, ← hK1, ← hL1] at a1
    rw [gw_0, ← hK2] at a2
    rw [gw_0, gw_0, gw_0, ← hK3] at a3
    have a1 : rf D 192 218 [some (.ref 265), some (.int 0)] [] (SH n, K0, L, R, nc, ns, nx) = _ := a1
    have a2 : rf D 192 268 [some (.ref 265), some (.int 0)] [] (SH n, K1, L1, R, nc, ns, nx) = _ := a2
    have a3 : rf D 192 294 [some (.ref 265), some (.int 0)] [] (SH n, K2, L1, R, nc, ns, nx) = _ := a3
    have e : rf D 192 166 [some (.ref 265), some (.int x1)] [] (SH n, K, L, R, nc, ns, nx) = rf D 192 218 [some (.ref 265), some (.int 0)] [] (SH n, K0, L, R, nc, ns, nx) := by
      rw [hK0]
      simp only [e192_166, e192_167, e192_168, e192_171, e192_172, e192_175, e192_176, e192_180, e192_183, e192_184, e192_187, e192_192, e192_193, e192_194, e192_197, e192_200, e192_201, e192_202, e192_205, e192_208, e192_209, e192_210, e192_213, e192_216, e192_217, rk_n, rk_v, nl_n, nl_i, nl_r, cat_n, ip_cat_int, ip_cat_ref, ip_cat_long, ip_rf_some, Nat.reduceAdd, Nat.reduceLeDiff, Nat.reduceLT, Nat.le_refl, Nat.zero_le, y3, y4, y10.1, y11.1, up_eq, up_k, Nat.reduceEqDiff, (by decide : (0 : Int32) ≤ 0), Bool.false_eq_true, Bool.true_eq_false, if_true, if_false, not_true_eq_false, not_false_eq_true, zle, eq_self]
    have g19 : K3 265 19 = Int32.ofNat CS.length := C3.1
    have g1 : (Int32.ofNat CS.length ≤ Int32.ofNat CS.length) = True := eq_true Int32.le_rfl
    rw [e, a1, e192_218]
    simp only [e192_219, e192_221, e192_266, e192_267, rk_n, rk_v, nl_n, nl_i, nl_r, cat_n, ip_cat_int, ip_cat_ref, ip_cat_long, ip_rf_some, Nat.reduceAdd, Nat.reduceLeDiff, Nat.reduceLT, Nat.le_refl, Nat.zero_le, (by decide : ((8 : Int32) ≤ Int32.ofNat 8) = True), Bool.false_eq_true, Bool.true_eq_false, if_true, if_false, not_true_eq_false, not_false_eq_true, zle, eq_self]
    rw [a2, e192_268]
    simp only [e192_269, e192_271, e192_292, e192_293, rk_n, rk_v, nl_n, nl_i, nl_r, cat_n, ip_cat_int, ip_cat_ref, ip_cat_long, ip_rf_some, Nat.reduceAdd, Nat.reduceLeDiff, Nat.reduceLT, Nat.le_refl, Nat.zero_le, (by decide : ((6 : Int32) ≤ Int32.ofNat 6) = True), Bool.false_eq_true, Bool.true_eq_false, if_true, if_false, not_true_eq_false, not_false_eq_true, zle, eq_self]
    rw [a3, e192_294]
    obtain ⟨E, rfl⟩ : ∃ E, D = E + 1 := ⟨D - 1, by omega⟩
    have a4 := A4 E (by omega)
    have q17 : K4 265 17 = Int32.ofNat c := by rw [H4 265 17 (by omega)]; exact k17
    simp only [e192_295, e192_296, e192_299, e192_344, e192_345, e192_348, e192_349, e192_352, rk_n, rk_v, nl_n, nl_i, nl_r, cat_n, ip_cat_int, ip_cat_ref, ip_cat_long, ip_rf_some, Nat.reduceAdd, Nat.reduceLeDiff, Nat.reduceLT, Nat.le_refl, Nat.zero_le, g19, g1, a4, q17, Bool.false_eq_true, Bool.true_eq_false, if_true, if_false, not_true_eq_false, not_false_eq_true, zle, eq_self]
  · rw [H4 265 17 (by omega)]; exact k17
  · rw [H4 265 18 (by omega), H3 265 18 (by omega), hK0]; simp only [up_k, up_eq, Nat.reduceEqDiff, not_false_eq_true]
  · rw [H4 265 0 (by omega), H3 265 0 (by omega), hK0]; simp only [up_k, up_eq, Nat.reduceEqDiff, not_false_eq_true]
  · rw [H4 265 5 (by omega), H3 265 5 (by omega), O0 265 5 (by omega)]; exact y3
  · rw [hL1, gw_i (by omega)]; exact (y5 k hk).2.2
  · rw [H4 275 k (by omega), hK3, gw_o (by decide), gw_o (by decide), gw_o (by decide), hK2, gw_o (by decide), hK1, gw_o (by decide), gw_i (by omega), O0 268 k (by omega)]; exact y6 k hk
  · rw [H4 276 k (by omega), hK3, gw_o (by decide), gw_o (by decide), gw_o (by decide), hK2, gw_o (by decide), hK1, gw_i (by omega), O0 269 k (by omega)]; exact y7 k hk
  · rw [H4 277 i (by omega), hK3, gw_o (by decide), gw_o (by decide), gw_o (by decide), hK2, gw_i hi, hK1, gw_o (by decide), gw_o (by decide), O0 270 i (by omega)]; exact y8 i hi
  · intro a k h
    rw [H4 a k (by omega), H3 a k (by omega)]
    exact O0 a k (by omega)
end MR
