/-! THE LAW'S TURNS, 0 (printed by wip/whole/gen_turn.py) -/
theorem lg_self {v : Int64} : lg_cmp v v = 0 := by
  unfold lg_cmp
  simp
/-- a case of the law, from its first instruction to the loop's end: class and model alike again -/
def TN (D pc : Nat) : Prop := ∀ (n : Nat) (I : Nat → Nat → Int32) (L : Nat → Nat → Int64) (R : Nat → Nat → Option Nat) (nc ns : Nat) (nx : Bool) (T c N w t p : Nat) (l5 l6 : Option Value) (x : Int32), REL T c N w t p I L R → (inb (x + 1) n ∧ inb (x + 2) n ∧ inb (x + 3) n ∧ inb (x + 4) n ∧ inb (x + 5) n) →
  ∃ (l5' l6' : Option Value) (I2 : Nat → Nat → Int32) (L2 : Nat → Nat → Int64) (R1 : Nat → Nat → Option Nat) (nc1 ns1 : Nat) (nx1 : Bool) (T' c' N' w' t' p' : Nat),
    rf (D + 1) 284 pc [some (.ref 0), some (.ref 2), some (.ref 265), some (.ref 307), some (.int x), l5, l6] [] (SH n, I, L, R, nc, ns, nx) = rf (D + 1) 284 2520 [some (.ref 0), some (.ref 2), some (.ref 265), some (.ref 307), some (.int x), l5', l6'] [] (SH n, I2, L2, R1, nc1, ns1, nx1) ∧
    REL T' c' N' w' t' p' I2 L2 R1 ∧ nc1 ≤ nc + 1 ∧ ns1 ≤ ns + 6 ∧ (∀ k, I2 0 k = I 0 k)
theorem tn0 {D : Nat} (hD : 80 ≤ D) : TN D 216 := by
  intro n I L R nc ns nx T c N w t p l5 l6 x X ⟨q1, q2, q3, q4, q5⟩
  have Y : SAMEB 13 190 [.int (I 0 (x + 1).toNatClampNeg), .int (I 0 (x + 2).toNatClampNeg), .int (I 0 (x + 3).toNatClampNeg), .int (I 0 (x + 4).toNatClampNeg), .int (I 0 (x + 5).toNatClampNeg)] := S0
  obtain ⟨b, I1, I2, L1, L2, R1, nc1, ns1, nx1, T', c', N', w', t', p', h1, h2, h5, h6, h7, h8⟩ := Y n I L R nc ns nx T c N w t p X
  have hk : ∀ j, I1 0 j = I 0 j := kp_cf (h1 0)
  have h1 := h1 (D - 14)
  have h2 := h2 (D - 14)
  rw [show D - 14 + 14 = D by omega] at h1 h2
  refine ⟨l5, l6, I2, L2, R1, nc1, ns1, nx1, T', c', N', w', t', p', ?_, h5, h6, h7, h8⟩
  simp only [e284_216, e284_217, e284_218, e284_220, e284_221, e284_222, e284_223, e284_224, e284_226, e284_227, e284_228, e284_229, e284_230, e284_232, e284_233, e284_234, e284_235, e284_236, e284_238, e284_239, e284_240, e284_241, e284_242, e284_244, e284_245, e284_246, e284_247, e284_250, e284_251, e284_252, e284_254, e284_255, e284_256, e284_257, e284_258, e284_260, e284_261, e284_262, e284_263, e284_264, e284_266, e284_267, e284_268, e284_269, e284_270, e284_272, e284_273, e284_274, e284_275, e284_276, e284_278, e284_279, e284_280, e284_281, e284_284, e284_287, e284_288, rk_n, rk_v, nl_n, nl_i, nl_r, cat_n, ip_cat_int, ip_cat_ref, ip_cat_long, ip_rf_some, Nat.reduceAdd, Nat.reduceLeDiff, Nat.reduceLT, Nat.le_refl, Nat.zero_le, q1, q2, q3, q4, q5, hk, h1, h2, Bool.false_eq_true, Bool.true_eq_false, if_true, if_false, not_true_eq_false, not_false_eq_true, zle, eq_self]
theorem tn1 {D : Nat} (hD : 80 ≤ D) : TN D 289 := by
  intro n I L R nc ns nx T c N w t p l5 l6 x X ⟨q1, q2, q3, q4, q5⟩
  have Y : SAMEB 15 191 [.int (I 0 (x + 1).toNatClampNeg)] := S1_
  obtain ⟨b, I1, I2, L1, L2, R1, nc1, ns1, nx1, T', c', N', w', t', p', h1, h2, h5, h6, h7, h8⟩ := Y n I L R nc ns nx T c N w t p X
  have hk : ∀ j, I1 0 j = I 0 j := kp_cf (h1 0)
  have h1 := h1 (D - 14)
  have h2 := h2 (D - 14)
  rw [show D - 14 + 14 = D by omega] at h1 h2
  refine ⟨l5, l6, I2, L2, R1, nc1, ns1, nx1, T', c', N', w', t', p', ?_, h5, h6, h7, h8⟩
  simp only [e284_289, e284_290, e284_291, e284_293, e284_294, e284_295, e284_296, e284_299, e284_300, e284_301, e284_303, e284_304, e284_305, e284_306, e284_309, e284_312, e284_313, rk_n, rk_v, nl_n, nl_i, nl_r, cat_n, ip_cat_int, ip_cat_ref, ip_cat_long, ip_rf_some, Nat.reduceAdd, Nat.reduceLeDiff, Nat.reduceLT, Nat.le_refl, Nat.zero_le, q1, q2, q3, q4, q5, hk, h1, h2, Bool.false_eq_true, Bool.true_eq_false, if_true, if_false, not_true_eq_false, not_false_eq_true, zle, eq_self]
theorem tn2 {D : Nat} (hD : 80 ≤ D) : TN D 314 := by
  intro n I L R nc ns nx T c N w t p l5 l6 x X ⟨q1, q2, q3, q4, q5⟩
  have Y : SAMEXD 36 192 [] Int32.toInt64 := S2
  obtain ⟨code, b, I1, I2, L1, L2, R1, nc1, ns1, nx1, T', c', N', w', t', p', h1, h2, h3, h4, h5, h6, h7, h8⟩ := Y n I L R nc ns nx T c N w t p X
  have hk : ∀ j, I1 0 j = I 0 j := kp_cf (h1 0)
  have h1 := h1 (D - 80)
  have h2 := h2 (D - 80)
  rw [show D - 80 + 80 = D by omega] at h1 h2
  simp only [List.cons_append, List.nil_append] at h1
  refine ⟨some (.int code), some (.int b), I2, L2, R1, nc1, ns1, nx1, T', c', N', w', t', p', ?_, h5, h6, h7, h8⟩
  by_cases g : code = 0
  · have h4 := h4 g; subst g
    simp only [e284_314, e284_315, e284_316, e284_319, e284_321, e284_322, e284_325, e284_327, e284_328, e284_331, e284_333, e284_336, e284_337, e284_338, e284_340, e284_343, e284_344, e284_345, e284_346, e284_348, e284_349, e284_350, e284_353, e284_354, e284_355, rk_n, rk_v, nl_n, nl_i, nl_r, cat_n, ip_cat_int, ip_cat_ref, ip_cat_long, ip_rf_some, Nat.reduceAdd, Nat.reduceLeDiff, Nat.reduceLT, Nat.le_refl, Nat.zero_le, q1, q2, q3, q4, q5, hk, h1, h2, c189, h3, h4, lg_self, ia_lit, inbL, tnL, Bool.false_eq_true, Bool.true_eq_false, if_true, if_false, not_true_eq_false, not_false_eq_true, zle, eq_self]
  · simp only [e284_314, e284_315, e284_316, e284_319, e284_321, e284_322, e284_325, e284_327, e284_328, e284_331, e284_333, e284_336, e284_337, e284_338, e284_340, e284_343, e284_344, e284_345, e284_346, e284_348, e284_349, e284_350, e284_353, e284_354, e284_355, rk_n, rk_v, nl_n, nl_i, nl_r, cat_n, ip_cat_int, ip_cat_ref, ip_cat_long, ip_rf_some, Nat.reduceAdd, Nat.reduceLeDiff, Nat.reduceLT, Nat.le_refl, Nat.zero_le, q1, q2, q3, q4, q5, hk, h1, h2, c189, h3, g, Bool.false_eq_true, Bool.true_eq_false, if_true, if_false, not_true_eq_false, not_false_eq_true, zle, eq_self]
theorem tn3 {D : Nat} (hD : 80 ≤ D) : TN D 358 := by
  intro n I L R nc ns nx T c N w t p l5 l6 x X ⟨q1, q2, q3, q4, q5⟩
  have Y : SAMEB 16 214 [] := S3
  obtain ⟨b, I1, I2, L1, L2, R1, nc1, ns1, nx1, T', c', N', w', t', p', h1, h2, h5, h6, h7, h8⟩ := Y n I L R nc ns nx T c N w t p X
  have hk : ∀ j, I1 0 j = I 0 j := kp_cf (h1 0)
  have h1 := h1 (D - 14)
  have h2 := h2 (D - 14)
  rw [show D - 14 + 14 = D by omega] at h1 h2
  refine ⟨l5, l6, I2, L2, R1, nc1, ns1, nx1, T', c', N', w', t', p', ?_, h5, h6, h7, h8⟩
  simp only [e284_358, e284_359, e284_362, e284_363, e284_366, e284_369, e284_370, rk_n, rk_v, nl_n, nl_i, nl_r, cat_n, ip_cat_int, ip_cat_ref, ip_cat_long, ip_rf_some, Nat.reduceAdd, Nat.reduceLeDiff, Nat.reduceLT, Nat.le_refl, Nat.zero_le, q1, q2, q3, q4, q5, hk, h1, h2, Bool.false_eq_true, Bool.true_eq_false, if_true, if_false, not_true_eq_false, not_false_eq_true, zle, eq_self]
theorem tn4 {D : Nat} (hD : 80 ≤ D) : TN D 371 := by
  intro n I L R nc ns nx T c N w t p l5 l6 x X ⟨q1, q2, q3, q4, q5⟩
  have Y : SAMEX 73 215 [.int (I 0 (x + 1).toNatClampNeg), .int (I 0 (x + 2).toNatClampNeg)] Int32.toInt64 := S4
  obtain ⟨code, b, I1, I2, L1, L2, R1, nc1, ns1, nx1, T', c', N', w', t', p', h1, h2, h3, h4, h5, h6, h7, h8⟩ := Y n I L R nc ns nx T c N w t p X
  have hk : ∀ j, I1 0 j = I 0 j := kp_cf (h1 0)
  have h1 := h1 (D - 14)
  have h2 := h2 (D - 14)
  rw [show D - 14 + 14 = D by omega] at h1 h2
  simp only [List.cons_append, List.nil_append] at h1
  refine ⟨some (.int code), some (.int b), I2, L2, R1, nc1, ns1, nx1, T', c', N', w', t', p', ?_, h5, h6, h7, h8⟩
  by_cases g : code = 0
  · have h4 := h4 g; subst g
    simp only [e284_371, e284_372, e284_373, e284_375, e284_376, e284_377, e284_378, e284_379, e284_381, e284_382, e284_383, e284_384, e284_385, e284_388, e284_390, e284_391, e284_392, e284_394, e284_395, e284_396, e284_397, e284_398, e284_400, e284_401, e284_402, e284_403, e284_406, e284_408, e284_409, e284_412, e284_414, e284_417, e284_418, e284_419, e284_421, e284_424, e284_425, e284_426, e284_427, e284_429, e284_430, e284_431, e284_434, e284_435, e284_436, rk_n, rk_v, nl_n, nl_i, nl_r, cat_n, ip_cat_int, ip_cat_ref, ip_cat_long, ip_rf_some, Nat.reduceAdd, Nat.reduceLeDiff, Nat.reduceLT, Nat.le_refl, Nat.zero_le, q1, q2, q3, q4, q5, hk, h1, h2, c189, h3, h4, lg_self, ia_lit, inbL, tnL, Bool.false_eq_true, Bool.true_eq_false, if_true, if_false, not_true_eq_false, not_false_eq_true, zle, eq_self]
  · simp only [e284_371, e284_372, e284_373, e284_375, e284_376, e284_377, e284_378, e284_379, e284_381, e284_382, e284_383, e284_384, e284_385, e284_388, e284_390, e284_391, e284_392, e284_394, e284_395, e284_396, e284_397, e284_398, e284_400, e284_401, e284_402, e284_403, e284_406, e284_408, e284_409, e284_412, e284_414, e284_417, e284_418, e284_419, e284_421, e284_424, e284_425, e284_426, e284_427, e284_429, e284_430, e284_431, e284_434, e284_435, e284_436, rk_n, rk_v, nl_n, nl_i, nl_r, cat_n, ip_cat_int, ip_cat_ref, ip_cat_long, ip_rf_some, Nat.reduceAdd, Nat.reduceLeDiff, Nat.reduceLT, Nat.le_refl, Nat.zero_le, q1, q2, q3, q4, q5, hk, h1, h2, c189, h3, g, Bool.false_eq_true, Bool.true_eq_false, if_true, if_false, not_true_eq_false, not_false_eq_true, zle, eq_self]
theorem tn5 {D : Nat} (hD : 80 ≤ D) : TN D 439 := by
  intro n I L R nc ns nx T c N w t p l5 l6 x X ⟨q1, q2, q3, q4, q5⟩
  have Y : SAMEX 76 219 [.int (I 0 (x + 1).toNatClampNeg), .int (I 0 (x + 2).toNatClampNeg)] Int32.toInt64 := S5
  obtain ⟨code, b, I1, I2, L1, L2, R1, nc1, ns1, nx1, T', c', N', w', t', p', h1, h2, h3, h4, h5, h6, h7, h8⟩ := Y n I L R nc ns nx T c N w t p X
  have hk : ∀ j, I1 0 j = I 0 j := kp_cf (h1 0)
  have h1 := h1 (D - 14)
  have h2 := h2 (D - 14)
  rw [show D - 14 + 14 = D by omega] at h1 h2
  simp only [List.cons_append, List.nil_append] at h1
  refine ⟨some (.int code), some (.int b), I2, L2, R1, nc1, ns1, nx1, T', c', N', w', t', p', ?_, h5, h6, h7, h8⟩
  by_cases g : code = 0
  · have h4 := h4 g; subst g
    simp only [e284_439, e284_440, e284_441, e284_443, e284_444, e284_445, e284_446, e284_447, e284_449, e284_450, e284_451, e284_452, e284_453, e284_456, e284_458, e284_459, e284_460, e284_462, e284_463, e284_464, e284_465, e284_466, e284_468, e284_469, e284_470, e284_471, e284_474, e284_476, e284_477, e284_480, e284_482, e284_485, e284_486, e284_487, e284_489, e284_492, e284_493, e284_494, e284_495, e284_497, e284_498, e284_499, e284_502, e284_503, e284_504, rk_n, rk_v, nl_n, nl_i, nl_r, cat_n, ip_cat_int, ip_cat_ref, ip_cat_long, ip_rf_some, Nat.reduceAdd, Nat.reduceLeDiff, Nat.reduceLT, Nat.le_refl, Nat.zero_le, q1, q2, q3, q4, q5, hk, h1, h2, c189, h3, h4, lg_self, ia_lit, inbL, tnL, Bool.false_eq_true, Bool.true_eq_false, if_true, if_false, not_true_eq_false, not_false_eq_true, zle, eq_self]
  · simp only [e284_439, e284_440, e284_441, e284_443, e284_444, e284_445, e284_446, e284_447, e284_449, e284_450, e284_451, e284_452, e284_453, e284_456, e284_458, e284_459, e284_460, e284_462, e284_463, e284_464, e284_465, e284_466, e284_468, e284_469, e284_470, e284_471, e284_474, e284_476, e284_477, e284_480, e284_482, e284_485, e284_486, e284_487, e284_489, e284_492, e284_493, e284_494, e284_495, e284_497, e284_498, e284_499, e284_502, e284_503, e284_504, rk_n, rk_v, nl_n, nl_i, nl_r, cat_n, ip_cat_int, ip_cat_ref, ip_cat_long, ip_rf_some, Nat.reduceAdd, Nat.reduceLeDiff, Nat.reduceLT, Nat.le_refl, Nat.zero_le, q1, q2, q3, q4, q5, hk, h1, h2, c189, h3, g, Bool.false_eq_true, Bool.true_eq_false, if_true, if_false, not_true_eq_false, not_false_eq_true, zle, eq_self]
theorem tn6 {D : Nat} (hD : 80 ≤ D) : TN D 507 := by
  intro n I L R nc ns nx T c N w t p l5 l6 x X ⟨q1, q2, q3, q4, q5⟩
  have Y : SAMEX 78 222 [.int (I 0 (x + 1).toNatClampNeg), .int (I 0 (x + 2).toNatClampNeg)] Int32.toInt64 := S6
  obtain ⟨code, b, I1, I2, L1, L2, R1, nc1, ns1, nx1, T', c', N', w', t', p', h1, h2, h3, h4, h5, h6, h7, h8⟩ := Y n I L R nc ns nx T c N w t p X
  have hk : ∀ j, I1 0 j = I 0 j := kp_cf (h1 0)
  have h1 := h1 (D - 14)
  have h2 := h2 (D - 14)
  rw [show D - 14 + 14 = D by omega] at h1 h2
  simp only [List.cons_append, List.nil_append] at h1
  refine ⟨some (.int code), some (.int b), I2, L2, R1, nc1, ns1, nx1, T', c', N', w', t', p', ?_, h5, h6, h7, h8⟩
  by_cases g : code = 0
  · have h4 := h4 g; subst g
    simp only [e284_507, e284_508, e284_509, e284_511, e284_512, e284_513, e284_514, e284_515, e284_517, e284_518, e284_519, e284_520, e284_521, e284_524, e284_526, e284_527, e284_528, e284_530, e284_531, e284_532, e284_533, e284_534, e284_536, e284_537, e284_538, e284_539, e284_542, e284_544, e284_545, e284_548, e284_550, e284_553, e284_554, e284_555, e284_557, e284_560, e284_561, e284_562, e284_563, e284_565, e284_566, e284_567, e284_570, e284_571, e284_572, rk_n, rk_v, nl_n, nl_i, nl_r, cat_n, ip_cat_int, ip_cat_ref, ip_cat_long, ip_rf_some, Nat.reduceAdd, Nat.reduceLeDiff, Nat.reduceLT, Nat.le_refl, Nat.zero_le, q1, q2, q3, q4, q5, hk, h1, h2, c189, h3, h4, lg_self, ia_lit, inbL, tnL, Bool.false_eq_true, Bool.true_eq_false, if_true, if_false, not_true_eq_false, not_false_eq_true, zle, eq_self]
  · simp only [e284_507, e284_508, e284_509, e284_511, e284_512, e284_513, e284_514, e284_515, e284_517, e284_518, e284_519, e284_520, e284_521, e284_524, e284_526, e284_527, e284_528, e284_530, e284_531, e284_532, e284_533, e284_534, e284_536, e284_537, e284_538, e284_539, e284_542, e284_544, e284_545, e284_548, e284_550, e284_553, e284_554, e284_555, e284_557, e284_560, e284_561, e284_562, e284_563, e284_565, e284_566, e284_567, e284_570, e284_571, e284_572, rk_n, rk_v, nl_n, nl_i, nl_r, cat_n, ip_cat_int, ip_cat_ref, ip_cat_long, ip_rf_some, Nat.reduceAdd, Nat.reduceLeDiff, Nat.reduceLT, Nat.le_refl, Nat.zero_le, q1, q2, q3, q4, q5, hk, h1, h2, c189, h3, g, Bool.false_eq_true, Bool.true_eq_false, if_true, if_false, not_true_eq_false, not_false_eq_true, zle, eq_self]
theorem tn7 {D : Nat} (hD : 80 ≤ D) : TN D 575 := by
  intro n I L R nc ns nx T c N w t p l5 l6 x X ⟨q1, q2, q3, q4, q5⟩
  have Y : SAMEX 82 223 [.int (I 0 (x + 1).toNatClampNeg), .int (I 0 (x + 2).toNatClampNeg), .int (I 0 (x + 3).toNatClampNeg)] Int32.toInt64 := S7
  obtain ⟨code, b, I1, I2, L1, L2, R1, nc1, ns1, nx1, T', c', N', w', t', p', h1, h2, h3, h4, h5, h6, h7, h8⟩ := Y n I L R nc ns nx T c N w t p X
  have hk : ∀ j, I1 0 j = I 0 j := kp_cf (h1 0)
  have h1 := h1 (D - 14)
  have h2 := h2 (D - 14)
  rw [show D - 14 + 14 = D by omega] at h1 h2
  simp only [List.cons_append, List.nil_append] at h1
  refine ⟨some (.int code), some (.int b), I2, L2, R1, nc1, ns1, nx1, T', c', N', w', t', p', ?_, h5, h6, h7, h8⟩
  by_cases g : code = 0
  · have h4 := h4 g; subst g
    simp only [e284_575, e284_576, e284_577, e284_579, e284_580, e284_581, e284_582, e284_583, e284_585, e284_586, e284_587, e284_588, e284_589, e284_591, e284_592, e284_593, e284_594, e284_595, e284_598, e284_600, e284_601, e284_602, e284_604, e284_605, e284_606, e284_607, e284_608, e284_610, e284_611, e284_612, e284_613, e284_614, e284_616, e284_617, e284_618, e284_619, e284_622, e284_624, e284_625, e284_628, e284_630, e284_633, e284_634, e284_635, e284_637, e284_640, e284_641, e284_642, e284_643, e284_645, e284_646, e284_647, e284_650, e284_651, e284_652, rk_n, rk_v, nl_n, nl_i, nl_r, cat_n, ip_cat_int, ip_cat_ref, ip_cat_long, ip_rf_some, Nat.reduceAdd, Nat.reduceLeDiff, Nat.reduceLT, Nat.le_refl, Nat.zero_le, q1, q2, q3, q4, q5, hk, h1, h2, c189, h3, h4, lg_self, ia_lit, inbL, tnL, Bool.false_eq_true, Bool.true_eq_false, if_true, if_false, not_true_eq_false, not_false_eq_true, zle, eq_self]
  · simp only [e284_575, e284_576, e284_577, e284_579, e284_580, e284_581, e284_582, e284_583, e284_585, e284_586, e284_587, e284_588, e284_589, e284_591, e284_592, e284_593, e284_594, e284_595, e284_598, e284_600, e284_601, e284_602, e284_604, e284_605, e284_606, e284_607, e284_608, e284_610, e284_611, e284_612, e284_613, e284_614, e284_616, e284_617, e284_618, e284_619, e284_622, e284_624, e284_625, e284_628, e284_630, e284_633, e284_634, e284_635, e284_637, e284_640, e284_641, e284_642, e284_643, e284_645, e284_646, e284_647, e284_650, e284_651, e284_652, rk_n, rk_v, nl_n, nl_i, nl_r, cat_n, ip_cat_int, ip_cat_ref, ip_cat_long, ip_rf_some, Nat.reduceAdd, Nat.reduceLeDiff, Nat.reduceLT, Nat.le_refl, Nat.zero_le, q1, q2, q3, q4, q5, hk, h1, h2, c189, h3, g, Bool.false_eq_true, Bool.true_eq_false, if_true, if_false, not_true_eq_false, not_false_eq_true, zle, eq_self]
theorem tn8 {D : Nat} (hD : 80 ≤ D) : TN D 655 := by
  intro n I L R nc ns nx T c N w t p l5 l6 x X ⟨q1, q2, q3, q4, q5⟩
  have Y : SAMEX 84 224 [.int (I 0 (x + 1).toNatClampNeg), .int (I 0 (x + 2).toNatClampNeg), .int (I 0 (x + 3).toNatClampNeg)] Int32.toInt64 := S8
  obtain ⟨code, b, I1, I2, L1, L2, R1, nc1, ns1, nx1, T', c', N', w', t', p', h1, h2, h3, h4, h5, h6, h7, h8⟩ := Y n I L R nc ns nx T c N w t p X
  have hk : ∀ j, I1 0 j = I 0 j := kp_cf (h1 0)
  have h1 := h1 (D - 14)
  have h2 := h2 (D - 14)
  rw [show D - 14 + 14 = D by omega] at h1 h2
  simp only [List.cons_append, List.nil_append] at h1
  refine ⟨some (.int code), some (.int b), I2, L2, R1, nc1, ns1, nx1, T', c', N', w', t', p', ?_, h5, h6, h7, h8⟩
  by_cases g : code = 0
  · have h4 := h4 g; subst g
    simp only [e284_655, e284_656, e284_657, e284_659, e284_660, e284_661, e284_662, e284_663, e284_665, e284_666, e284_667, e284_668, e284_669, e284_671, e284_672, e284_673, e284_674, e284_675, e284_678, e284_680, e284_681, e284_682, e284_684, e284_685, e284_686, e284_687, e284_688, e284_690, e284_691, e284_692, e284_693, e284_694, e284_696, e284_697, e284_698, e284_699, e284_702, e284_704, e284_705, e284_708, e284_710, e284_713, e284_714, e284_715, e284_717, e284_720, e284_721, e284_722, e284_723, e284_725, e284_726, e284_727, e284_730, e284_731, e284_732, rk_n, rk_v, nl_n, nl_i, nl_r, cat_n, ip_cat_int, ip_cat_ref, ip_cat_long, ip_rf_some, Nat.reduceAdd, Nat.reduceLeDiff, Nat.reduceLT, Nat.le_refl, Nat.zero_le, q1, q2, q3, q4, q5, hk, h1, h2, c189, h3, h4, lg_self, ia_lit, inbL, tnL, Bool.false_eq_true, Bool.true_eq_false, if_true, if_false, not_true_eq_false, not_false_eq_true, zle, eq_self]
  · simp only [e284_655, e284_656, e284_657, e284_659, e284_660, e284_661, e284_662, e284_663, e284_665, e284_666, e284_667, e284_668, e284_669, e284_671, e284_672, e284_673, e284_674, e284_675, e284_678, e284_680, e284_681, e284_682, e284_684, e284_685, e284_686, e284_687, e284_688, e284_690, e284_691, e284_692, e284_693, e284_694, e284_696, e284_697, e284_698, e284_699, e284_702, e284_704, e284_705, e284_708, e284_710, e284_713, e284_714, e284_715, e284_717, e284_720, e284_721, e284_722, e284_723, e284_725, e284_726, e284_727, e284_730, e284_731, e284_732, rk_n, rk_v, nl_n, nl_i, nl_r, cat_n, ip_cat_int, ip_cat_ref, ip_cat_long, ip_rf_some, Nat.reduceAdd, Nat.reduceLeDiff, Nat.reduceLT, Nat.le_refl, Nat.zero_le, q1, q2, q3, q4, q5, hk, h1, h2, c189, h3, g, Bool.false_eq_true, Bool.true_eq_false, if_true, if_false, not_true_eq_false, not_false_eq_true, zle, eq_self]
theorem tn9 {D : Nat} (hD : 80 ≤ D) : TN D 735 := by
  intro n I L R nc ns nx T c N w t p l5 l6 x X ⟨q1, q2, q3, q4, q5⟩
  have Y : SAMEX 89 227 [.int (I 0 (x + 1).toNatClampNeg), .int (I 0 (x + 2).toNatClampNeg)] zb := S9_
  obtain ⟨code, b, I1, I2, L1, L2, R1, nc1, ns1, nx1, T', c', N', w', t', p', h1, h2, h3, h4, h5, h6, h7, h8⟩ := Y n I L R nc ns nx T c N w t p X
  have hk : ∀ j, I1 0 j = I 0 j := kp_cf (h1 0)
  have h1 := h1 (D - 14)
  have h2 := h2 (D - 14)
  rw [show D - 14 + 14 = D by omega] at h1 h2
  simp only [List.cons_append, List.nil_append] at h1
  refine ⟨some (.int code), some (.int b), I2, L2, R1, nc1, ns1, nx1, T', c', N', w', t', p', ?_, h5, h6, h7, h8⟩
  by_cases g : code = 0
  · have h4 := h4 g; subst g; by_cases g2 : b = 0
    · have h4 := h4; unfold zb at h4; rw [if_pos g2] at h4
      simp only [e284_735, e284_736, e284_737, e284_739, e284_740, e284_741, e284_742, e284_743, e284_745, e284_746, e284_747, e284_748, e284_749, e284_752, e284_754, e284_755, e284_756, e284_758, e284_759, e284_760, e284_761, e284_762, e284_764, e284_765, e284_766, e284_767, e284_770, e284_772, e284_773, e284_776, e284_778, e284_781, e284_782, e284_783, e284_785, e284_788, e284_789, e284_790, e284_791, e284_793, e284_796, e284_797, e284_800, e284_801, e284_802, e284_805, e284_806, e284_807, rk_n, rk_v, nl_n, nl_i, nl_r, cat_n, ip_cat_int, ip_cat_ref, ip_cat_long, ip_rf_some, Nat.reduceAdd, Nat.reduceLeDiff, Nat.reduceLT, Nat.le_refl, Nat.zero_le, q1, q2, q3, q4, q5, hk, h1, h2, c189, h3, h4, g2, lg_self, ia_lit, inbL, tnL, Bool.false_eq_true, Bool.true_eq_false, if_true, if_false, not_true_eq_false, not_false_eq_true, zle, eq_self]
    · have h4 := h4; unfold zb at h4; rw [if_neg g2] at h4
      simp only [e284_735, e284_736, e284_737, e284_739, e284_740, e284_741, e284_742, e284_743, e284_745, e284_746, e284_747, e284_748, e284_749, e284_752, e284_754, e284_755, e284_756, e284_758, e284_759, e284_760, e284_761, e284_762, e284_764, e284_765, e284_766, e284_767, e284_770, e284_772, e284_773, e284_776, e284_778, e284_781, e284_782, e284_783, e284_785, e284_788, e284_789, e284_790, e284_791, e284_793, e284_796, e284_797, e284_800, e284_801, e284_802, e284_805, e284_806, e284_807, rk_n, rk_v, nl_n, nl_i, nl_r, cat_n, ip_cat_int, ip_cat_ref, ip_cat_long, ip_rf_some, Nat.reduceAdd, Nat.reduceLeDiff, Nat.reduceLT, Nat.le_refl, Nat.zero_le, q1, q2, q3, q4, q5, hk, h1, h2, c189, h3, h4, g2, lg_self, ia_lit, inbL, tnL, Bool.false_eq_true, Bool.true_eq_false, if_true, if_false, not_true_eq_false, not_false_eq_true, zle, eq_self]
  · simp only [e284_735, e284_736, e284_737, e284_739, e284_740, e284_741, e284_742, e284_743, e284_745, e284_746, e284_747, e284_748, e284_749, e284_752, e284_754, e284_755, e284_756, e284_758, e284_759, e284_760, e284_761, e284_762, e284_764, e284_765, e284_766, e284_767, e284_770, e284_772, e284_773, e284_776, e284_778, e284_781, e284_782, e284_783, e284_785, e284_788, e284_789, e284_790, e284_791, e284_793, e284_796, e284_797, e284_800, e284_801, e284_802, e284_805, e284_806, e284_807, rk_n, rk_v, nl_n, nl_i, nl_r, cat_n, ip_cat_int, ip_cat_ref, ip_cat_long, ip_rf_some, Nat.reduceAdd, Nat.reduceLeDiff, Nat.reduceLT, Nat.le_refl, Nat.zero_le, q1, q2, q3, q4, q5, hk, h1, h2, c189, h3, g, Bool.false_eq_true, Bool.true_eq_false, if_true, if_false, not_true_eq_false, not_false_eq_true, zle, eq_self]
