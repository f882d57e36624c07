/-! STEPS, 8 (printed by wip/whole/gen_steps.py) -/
section S08
variable {n d a b t : Nat} {l0 l1 l2 l3 l4 l5 l6 l7 l8 l9 l10 l11 l12 l13 : Option Value} {ls : List (Option Value)} {s : List Value} {h : ip_H} {I : Nat → Nat → Int32} {L : Nat → Nat → Int64} {R : Nat → Nat → Option Nat} {nc ns : Nat} {nx : Bool} {x y j z sp dp x0 x1 x2 x3 x4 x5 : Int32} {u v u0 u1 u2 u3 : Int64} {a0 a1 a2 a3 a4 : Nat}
theorem en237 : cf d 237 [.ref a, .int x0, .int x1] h = rf d 237 0 [some (.ref a), some (.int x0), some (.int x1), none, none, none] [] h := rfl
theorem e237_0 : rf d 237 0 [some (.ref a), l1, l2, l3, l4, l5] s h = rf d 237 1 [some (.ref a), l1, l2, l3, l4, l5] (.ref a :: s) h := rf_pure (i := .aload_n 0) (len := 1) (okD_ok (by decide +kernel)) rfl
theorem e237_1 : rf d 237 1 ls (.ref 265 :: s) (SH n, I, L, R, nc, ns, nx) = rf d 237 4 ls (.int (I 265 59) :: s) (SH n, I, L, R, nc, ns, nx) := g_I (idx := 362) (by decide +kernel) ow237 f_8_362 rfl rfl (by decide)
theorem e237_4 : rf d 237 4 ls (.int x :: s) h = if ¬ x = 0 then rf d 237 11 ls s h else rf d 237 7 ls s h := g_if (c := .ne) (off := 7) _ (by decide +kernel) rfl cmp_d
theorem e237_7 : rf d 237 7 [l0, some (.int x), l2, l3, l4, l5] s h = rf d 237 8 [l0, some (.int x), l2, l3, l4, l5] (.int x :: s) h := rf_pure (i := .iload_n 1) (len := 1) (okD_ok (by decide +kernel)) rfl
theorem e237_8 : rf d 237 8 ls s h = rf d 237 12 ls s h := rf_goto ⟨okD_ok (i := .goto (4)) (len := 3) (by decide +kernel), rfl⟩
theorem e237_11 : rf d 237 11 [l0, l1, some (.int x), l3, l4, l5] s h = rf d 237 12 [l0, l1, some (.int x), l3, l4, l5] (.int x :: s) h := rf_pure (i := .iload_n 2) (len := 1) (okD_ok (by decide +kernel)) rfl
theorem e237_12 (hn : ip_nl l2 = true) : rf d 237 12 [l0, l1, l2, l3, l4, l5] (.int x :: s) h = rf d 237 13 [l0, l1, l2, some (.int x), l4, l5] s h := g_sti (i := .istore_n 3) (len := 1) (q := 2) (p := 1) (by decide +kernel) rfl rfl hn
theorem e237_13 : rf d 237 13 [some (.ref a), l1, l2, l3, l4, l5] s h = rf d 237 14 [some (.ref a), l1, l2, l3, l4, l5] (.ref a :: s) h := rf_pure (i := .aload_n 0) (len := 1) (okD_ok (by decide +kernel)) rfl
theorem e237_14 : rf d 237 14 [l0, l1, l2, some (.int x), l4, l5] s h = rf d 237 15 [l0, l1, l2, some (.int x), l4, l5] (.int x :: s) h := rf_pure (i := .iload_n 3) (len := 1) (okD_ok (by decide +kernel)) rfl
theorem e237_15 : rf d 237 15 ls (.int x :: .ref 265 :: s) (SH n, I, L, R, nc, ns, nx) = rf d 237 18 ls s (SH n, ip_up I 265 62 x, L, R, nc, ns, nx) := g_pI (idx := 374) (by decide +kernel) ow237 f_8_374 rfl (by decide +kernel) rfl (by decide)
theorem e237_18 : rf d 237 18 [some (.ref a), l1, l2, l3, l4, l5] s h = rf d 237 19 [some (.ref a), l1, l2, l3, l4, l5] (.ref a :: s) h := rf_pure (i := .aload_n 0) (len := 1) (okD_ok (by decide +kernel)) rfl
theorem e237_19 : rf d 237 19 [some (.ref a), l1, l2, l3, l4, l5] s h = rf d 237 20 [some (.ref a), l1, l2, l3, l4, l5] (.ref a :: s) h := rf_pure (i := .aload_n 0) (len := 1) (okD_ok (by decide +kernel)) rfl
theorem e237_20 : rf d 237 20 [l0, l1, l2, some (.int x), l4, l5] s h = rf d 237 21 [l0, l1, l2, some (.int x), l4, l5] (.int x :: s) h := rf_pure (i := .iload_n 3) (len := 1) (okD_ok (by decide +kernel)) rfl
theorem e237_21 : rf d 237 21 [some (.ref a), l1, l2, l3, l4, l5] s h = rf d 237 22 [some (.ref a), l1, l2, l3, l4, l5] (.ref a :: s) h := rf_pure (i := .aload_n 0) (len := 1) (okD_ok (by decide +kernel)) rfl
theorem e237_22 : rf d 237 22 ls (.ref 265 :: s) (SH n, I, L, R, nc, ns, nx) = rf d 237 25 ls (.int (I 265 58) :: s) (SH n, I, L, R, nc, ns, nx) := g_I (idx := 359) (by decide +kernel) ow237 f_8_359 rfl rfl (by decide)
theorem e237_25 (hcat : ip_cat s ≤ 8) : rf (d + 1) 237 25 ls (.int x1 :: .int x0 :: .ref 265 :: s) (SH n, I, L, R, nc, ns, nx) = rf_k (d + 1) 237 25 ls s (cf d 238 [.ref 265, .int x0, .int x1] (SH n, I, L, R, nc, ns, nx)) := g_cv (idx := 377) (t := 8) [.int x1, .int x0] (by decide +kernel) ow237 ms_8_377 mt_8_377 cy238_8 rfl rfl mL238 rfl rfl (by decide) hcat
theorem e237_28 : rf d 237 28 ls (.int x :: .ref 265 :: s) (SH n, I, L, R, nc, ns, nx) = rf d 237 31 ls s (SH n, ip_up I 265 63 x, L, R, nc, ns, nx) := g_pI (idx := 380) (by decide +kernel) ow237 f_8_380 rfl (by decide +kernel) rfl (by decide)
theorem e237_31 : rf d 237 31 [some (.ref a), l1, l2, l3, l4, l5] s h = rf d 237 32 [some (.ref a), l1, l2, l3, l4, l5] (.ref a :: s) h := rf_pure (i := .aload_n 0) (len := 1) (okD_ok (by decide +kernel)) rfl
theorem e237_32 : rf d 237 32 [some (.ref a), l1, l2, l3, l4, l5] s h = rf d 237 33 [some (.ref a), l1, l2, l3, l4, l5] (.ref a :: s) h := rf_pure (i := .aload_n 0) (len := 1) (okD_ok (by decide +kernel)) rfl
theorem e237_33 : rf d 237 33 ls (.ref 265 :: s) (SH n, I, L, R, nc, ns, nx) = rf d 237 36 ls (.int (I 265 63) :: s) (SH n, I, L, R, nc, ns, nx) := g_I (idx := 380) (by decide +kernel) ow237 f_8_380 rfl rfl (by decide)
theorem e237_36 (hcat : ip_cat s ≤ 8) : rf (d + 1) 237 36 ls (.int x0 :: .ref 265 :: s) (SH n, I, L, R, nc, ns, nx) = rf_k (d + 1) 237 36 ls s (cf d 239 [.ref 265, .int x0] (SH n, I, L, R, nc, ns, nx)) := g_cv (idx := 383) (t := 8) [.int x0] (by decide +kernel) ow237 ms_8_383 mt_8_383 cy239_8 rfl rfl mL239 rfl rfl (by decide) hcat
theorem e237_39 : rf d 237 39 ls s h = rf d 237 40 ls (.int 1 :: s) h := rf_pure (i := .iconst (1)) (len := 1) (okD_ok (by decide +kernel)) rfl
theorem e237_40 : rf d 237 40 [some (.ref a), l1, l2, l3, l4, l5] s h = rf d 237 41 [some (.ref a), l1, l2, l3, l4, l5] (.ref a :: s) h := rf_pure (i := .aload_n 0) (len := 1) (okD_ok (by decide +kernel)) rfl
theorem e237_41 : rf d 237 41 ls (.ref 265 :: s) (SH n, I, L, R, nc, ns, nx) = rf d 237 44 ls (.int (I 265 59) :: s) (SH n, I, L, R, nc, ns, nx) := g_I (idx := 362) (by decide +kernel) ow237 f_8_362 rfl rfl (by decide)
theorem e237_44 : rf d 237 44 ls (.int y :: .int x :: s) h = rf d 237 45 ls (.int (x - y) :: s) h := rf_pure (i := .isub) (len := 1) (okD_ok (by decide +kernel)) rfl
theorem e237_45 (hn : ip_nl l3 = true) : rf d 237 45 [l0, l1, l2, l3, l4, l5] (.int x :: s) h = rf d 237 47 [l0, l1, l2, l3, some (.int x), l5] s h := g_sti (i := .istore 4) (len := 2) (q := 3) (p := 2) (by decide +kernel) rfl rfl hn
theorem e237_47 : rf d 237 47 [some (.ref a), l1, l2, l3, l4, l5] s h = rf d 237 48 [some (.ref a), l1, l2, l3, l4, l5] (.ref a :: s) h := rf_pure (i := .aload_n 0) (len := 1) (okD_ok (by decide +kernel)) rfl
theorem e237_48 : rf d 237 48 [some (.ref a), l1, l2, l3, l4, l5] s h = rf d 237 49 [some (.ref a), l1, l2, l3, l4, l5] (.ref a :: s) h := rf_pure (i := .aload_n 0) (len := 1) (okD_ok (by decide +kernel)) rfl
theorem e237_49 : rf d 237 49 ls (.ref 265 :: s) (SH n, I, L, R, nc, ns, nx) = rf d 237 52 ls (.int (I 265 57) :: s) (SH n, I, L, R, nc, ns, nx) := g_I (idx := 353) (by decide +kernel) ow237 f_8_353 rfl rfl (by decide)
theorem e237_52 : rf d 237 52 [some (.ref a), l1, l2, l3, l4, l5] s h = rf d 237 53 [some (.ref a), l1, l2, l3, l4, l5] (.ref a :: s) h := rf_pure (i := .aload_n 0) (len := 1) (okD_ok (by decide +kernel)) rfl
theorem e237_53 : rf d 237 53 ls (.ref 265 :: s) (SH n, I, L, R, nc, ns, nx) = rf d 237 56 ls (.int (I 265 55) :: s) (SH n, I, L, R, nc, ns, nx) := g_I (idx := 347) (by decide +kernel) ow237 f_8_347 rfl rfl (by decide)
theorem e237_56 (hcat : ip_cat s ≤ 8) : rf (d + 1) 237 56 ls (.int x1 :: .int x0 :: .ref 265 :: s) (SH n, I, L, R, nc, ns, nx) = rf_k (d + 1) 237 56 ls s (cf d 234 [.ref 265, .int x0, .int x1] (SH n, I, L, R, nc, ns, nx)) := g_cv (idx := 339) (t := 8) [.int x1, .int x0] (by decide +kernel) ow237 ms_8_339 mt_8_339 cy234_8 rfl rfl mL234 rfl rfl (by decide) hcat
theorem e237_59 : rf d 237 59 [l0, l1, l2, l3, some (.int x), l5] s h = rf d 237 61 [l0, l1, l2, l3, some (.int x), l5] (.int x :: s) h := rf_pure (i := .iload 4) (len := 2) (okD_ok (by decide +kernel)) rfl
theorem e237_61 : rf d 237 61 ls (.int y :: .int x :: s) h = if ¬ x = y then rf d 237 66 ls s h else rf d 237 64 ls s h := g_ic (c := .ne) (off := 5) _ (by decide +kernel) rfl cmp_d
theorem e237_64 : rf d 237 64 ls s h = rf d 237 65 ls (.int 0 :: s) h := rf_pure (i := .iconst (0)) (len := 1) (okD_ok (by decide +kernel)) rfl
theorem e237_65 : rf d 237 65 ls [.int x] h = some (.inl (some (.int x)), h) := g_ri (by decide +kernel) rt237
theorem e237_66 : rf d 237 66 [some (.ref a), l1, l2, l3, l4, l5] s h = rf d 237 67 [some (.ref a), l1, l2, l3, l4, l5] (.ref a :: s) h := rf_pure (i := .aload_n 0) (len := 1) (okD_ok (by decide +kernel)) rfl
theorem e237_67 : rf d 237 67 [l0, some (.int x), l2, l3, l4, l5] s h = rf d 237 68 [l0, some (.int x), l2, l3, l4, l5] (.int x :: s) h := rf_pure (i := .iload_n 1) (len := 1) (okD_ok (by decide +kernel)) rfl
theorem e237_68 : rf d 237 68 [l0, l1, some (.int x), l3, l4, l5] s h = rf d 237 69 [l0, l1, some (.int x), l3, l4, l5] (.int x :: s) h := rf_pure (i := .iload_n 2) (len := 1) (okD_ok (by decide +kernel)) rfl
theorem e237_69 : rf d 237 69 ls (.int y :: .int x :: s) h = rf d 237 70 ls (.int (x ||| y) :: s) h := rf_pure (i := .ior) (len := 1) (okD_ok (by decide +kernel)) rfl
theorem e237_70 : rf d 237 70 ls (.int x :: .ref 265 :: s) (SH n, I, L, R, nc, ns, nx) = rf d 237 73 ls s (SH n, ip_up I 265 62 x, L, R, nc, ns, nx) := g_pI (idx := 374) (by decide +kernel) ow237 f_8_374 rfl (by decide +kernel) rfl (by decide)
theorem e237_73 : rf d 237 73 [some (.ref a), l1, l2, l3, l4, l5] s h = rf d 237 74 [some (.ref a), l1, l2, l3, l4, l5] (.ref a :: s) h := rf_pure (i := .aload_n 0) (len := 1) (okD_ok (by decide +kernel)) rfl
theorem e237_74 : rf d 237 74 [some (.ref a), l1, l2, l3, l4, l5] s h = rf d 237 75 [some (.ref a), l1, l2, l3, l4, l5] (.ref a :: s) h := rf_pure (i := .aload_n 0) (len := 1) (okD_ok (by decide +kernel)) rfl
theorem e237_75 : rf d 237 75 [some (.ref a), l1, l2, l3, l4, l5] s h = rf d 237 76 [some (.ref a), l1, l2, l3, l4, l5] (.ref a :: s) h := rf_pure (i := .aload_n 0) (len := 1) (okD_ok (by decide +kernel)) rfl
theorem e237_76 : rf d 237 76 ls (.ref 265 :: s) (SH n, I, L, R, nc, ns, nx) = rf d 237 79 ls (.int (I 265 62) :: s) (SH n, I, L, R, nc, ns, nx) := g_I (idx := 374) (by decide +kernel) ow237 f_8_374 rfl rfl (by decide)
theorem e237_79 : rf d 237 79 [some (.ref a), l1, l2, l3, l4, l5] s h = rf d 237 80 [some (.ref a), l1, l2, l3, l4, l5] (.ref a :: s) h := rf_pure (i := .aload_n 0) (len := 1) (okD_ok (by decide +kernel)) rfl
theorem e237_80 : rf d 237 80 ls (.ref 265 :: s) (SH n, I, L, R, nc, ns, nx) = rf d 237 83 ls (.int (I 265 58) :: s) (SH n, I, L, R, nc, ns, nx) := g_I (idx := 359) (by decide +kernel) ow237 f_8_359 rfl rfl (by decide)
theorem e237_83 (hcat : ip_cat s ≤ 8) : rf (d + 1) 237 83 ls (.int x1 :: .int x0 :: .ref 265 :: s) (SH n, I, L, R, nc, ns, nx) = rf_k (d + 1) 237 83 ls s (cf d 238 [.ref 265, .int x0, .int x1] (SH n, I, L, R, nc, ns, nx)) := g_cv (idx := 377) (t := 8) [.int x1, .int x0] (by decide +kernel) ow237 ms_8_377 mt_8_377 cy238_8 rfl rfl mL238 rfl rfl (by decide) hcat
theorem e237_86 : rf d 237 86 ls (.int x :: .ref 265 :: s) (SH n, I, L, R, nc, ns, nx) = rf d 237 89 ls s (SH n, ip_up I 265 63 x, L, R, nc, ns, nx) := g_pI (idx := 380) (by decide +kernel) ow237 f_8_380 rfl (by decide +kernel) rfl (by decide)
theorem e237_89 : rf d 237 89 [some (.ref a), l1, l2, l3, l4, l5] s h = rf d 237 90 [some (.ref a), l1, l2, l3, l4, l5] (.ref a :: s) h := rf_pure (i := .aload_n 0) (len := 1) (okD_ok (by decide +kernel)) rfl
theorem e237_90 : rf d 237 90 [some (.ref a), l1, l2, l3, l4, l5] s h = rf d 237 91 [some (.ref a), l1, l2, l3, l4, l5] (.ref a :: s) h := rf_pure (i := .aload_n 0) (len := 1) (okD_ok (by decide +kernel)) rfl
theorem e237_91 : rf d 237 91 ls (.ref 265 :: s) (SH n, I, L, R, nc, ns, nx) = rf d 237 94 ls (.int (I 265 63) :: s) (SH n, I, L, R, nc, ns, nx) := g_I (idx := 380) (by decide +kernel) ow237 f_8_380 rfl rfl (by decide)
theorem e237_94 (hcat : ip_cat s ≤ 8) : rf (d + 1) 237 94 ls (.int x0 :: .ref 265 :: s) (SH n, I, L, R, nc, ns, nx) = rf_k (d + 1) 237 94 ls s (cf d 239 [.ref 265, .int x0] (SH n, I, L, R, nc, ns, nx)) := g_cv (idx := 383) (t := 8) [.int x0] (by decide +kernel) ow237 ms_8_383 mt_8_383 cy239_8 rfl rfl mL239 rfl rfl (by decide) hcat
theorem e237_97 : rf d 237 97 [some (.ref a), l1, l2, l3, l4, l5] s h = rf d 237 98 [some (.ref a), l1, l2, l3, l4, l5] (.ref a :: s) h := rf_pure (i := .aload_n 0) (len := 1) (okD_ok (by decide +kernel)) rfl
theorem e237_98 : rf d 237 98 [some (.ref a), l1, l2, l3, l4, l5] s h = rf d 237 99 [some (.ref a), l1, l2, l3, l4, l5] (.ref a :: s) h := rf_pure (i := .aload_n 0) (len := 1) (okD_ok (by decide +kernel)) rfl
theorem e237_99 : rf d 237 99 ls (.ref 265 :: s) (SH n, I, L, R, nc, ns, nx) = rf d 237 102 ls (.int (I 265 57) :: s) (SH n, I, L, R, nc, ns, nx) := g_I (idx := 353) (by decide +kernel) ow237 f_8_353 rfl rfl (by decide)
theorem e237_102 : rf d 237 102 [some (.ref a), l1, l2, l3, l4, l5] s h = rf d 237 103 [some (.ref a), l1, l2, l3, l4, l5] (.ref a :: s) h := rf_pure (i := .aload_n 0) (len := 1) (okD_ok (by decide +kernel)) rfl
theorem e237_103 : rf d 237 103 ls (.ref 265 :: s) (SH n, I, L, R, nc, ns, nx) = rf d 237 106 ls (.int (I 265 55) :: s) (SH n, I, L, R, nc, ns, nx) := g_I (idx := 347) (by decide +kernel) ow237 f_8_347 rfl rfl (by decide)
theorem e237_106 (hcat : ip_cat s ≤ 8) : rf (d + 1) 237 106 ls (.int x1 :: .int x0 :: .ref 265 :: s) (SH n, I, L, R, nc, ns, nx) = rf_k (d + 1) 237 106 ls s (cf d 234 [.ref 265, .int x0, .int x1] (SH n, I, L, R, nc, ns, nx)) := g_cv (idx := 339) (t := 8) [.int x1, .int x0] (by decide +kernel) ow237 ms_8_339 mt_8_339 cy234_8 rfl rfl mL234 rfl rfl (by decide) hcat
theorem e237_109 (hn : ip_nl l4 = true) : rf d 237 109 [l0, l1, l2, l3, l4, l5] (.int x :: s) h = rf d 237 111 [l0, l1, l2, l3, l4, some (.int x)] s h := g_sti (i := .istore 5) (len := 2) (q := 4) (p := 2) (by decide +kernel) rfl rfl hn
theorem e237_111 : rf d 237 111 [l0, l1, l2, l3, l4, some (.int x)] s h = rf d 237 113 [l0, l1, l2, l3, l4, some (.int x)] (.int x :: s) h := rf_pure (i := .iload 5) (len := 2) (okD_ok (by decide +kernel)) rfl
theorem e237_113 : rf d 237 113 [l0, l1, l2, l3, some (.int x), l5] s h = rf d 237 115 [l0, l1, l2, l3, some (.int x), l5] (.int x :: s) h := rf_pure (i := .iload 4) (len := 2) (okD_ok (by decide +kernel)) rfl
theorem e237_115 : rf d 237 115 ls (.int y :: .int x :: s) h = if ¬ x = y then rf d 237 122 ls s h else rf d 237 118 ls s h := g_ic (c := .ne) (off := 7) _ (by decide +kernel) rfl cmp_d
theorem e237_118 : rf d 237 118 ls s h = rf d 237 119 ls (.int 1 :: s) h := rf_pure (i := .iconst (1)) (len := 1) (okD_ok (by decide +kernel)) rfl
theorem e237_119 : rf d 237 119 ls s h = rf d 237 133 ls s h := rf_goto ⟨okD_ok (i := .goto (14)) (len := 3) (by decide +kernel), rfl⟩
theorem e237_122 : rf d 237 122 [l0, l1, l2, l3, l4, some (.int x)] s h = rf d 237 124 [l0, l1, l2, l3, l4, some (.int x)] (.int x :: s) h := rf_pure (i := .iload 5) (len := 2) (okD_ok (by decide +kernel)) rfl
theorem e237_124 : rf d 237 124 ls s h = rf d 237 125 ls (.int (-1) :: s) h := rf_pure (i := .iconst (-1)) (len := 1) (okD_ok (by decide +kernel)) rfl
theorem e237_125 : rf d 237 125 ls (.int y :: .int x :: s) h = if ¬ x = y then rf d 237 132 ls s h else rf d 237 128 ls s h := g_ic (c := .ne) (off := 7) _ (by decide +kernel) rfl cmp_d
theorem e237_128 : rf d 237 128 ls s h = rf d 237 129 ls (.int 3 :: s) h := rf_pure (i := .iconst (3)) (len := 1) (okD_ok (by decide +kernel)) rfl
theorem e237_129 : rf d 237 129 ls s h = rf d 237 133 ls s h := rf_goto ⟨okD_ok (i := .goto (4)) (len := 3) (by decide +kernel), rfl⟩
theorem e237_132 : rf d 237 132 ls s h = rf d 237 133 ls (.int 2 :: s) h := rf_pure (i := .iconst (2)) (len := 1) (okD_ok (by decide +kernel)) rfl
theorem e237_133 : rf d 237 133 ls [.int x] h = some (.inl (some (.int x)), h) := g_ri (by decide +kernel) rt237
theorem en238 : cf d 238 [.ref a, .int x0, .int x1] h = rf d 238 0 [some (.ref a), some (.int x0), some (.int x1), none, none] [] h := rfl
theorem e238_0 : rf d 238 0 ls s h = rf d 238 1 ls (.int 0 :: s) h := rf_pure (i := .iconst (0)) (len := 1) (okD_ok (by decide +kernel)) rfl
theorem e238_1 (hn : ip_nl l2 = true) : rf d 238 1 [l0, l1, l2, l3, l4] (.int x :: s) h = rf d 238 2 [l0, l1, l2, some (.int x), l4] s h := g_sti (i := .istore_n 3) (len := 1) (q := 2) (p := 1) (by decide +kernel) rfl rfl hn
theorem e238_2 : rf d 238 2 ls s h = rf d 238 3 ls (.int 0 :: s) h := rf_pure (i := .iconst (0)) (len := 1) (okD_ok (by decide +kernel)) rfl
theorem e238_3 (hn : ip_nl l3 = true) : rf d 238 3 [l0, l1, l2, l3, l4] (.int x :: s) h = rf d 238 5 [l0, l1, l2, l3, some (.int x)] s h := g_sti (i := .istore 4) (len := 2) (q := 3) (p := 2) (by decide +kernel) rfl rfl hn
theorem e238_5 : rf d 238 5 [l0, l1, l2, l3, some (.int x)] s h = rf d 238 7 [l0, l1, l2, l3, some (.int x)] (.int x :: s) h := rf_pure (i := .iload 4) (len := 2) (okD_ok (by decide +kernel)) rfl
theorem e238_7 : rf d 238 7 [some (.ref a), l1, l2, l3, l4] s h = rf d 238 8 [some (.ref a), l1, l2, l3, l4] (.ref a :: s) h := rf_pure (i := .aload_n 0) (len := 1) (okD_ok (by decide +kernel)) rfl
theorem e238_8 : rf d 238 8 ls (.ref 265 :: s) (SH n, I, L, R, nc, ns, nx) = rf d 238 11 ls (.int (I 265 17) :: s) (SH n, I, L, R, nc, ns, nx) := g_I (idx := 291) (by decide +kernel) ow238 f_8_291 rfl rfl (by decide)
theorem e238_11 : rf d 238 11 ls (.int y :: .int x :: s) h = if y ≤ x then rf d 238 72 ls s h else rf d 238 14 ls s h := g_ic (c := .ge) (off := 61) _ (by decide +kernel) rfl cmp_d
theorem e238_14 : rf d 238 14 [l0, some (.int x), l2, l3, l4] s h = rf d 238 15 [l0, some (.int x), l2, l3, l4] (.int x :: s) h := rf_pure (i := .iload_n 1) (len := 1) (okD_ok (by decide +kernel)) rfl
theorem e238_15 : rf d 238 15 [l0, l1, l2, l3, some (.int x)] s h = rf d 238 17 [l0, l1, l2, l3, some (.int x)] (.int x :: s) h := rf_pure (i := .iload 4) (len := 2) (okD_ok (by decide +kernel)) rfl
theorem e238_17 (hcat : ip_cat s ≤ 8) : rf (d + 1) 238 17 ls (.int x1 :: .int x0 :: s) h = rf_k (d + 1) 238 17 ls s (cf d 186 [.int x0, .int x1] h) := g_cs (idx := 234) [.int x1, .int x0] (by decide +kernel) ow238 ms_8_234 mt_8_234 (by decide) rfl mL186 rfl hcat
theorem e238_20 : rf d 238 20 ls (.int x :: s) h = if x = 0 then rf d 238 66 ls s h else rf d 238 23 ls s h := g_if (c := .eq) (off := 46) _ (by decide +kernel) rfl cmp_d
theorem e238_23 : rf d 238 23 [some (.ref a), l1, l2, l3, l4] s h = rf d 238 24 [some (.ref a), l1, l2, l3, l4] (.ref a :: s) h := rf_pure (i := .aload_n 0) (len := 1) (okD_ok (by decide +kernel)) rfl
theorem e238_24 (hR : LYR R) : rf d 238 24 ls (.ref 265 :: s) (SH n, I, L, R, nc, ns, nx) = rf d 238 27 ls (.ref 302 :: s) (SH n, I, L, R, nc, ns, nx) := g_R (idx := 124) (by decide +kernel) ow238 f_8_124 rfl rfl (by decide) (ly_265_52 hR)
theorem e238_27 : rf d 238 27 ls s h = rf d 238 29 ls (.int 8 :: s) h := rf_pure (i := .bipush (8)) (len := 2) (okD_ok (by decide +kernel)) rfl
theorem e238_29 : rf d 238 29 [some (.ref a), l1, l2, l3, l4] s h = rf d 238 30 [some (.ref a), l1, l2, l3, l4] (.ref a :: s) h := rf_pure (i := .aload_n 0) (len := 1) (okD_ok (by decide +kernel)) rfl
theorem e238_30 : rf d 238 30 ls (.ref 265 :: s) (SH n, I, L, R, nc, ns, nx) = rf d 238 33 ls (.int (I 265 38) :: s) (SH n, I, L, R, nc, ns, nx) := g_I (idx := 306) (by decide +kernel) ow238 f_8_306 rfl rfl (by decide)
theorem e238_33 : rf d 238 33 ls (.int y :: .int x :: s) h = rf d 238 34 ls (.int (x * y) :: s) h := rf_pure (i := .imul) (len := 1) (okD_ok (by decide +kernel)) rfl
theorem e238_34 : rf d 238 34 [l0, l1, l2, l3, some (.int x)] s h = rf d 238 36 [l0, l1, l2, l3, some (.int x)] (.int x :: s) h := rf_pure (i := .iload 4) (len := 2) (okD_ok (by decide +kernel)) rfl
theorem e238_36 : rf d 238 36 ls (.int y :: .int x :: s) h = rf d 238 37 ls (.int (x + y) :: s) h := rf_pure (i := .iadd) (len := 1) (okD_ok (by decide +kernel)) rfl
theorem e238_37 (q : ia n a j) : rf d 238 37 ls (.int j :: .ref a :: s) (SH n, I, L, R, nc, ns, nx) = rf d 238 38 ls (.int (I a j.toNatClampNeg) :: s) (SH n, I, L, R, nc, ns, nx) := g_ial (by decide +kernel) q
theorem e238_38 : rf d 238 38 [some (.ref a), l1, l2, l3, l4] s h = rf d 238 39 [some (.ref a), l1, l2, l3, l4] (.ref a :: s) h := rf_pure (i := .aload_n 0) (len := 1) (okD_ok (by decide +kernel)) rfl
theorem e238_39 (hR : LYR R) : rf d 238 39 ls (.ref 265 :: s) (SH n, I, L, R, nc, ns, nx) = rf d 238 42 ls (.ref 277 :: s) (SH n, I, L, R, nc, ns, nx) := g_R (idx := 48) (by decide +kernel) ow238 f_8_48 rfl rfl (by decide) (ly_265_23 hR)
theorem e238_42 : rf d 238 42 ls s h = rf d 238 43 ls (.int 3 :: s) h := rf_pure (i := .iconst (3)) (len := 1) (okD_ok (by decide +kernel)) rfl
theorem e238_43 : rf d 238 43 [l0, l1, some (.int x), l3, l4] s h = rf d 238 44 [l0, l1, some (.int x), l3, l4] (.int x :: s) h := rf_pure (i := .iload_n 2) (len := 1) (okD_ok (by decide +kernel)) rfl
theorem e238_44 : rf d 238 44 ls (.int y :: .int x :: s) h = rf d 238 45 ls (.int (x * y) :: s) h := rf_pure (i := .imul) (len := 1) (okD_ok (by decide +kernel)) rfl
theorem e238_45 : rf d 238 45 ls s h = rf d 238 46 ls (.int 3 :: s) h := rf_pure (i := .iconst (3)) (len := 1) (okD_ok (by decide +kernel)) rfl
theorem e238_46 : rf d 238 46 ls (.int y :: .int x :: s) h = rf d 238 47 ls (.int (x - y) :: s) h := rf_pure (i := .isub) (len := 1) (okD_ok (by decide +kernel)) rfl
theorem e238_47 : rf d 238 47 [some (.ref a), l1, l2, l3, l4] s h = rf d 238 48 [some (.ref a), l1, l2, l3, l4] (.ref a :: s) h := rf_pure (i := .aload_n 0) (len := 1) (okD_ok (by decide +kernel)) rfl
theorem e238_48 (hR : LYR R) : rf d 238 48 ls (.ref 265 :: s) (SH n, I, L, R, nc, ns, nx) = rf d 238 51 ls (.ref 275 :: s) (SH n, I, L, R, nc, ns, nx) := g_R (idx := 42) (by decide +kernel) ow238 f_8_42 rfl rfl (by decide) (ly_265_21 hR)
theorem e238_51 : rf d 238 51 [l0, l1, l2, l3, some (.int x)] s h = rf d 238 53 [l0, l1, l2, l3, some (.int x)] (.int x :: s) h := rf_pure (i := .iload 4) (len := 2) (okD_ok (by decide +kernel)) rfl
theorem e238_53 (q : ia n a j) : rf d 238 53 ls (.int j :: .ref a :: s) (SH n, I, L, R, nc, ns, nx) = rf d 238 54 ls (.int (I a j.toNatClampNeg) :: s) (SH n, I, L, R, nc, ns, nx) := g_ial (by decide +kernel) q
theorem e238_54 : rf d 238 54 ls (.int y :: .int x :: s) h = rf d 238 55 ls (.int (x + y) :: s) h := rf_pure (i := .iadd) (len := 1) (okD_ok (by decide +kernel)) rfl
theorem e238_55 (q : ia n a j) : rf d 238 55 ls (.int j :: .ref a :: s) (SH n, I, L, R, nc, ns, nx) = rf d 238 56 ls (.int (I a j.toNatClampNeg) :: s) (SH n, I, L, R, nc, ns, nx) := g_ial (by decide +kernel) q
theorem e238_56 : rf d 238 56 ls (.int y :: .int x :: s) h = if x < y then rf d 238 66 ls s h else rf d 238 59 ls s h := g_ic (c := .lt) (off := 10) _ (by decide +kernel) rfl cmp_d
theorem e238_59 : rf d 238 59 [l0, l1, l2, some (.int x), l4] s h = rf d 238 60 [l0, l1, l2, some (.int x), l4] (.int x :: s) h := rf_pure (i := .iload_n 3) (len := 1) (okD_ok (by decide +kernel)) rfl
theorem e238_60 : rf d 238 60 ls s h = rf d 238 61 ls (.int 1 :: s) h := rf_pure (i := .iconst (1)) (len := 1) (okD_ok (by decide +kernel)) rfl
theorem e238_61 : rf d 238 61 [l0, l1, l2, l3, some (.int x)] s h = rf d 238 63 [l0, l1, l2, l3, some (.int x)] (.int x :: s) h := rf_pure (i := .iload 4) (len := 2) (okD_ok (by decide +kernel)) rfl
theorem e238_63 : rf d 238 63 ls (.int y :: .int x :: s) h = rf d 238 64 ls (.int (x <<< (y &&& 31)) :: s) h := rf_pure (i := .ishl) (len := 1) (okD_ok (by decide +kernel)) rfl
theorem e238_64 : rf d 238 64 ls (.int y :: .int x :: s) h = rf d 238 65 ls (.int (x ||| y) :: s) h := rf_pure (i := .ior) (len := 1) (okD_ok (by decide +kernel)) rfl
theorem e238_65 (hn : ip_nl l2 = true) : rf d 238 65 [l0, l1, l2, l3, l4] (.int x :: s) h = rf d 238 66 [l0, l1, l2, some (.int x), l4] s h := g_sti (i := .istore_n 3) (len := 1) (q := 2) (p := 1) (by decide +kernel) rfl rfl hn
theorem e238_66 (hn : ip_nl l3 = true) : rf d 238 66 [l0, l1, l2, l3, some (.int x)] s h = rf d 238 69 [l0, l1, l2, l3, some (.int (x + 1))] s h := g_inc (q := 3) (z := 1) (w := 1) (x := x) (by decide) (by decide +kernel) rfl rfl hn
theorem e238_69 : rf d 238 69 ls s h = rf d 238 5 ls s h := rf_goto ⟨okD_ok (i := .goto (-64)) (len := 3) (by decide +kernel), rfl⟩
theorem e238_72 : rf d 238 72 [l0, l1, l2, some (.int x), l4] s h = rf d 238 73 [l0, l1, l2, some (.int x), l4] (.int x :: s) h := rf_pure (i := .iload_n 3) (len := 1) (okD_ok (by decide +kernel)) rfl
theorem e238_73 : rf d 238 73 ls [.int x] h = some (.inl (some (.int x)), h) := g_ri (by decide +kernel) rt238
theorem en239 : cf d 239 [.ref a, .int x0] h = rf d 239 0 [some (.ref a), some (.int x0), none, none] [] h := rfl
theorem e239_0 : rf d 239 0 ls s h = rf d 239 1 ls (.int 0 :: s) h := rf_pure (i := .iconst (0)) (len := 1) (okD_ok (by decide +kernel)) rfl
theorem e239_1 (hn : ip_nl l1 = true) : rf d 239 1 [l0, l1, l2, l3] (.int x :: s) h = rf d 239 2 [l0, l1, some (.int x), l3] s h := g_sti (i := .istore_n 2) (len := 1) (q := 1) (p := 1) (by decide +kernel) rfl rfl hn
theorem e239_2 : rf d 239 2 ls s h = rf d 239 3 ls (.int 0 :: s) h := rf_pure (i := .iconst (0)) (len := 1) (okD_ok (by decide +kernel)) rfl
theorem e239_3 (hn : ip_nl l2 = true) : rf d 239 3 [l0, l1, l2, l3] (.int x :: s) h = rf d 239 4 [l0, l1, l2, some (.int x)] s h := g_sti (i := .istore_n 3) (len := 1) (q := 2) (p := 1) (by decide +kernel) rfl rfl hn
theorem e239_4 : rf d 239 4 [l0, l1, l2, some (.int x)] s h = rf d 239 5 [l0, l1, l2, some (.int x)] (.int x :: s) h := rf_pure (i := .iload_n 3) (len := 1) (okD_ok (by decide +kernel)) rfl
theorem e239_5 : rf d 239 5 [some (.ref a), l1, l2, l3] s h = rf d 239 6 [some (.ref a), l1, l2, l3] (.ref a :: s) h := rf_pure (i := .aload_n 0) (len := 1) (okD_ok (by decide +kernel)) rfl
theorem e239_6 : rf d 239 6 ls (.ref 265 :: s) (SH n, I, L, R, nc, ns, nx) = rf d 239 9 ls (.int (I 265 17) :: s) (SH n, I, L, R, nc, ns, nx) := g_I (idx := 291) (by decide +kernel) ow239 f_8_291 rfl rfl (by decide)
theorem e239_9 : rf d 239 9 ls (.int y :: .int x :: s) h = if y ≤ x then rf d 239 45 ls s h else rf d 239 12 ls s h := g_ic (c := .ge) (off := 36) _ (by decide +kernel) rfl cmp_d
theorem e239_12 : rf d 239 12 [l0, l1, some (.int x), l3] s h = rf d 239 13 [l0, l1, some (.int x), l3] (.int x :: s) h := rf_pure (i := .iload_n 2) (len := 1) (okD_ok (by decide +kernel)) rfl
theorem e239_13 : rf d 239 13 [l0, some (.int x), l2, l3] s h = rf d 239 14 [l0, some (.int x), l2, l3] (.int x :: s) h := rf_pure (i := .iload_n 1) (len := 1) (okD_ok (by decide +kernel)) rfl
theorem e239_14 : rf d 239 14 [l0, l1, l2, some (.int x)] s h = rf d 239 15 [l0, l1, l2, some (.int x)] (.int x :: s) h := rf_pure (i := .iload_n 3) (len := 1) (okD_ok (by decide +kernel)) rfl
theorem e239_15 (hcat : ip_cat s ≤ 8) : rf (d + 1) 239 15 ls (.int x1 :: .int x0 :: s) h = rf_k (d + 1) 239 15 ls s (cf d 186 [.int x0, .int x1] h) := g_cs (idx := 234) [.int x1, .int x0] (by decide +kernel) ow239 ms_8_234 mt_8_234 (by decide) rfl mL186 rfl hcat
theorem e239_18 : rf d 239 18 ls (.int x :: s) h = if x = 0 then rf d 239 36 ls s h else rf d 239 21 ls s h := g_if (c := .eq) (off := 18) _ (by decide +kernel) rfl cmp_d
theorem e239_21 : rf d 239 21 [some (.ref a), l1, l2, l3] s h = rf d 239 22 [some (.ref a), l1, l2, l3] (.ref a :: s) h := rf_pure (i := .aload_n 0) (len := 1) (okD_ok (by decide +kernel)) rfl
theorem e239_22 (hR : LYR R) : rf d 239 22 ls (.ref 265 :: s) (SH n, I, L, R, nc, ns, nx) = rf d 239 25 ls (.ref 275 :: s) (SH n, I, L, R, nc, ns, nx) := g_R (idx := 42) (by decide +kernel) ow239 f_8_42 rfl rfl (by decide) (ly_265_21 hR)
theorem e239_25 : rf d 239 25 [l0, l1, l2, some (.int x)] s h = rf d 239 26 [l0, l1, l2, some (.int x)] (.int x :: s) h := rf_pure (i := .iload_n 3) (len := 1) (okD_ok (by decide +kernel)) rfl
theorem e239_26 (q : ia n a j) : rf d 239 26 ls (.int j :: .ref a :: s) (SH n, I, L, R, nc, ns, nx) = rf d 239 27 ls (.int (I a j.toNatClampNeg) :: s) (SH n, I, L, R, nc, ns, nx) := g_ial (by decide +kernel) q
theorem e239_27 : rf d 239 27 ls (.int x :: s) h = if ¬ x = 0 then rf d 239 36 ls s h else rf d 239 30 ls s h := g_if (c := .ne) (off := 9) _ (by decide +kernel) rfl cmp_d
theorem e239_30 : rf d 239 30 ls s h = rf d 239 31 ls (.int 1 :: s) h := rf_pure (i := .iconst (1)) (len := 1) (okD_ok (by decide +kernel)) rfl
theorem e239_31 : rf d 239 31 [l0, l1, l2, some (.int x)] s h = rf d 239 32 [l0, l1, l2, some (.int x)] (.int x :: s) h := rf_pure (i := .iload_n 3) (len := 1) (okD_ok (by decide +kernel)) rfl
theorem e239_32 : rf d 239 32 ls (.int y :: .int x :: s) h = rf d 239 33 ls (.int (x <<< (y &&& 31)) :: s) h := rf_pure (i := .ishl) (len := 1) (okD_ok (by decide +kernel)) rfl
theorem e239_33 : rf d 239 33 ls s h = rf d 239 37 ls s h := rf_goto ⟨okD_ok (i := .goto (4)) (len := 3) (by decide +kernel), rfl⟩
theorem e239_36 : rf d 239 36 ls s h = rf d 239 37 ls (.int 0 :: s) h := rf_pure (i := .iconst (0)) (len := 1) (okD_ok (by decide +kernel)) rfl
theorem e239_37 : rf d 239 37 ls (.int y :: .int x :: s) h = rf d 239 38 ls (.int (x ||| y) :: s) h := rf_pure (i := .ior) (len := 1) (okD_ok (by decide +kernel)) rfl
theorem e239_38 (hn : ip_nl l1 = true) : rf d 239 38 [l0, l1, l2, l3] (.int x :: s) h = rf d 239 39 [l0, l1, some (.int x), l3] s h := g_sti (i := .istore_n 2) (len := 1) (q := 1) (p := 1) (by decide +kernel) rfl rfl hn
theorem e239_39 (hn : ip_nl l2 = true) : rf d 239 39 [l0, l1, l2, some (.int x)] s h = rf d 239 42 [l0, l1, l2, some (.int (x + 1))] s h := g_inc (q := 2) (z := 1) (w := 1) (x := x) (by decide) (by decide +kernel) rfl rfl hn
theorem e239_42 : rf d 239 42 ls s h = rf d 239 4 ls s h := rf_goto ⟨okD_ok (i := .goto (-38)) (len := 3) (by decide +kernel), rfl⟩
theorem e239_45 : rf d 239 45 [some (.ref a), l1, l2, l3] s h = rf d 239 46 [some (.ref a), l1, l2, l3] (.ref a :: s) h := rf_pure (i := .aload_n 0) (len := 1) (okD_ok (by decide +kernel)) rfl
theorem e239_46 : rf d 239 46 [some (.ref a), l1, l2, l3] s h = rf d 239 47 [some (.ref a), l1, l2, l3] (.ref a :: s) h := rf_pure (i := .aload_n 0) (len := 1) (okD_ok (by decide +kernel)) rfl
theorem e239_47 (hR : LYR R) : rf d 239 47 ls (.ref 265 :: s) (SH n, I, L, R, nc, ns, nx) = rf d 239 50 ls (.ref 293 :: s) (SH n, I, L, R, nc, ns, nx) := g_R (idx := 97) (by decide +kernel) ow239 f_8_97 rfl rfl (by decide) (ly_265_43 hR)
theorem e239_50 : rf d 239 50 [some (.ref a), l1, l2, l3] s h = rf d 239 51 [some (.ref a), l1, l2, l3] (.ref a :: s) h := rf_pure (i := .aload_n 0) (len := 1) (okD_ok (by decide +kernel)) rfl
theorem e239_51 : rf d 239 51 ls (.ref 265 :: s) (SH n, I, L, R, nc, ns, nx) = rf d 239 54 ls (.int (I 265 38) :: s) (SH n, I, L, R, nc, ns, nx) := g_I (idx := 306) (by decide +kernel) ow239 f_8_306 rfl rfl (by decide)
theorem e239_54 (q : ia n a j) : rf d 239 54 ls (.int j :: .ref a :: s) (SH n, I, L, R, nc, ns, nx) = rf d 239 55 ls (.int (I a j.toNatClampNeg) :: s) (SH n, I, L, R, nc, ns, nx) := g_ial (by decide +kernel) q
theorem e239_55 : rf d 239 55 [l0, some (.int x), l2, l3] s h = rf d 239 56 [l0, some (.int x), l2, l3] (.int x :: s) h := rf_pure (i := .iload_n 1) (len := 1) (okD_ok (by decide +kernel)) rfl
theorem e239_56 : rf d 239 56 [l0, l1, some (.int x), l3] s h = rf d 239 57 [l0, l1, some (.int x), l3] (.int x :: s) h := rf_pure (i := .iload_n 2) (len := 1) (okD_ok (by decide +kernel)) rfl
theorem e239_57 : rf d 239 57 ls s h = rf d 239 58 ls (.int (-1) :: s) h := rf_pure (i := .iconst (-1)) (len := 1) (okD_ok (by decide +kernel)) rfl
theorem e239_58 : rf d 239 58 ls (.int y :: .int x :: s) h = rf d 239 59 ls (.int (x ^^^ y) :: s) h := rf_pure (i := .ixor) (len := 1) (okD_ok (by decide +kernel)) rfl
theorem e239_59 : rf d 239 59 ls (.int y :: .int x :: s) h = rf d 239 60 ls (.int (x &&& y) :: s) h := rf_pure (i := .iand) (len := 1) (okD_ok (by decide +kernel)) rfl
theorem e239_60 : rf d 239 60 ls (.int y :: .int x :: s) h = rf d 239 61 ls (.int (x ||| y) :: s) h := rf_pure (i := .ior) (len := 1) (okD_ok (by decide +kernel)) rfl
theorem e239_61 : rf d 239 61 [some (.ref a), l1, l2, l3] s h = rf d 239 62 [some (.ref a), l1, l2, l3] (.ref a :: s) h := rf_pure (i := .aload_n 0) (len := 1) (okD_ok (by decide +kernel)) rfl
theorem e239_62 : rf d 239 62 [l0, some (.int x), l2, l3] s h = rf d 239 63 [l0, some (.int x), l2, l3] (.int x :: s) h := rf_pure (i := .iload_n 1) (len := 1) (okD_ok (by decide +kernel)) rfl
theorem e239_63 (hcat : ip_cat s ≤ 8) : rf (d + 1) 239 63 ls (.int x0 :: .ref 265 :: s) (SH n, I, L, R, nc, ns, nx) = rf_k (d + 1) 239 63 ls s (cf d 218 [.ref 265, .int x0] (SH n, I, L, R, nc, ns, nx)) := g_cv (idx := 322) (t := 8) [.int x0] (by decide +kernel) ow239 ms_8_322 mt_8_322 cy218_8 rfl rfl mL218 rfl rfl (by decide) hcat
theorem e239_66 : rf d 239 66 ls (.int y :: .int x :: s) h = rf d 239 67 ls (.int (x ||| y) :: s) h := rf_pure (i := .ior) (len := 1) (okD_ok (by decide +kernel)) rfl
theorem e239_67 : rf d 239 67 ls (.int x :: .ref 265 :: s) (SH n, I, L, R, nc, ns, nx) = rf d 239 70 ls s (SH n, ip_up I 265 55 x, L, R, nc, ns, nx) := g_pI (idx := 347) (by decide +kernel) ow239 f_8_347 rfl (by decide +kernel) rfl (by decide)
theorem e239_70 : rf d 239 70 [some (.ref a), l1, l2, l3] s h = rf d 239 71 [some (.ref a), l1, l2, l3] (.ref a :: s) h := rf_pure (i := .aload_n 0) (len := 1) (okD_ok (by decide +kernel)) rfl
theorem e239_71 : rf d 239 71 [l0, l1, some (.int x), l3] s h = rf d 239 72 [l0, l1, some (.int x), l3] (.int x :: s) h := rf_pure (i := .iload_n 2) (len := 1) (okD_ok (by decide +kernel)) rfl
theorem e239_72 : rf d 239 72 [some (.ref a), l1, l2, l3] s h = rf d 239 73 [some (.ref a), l1, l2, l3] (.ref a :: s) h := rf_pure (i := .aload_n 0) (len := 1) (okD_ok (by decide +kernel)) rfl
theorem e239_73 : rf d 239 73 ls (.ref 265 :: s) (SH n, I, L, R, nc, ns, nx) = rf d 239 76 ls (.int (I 265 55) :: s) (SH n, I, L, R, nc, ns, nx) := g_I (idx := 347) (by decide +kernel) ow239 f_8_347 rfl rfl (by decide)
theorem e239_76 : rf d 239 76 ls s h = rf d 239 77 ls (.int (-1) :: s) h := rf_pure (i := .iconst (-1)) (len := 1) (okD_ok (by decide +kernel)) rfl
theorem e239_77 : rf d 239 77 ls (.int y :: .int x :: s) h = rf d 239 78 ls (.int (x ^^^ y) :: s) h := rf_pure (i := .ixor) (len := 1) (okD_ok (by decide +kernel)) rfl
theorem e239_78 : rf d 239 78 ls (.int y :: .int x :: s) h = rf d 239 79 ls (.int (x &&& y) :: s) h := rf_pure (i := .iand) (len := 1) (okD_ok (by decide +kernel)) rfl
theorem e239_79 : rf d 239 79 ls (.int x :: .ref 265 :: s) (SH n, I, L, R, nc, ns, nx) = rf d 239 82 ls s (SH n, ip_up I 265 56 x, L, R, nc, ns, nx) := g_pI (idx := 350) (by decide +kernel) ow239 f_8_350 rfl (by decide +kernel) rfl (by decide)
theorem e239_82 : rf d 239 82 [some (.ref a), l1, l2, l3] s h = rf d 239 83 [some (.ref a), l1, l2, l3] (.ref a :: s) h := rf_pure (i := .aload_n 0) (len := 1) (okD_ok (by decide +kernel)) rfl
theorem e239_83 : rf d 239 83 [some (.ref a), l1, l2, l3] s h = rf d 239 84 [some (.ref a), l1, l2, l3] (.ref a :: s) h := rf_pure (i := .aload_n 0) (len := 1) (okD_ok (by decide +kernel)) rfl
theorem e239_84 (hR : LYR R) : rf d 239 84 ls (.ref 265 :: s) (SH n, I, L, R, nc, ns, nx) = rf d 239 87 ls (.ref 296 :: s) (SH n, I, L, R, nc, ns, nx) := g_R (idx := 106) (by decide +kernel) ow239 f_8_106 rfl rfl (by decide) (ly_265_46 hR)
theorem e239_87 : rf d 239 87 [some (.ref a), l1, l2, l3] s h = rf d 239 88 [some (.ref a), l1, l2, l3] (.ref a :: s) h := rf_pure (i := .aload_n 0) (len := 1) (okD_ok (by decide +kernel)) rfl
theorem e239_88 : rf d 239 88 ls (.ref 265 :: s) (SH n, I, L, R, nc, ns, nx) = rf d 239 91 ls (.int (I 265 38) :: s) (SH n, I, L, R, nc, ns, nx) := g_I (idx := 306) (by decide +kernel) ow239 f_8_306 rfl rfl (by decide)
theorem e239_91 (q : ia n a j) : rf d 239 91 ls (.int j :: .ref a :: s) (SH n, I, L, R, nc, ns, nx) = rf d 239 92 ls (.int (I a j.toNatClampNeg) :: s) (SH n, I, L, R, nc, ns, nx) := g_ial (by decide +kernel) q
theorem e239_92 : rf d 239 92 [some (.ref a), l1, l2, l3] s h = rf d 239 93 [some (.ref a), l1, l2, l3] (.ref a :: s) h := rf_pure (i := .aload_n 0) (len := 1) (okD_ok (by decide +kernel)) rfl
theorem e239_93 : rf d 239 93 ls (.ref 265 :: s) (SH n, I, L, R, nc, ns, nx) = rf d 239 96 ls (.int (I 265 56) :: s) (SH n, I, L, R, nc, ns, nx) := g_I (idx := 350) (by decide +kernel) ow239 f_8_350 rfl rfl (by decide)
theorem e239_96 : rf d 239 96 ls (.int y :: .int x :: s) h = rf d 239 97 ls (.int (x ^^^ y) :: s) h := rf_pure (i := .ixor) (len := 1) (okD_ok (by decide +kernel)) rfl
theorem e239_97 : rf d 239 97 [some (.ref a), l1, l2, l3] s h = rf d 239 98 [some (.ref a), l1, l2, l3] (.ref a :: s) h := rf_pure (i := .aload_n 0) (len := 1) (okD_ok (by decide +kernel)) rfl
theorem e239_98 : rf d 239 98 ls (.ref 265 :: s) (SH n, I, L, R, nc, ns, nx) = rf d 239 101 ls (.int (I 265 55) :: s) (SH n, I, L, R, nc, ns, nx) := g_I (idx := 347) (by decide +kernel) ow239 f_8_347 rfl rfl (by decide)
theorem e239_101 : rf d 239 101 ls s h = rf d 239 102 ls (.int (-1) :: s) h := rf_pure (i := .iconst (-1)) (len := 1) (okD_ok (by decide +kernel)) rfl
theorem e239_102 : rf d 239 102 ls (.int y :: .int x :: s) h = rf d 239 103 ls (.int (x ^^^ y) :: s) h := rf_pure (i := .ixor) (len := 1) (okD_ok (by decide +kernel)) rfl
theorem e239_103 : rf d 239 103 ls (.int y :: .int x :: s) h = rf d 239 104 ls (.int (x &&& y) :: s) h := rf_pure (i := .iand) (len := 1) (okD_ok (by decide +kernel)) rfl
theorem e239_104 : rf d 239 104 ls (.int x :: .ref 265 :: s) (SH n, I, L, R, nc, ns, nx) = rf d 239 107 ls s (SH n, ip_up I 265 57 x, L, R, nc, ns, nx) := g_pI (idx := 353) (by decide +kernel) ow239 f_8_353 rfl (by decide +kernel) rfl (by decide)
theorem e239_107 : rf d 239 107 ls [] h = some (.inl none, h) := g_rv (by decide +kernel) rt239
theorem en240 : cf d 240 [.ref a, .int x0, .int x1] h = rf d 240 0 [some (.ref a), some (.int x0), some (.int x1), none] [] h := rfl
theorem e240_0 : rf d 240 0 [some (.ref a), l1, l2, l3] s h = rf d 240 1 [some (.ref a), l1, l2, l3] (.ref a :: s) h := rf_pure (i := .aload_n 0) (len := 1) (okD_ok (by decide +kernel)) rfl
theorem e240_1 (hR : LYR R) : rf d 240 1 ls (.ref 265 :: s) (SH n, I, L, R, nc, ns, nx) = rf d 240 4 ls (.ref 289 :: s) (SH n, I, L, R, nc, ns, nx) := g_R (idx := 85) (by decide +kernel) ow240 f_8_85 rfl rfl (by decide) (ly_265_39 hR)
theorem e240_4 : rf d 240 4 [l0, some (.int x), l2, l3] s h = rf d 240 5 [l0, some (.int x), l2, l3] (.int x :: s) h := rf_pure (i := .iload_n 1) (len := 1) (okD_ok (by decide +kernel)) rfl
theorem e240_5 : rf d 240 5 [l0, l1, some (.int x), l3] s h = rf d 240 6 [l0, l1, some (.int x), l3] (.int x :: s) h := rf_pure (i := .iload_n 2) (len := 1) (okD_ok (by decide +kernel)) rfl
theorem e240_6 (q : ia n a j) : rf d 240 6 ls (.int x :: .int j :: .ref a :: s) (SH n, I, L, R, nc, ns, nx) = rf d 240 7 ls s (SH n, ip_up I a j.toNatClampNeg x, L, R, nc, ns, nx) := g_ias (by decide +kernel) q
theorem e240_7 : rf d 240 7 [some (.ref a), l1, l2, l3] s h = rf d 240 8 [some (.ref a), l1, l2, l3] (.ref a :: s) h := rf_pure (i := .aload_n 0) (len := 1) (okD_ok (by decide +kernel)) rfl
theorem e240_8 (hR : LYR R) : rf d 240 8 ls (.ref 265 :: s) (SH n, I, L, R, nc, ns, nx) = rf d 240 11 ls (.ref 290 :: s) (SH n, I, L, R, nc, ns, nx) := g_R (idx := 88) (by decide +kernel) ow240 f_8_88 rfl rfl (by decide) (ly_265_40 hR)
theorem e240_11 : rf d 240 11 [l0, some (.int x), l2, l3] s h = rf d 240 12 [l0, some (.int x), l2, l3] (.int x :: s) h := rf_pure (i := .iload_n 1) (len := 1) (okD_ok (by decide +kernel)) rfl
theorem e240_12 : rf d 240 12 [some (.ref a), l1, l2, l3] s h = rf d 240 13 [some (.ref a), l1, l2, l3] (.ref a :: s) h := rf_pure (i := .aload_n 0) (len := 1) (okD_ok (by decide +kernel)) rfl
theorem e240_13 : rf d 240 13 ls (.ref 265 :: s) (SH n, I, L, R, nc, ns, nx) = rf d 240 16 ls (.int (I 265 38) :: s) (SH n, I, L, R, nc, ns, nx) := g_I (idx := 306) (by decide +kernel) ow240 f_8_306 rfl rfl (by decide)
theorem e240_16 (q : ia n a j) : rf d 240 16 ls (.int x :: .int j :: .ref a :: s) (SH n, I, L, R, nc, ns, nx) = rf d 240 17 ls s (SH n, ip_up I a j.toNatClampNeg x, L, R, nc, ns, nx) := g_ias (by decide +kernel) q
theorem e240_17 : rf d 240 17 [some (.ref a), l1, l2, l3] s h = rf d 240 18 [some (.ref a), l1, l2, l3] (.ref a :: s) h := rf_pure (i := .aload_n 0) (len := 1) (okD_ok (by decide +kernel)) rfl
theorem e240_18 (hR : LYR R) : rf d 240 18 ls (.ref 265 :: s) (SH n, I, L, R, nc, ns, nx) = rf d 240 21 ls (.ref 291 :: s) (SH n, I, L, R, nc, ns, nx) := g_R (idx := 91) (by decide +kernel) ow240 f_8_91 rfl rfl (by decide) (ly_265_41 hR)
theorem e240_21 : rf d 240 21 [l0, some (.int x), l2, l3] s h = rf d 240 22 [l0, some (.int x), l2, l3] (.int x :: s) h := rf_pure (i := .iload_n 1) (len := 1) (okD_ok (by decide +kernel)) rfl
theorem e240_22 : rf d 240 22 ls s h = rf d 240 23 ls (.int (-1) :: s) h := rf_pure (i := .iconst (-1)) (len := 1) (okD_ok (by decide +kernel)) rfl
theorem e240_23 (q : ia n a j) : rf d 240 23 ls (.int x :: .int j :: .ref a :: s) (SH n, I, L, R, nc, ns, nx) = rf d 240 24 ls s (SH n, ip_up I a j.toNatClampNeg x, L, R, nc, ns, nx) := g_ias (by decide +kernel) q
theorem e240_24 : rf d 240 24 [some (.ref a), l1, l2, l3] s h = rf d 240 25 [some (.ref a), l1, l2, l3] (.ref a :: s) h := rf_pure (i := .aload_n 0) (len := 1) (okD_ok (by decide +kernel)) rfl
theorem e240_25 (hR : LYR R) : rf d 240 25 ls (.ref 265 :: s) (SH n, I, L, R, nc, ns, nx) = rf d 240 28 ls (.ref 292 :: s) (SH n, I, L, R, nc, ns, nx) := g_R (idx := 94) (by decide +kernel) ow240 f_8_94 rfl rfl (by decide) (ly_265_42 hR)
theorem e240_28 : rf d 240 28 [l0, some (.int x), l2, l3] s h = rf d 240 29 [l0, some (.int x), l2, l3] (.int x :: s) h := rf_pure (i := .iload_n 1) (len := 1) (okD_ok (by decide +kernel)) rfl
theorem e240_29 : rf d 240 29 ls s h = rf d 240 30 ls (.int 0 :: s) h := rf_pure (i := .iconst (0)) (len := 1) (okD_ok (by decide +kernel)) rfl
theorem e240_30 (q : ia n a j) : rf d 240 30 ls (.int x :: .int j :: .ref a :: s) (SH n, I, L, R, nc, ns, nx) = rf d 240 31 ls s (SH n, ip_up I a j.toNatClampNeg x, L, R, nc, ns, nx) := g_ias (by decide +kernel) q
theorem e240_31 : rf d 240 31 [some (.ref a), l1, l2, l3] s h = rf d 240 32 [some (.ref a), l1, l2, l3] (.ref a :: s) h := rf_pure (i := .aload_n 0) (len := 1) (okD_ok (by decide +kernel)) rfl
theorem e240_32 (hR : LYR R) : rf d 240 32 ls (.ref 265 :: s) (SH n, I, L, R, nc, ns, nx) = rf d 240 35 ls (.ref 293 :: s) (SH n, I, L, R, nc, ns, nx) := g_R (idx := 97) (by decide +kernel) ow240 f_8_97 rfl rfl (by decide) (ly_265_43 hR)
theorem e240_35 : rf d 240 35 [l0, some (.int x), l2, l3] s h = rf d 240 36 [l0, some (.int x), l2, l3] (.int x :: s) h := rf_pure (i := .iload_n 1) (len := 1) (okD_ok (by decide +kernel)) rfl
theorem e240_36 : rf d 240 36 [some (.ref a), l1, l2, l3] s h = rf d 240 37 [some (.ref a), l1, l2, l3] (.ref a :: s) h := rf_pure (i := .aload_n 0) (len := 1) (okD_ok (by decide +kernel)) rfl
theorem e240_37 (hR : LYR R) : rf d 240 37 ls (.ref 265 :: s) (SH n, I, L, R, nc, ns, nx) = rf d 240 40 ls (.ref 293 :: s) (SH n, I, L, R, nc, ns, nx) := g_R (idx := 97) (by decide +kernel) ow240 f_8_97 rfl rfl (by decide) (ly_265_43 hR)
theorem e240_40 : rf d 240 40 [some (.ref a), l1, l2, l3] s h = rf d 240 41 [some (.ref a), l1, l2, l3] (.ref a :: s) h := rf_pure (i := .aload_n 0) (len := 1) (okD_ok (by decide +kernel)) rfl
theorem e240_41 : rf d 240 41 ls (.ref 265 :: s) (SH n, I, L, R, nc, ns, nx) = rf d 240 44 ls (.int (I 265 38) :: s) (SH n, I, L, R, nc, ns, nx) := g_I (idx := 306) (by decide +kernel) ow240 f_8_306 rfl rfl (by decide)
theorem e240_44 (q : ia n a j) : rf d 240 44 ls (.int j :: .ref a :: s) (SH n, I, L, R, nc, ns, nx) = rf d 240 45 ls (.int (I a j.toNatClampNeg) :: s) (SH n, I, L, R, nc, ns, nx) := g_ial (by decide +kernel) q
theorem e240_45 (q : ia n a j) : rf d 240 45 ls (.int x :: .int j :: .ref a :: s) (SH n, I, L, R, nc, ns, nx) = rf d 240 46 ls s (SH n, ip_up I a j.toNatClampNeg x, L, R, nc, ns, nx) := g_ias (by decide +kernel) q
theorem e240_46 : rf d 240 46 [some (.ref a), l1, l2, l3] s h = rf d 240 47 [some (.ref a), l1, l2, l3] (.ref a :: s) h := rf_pure (i := .aload_n 0) (len := 1) (okD_ok (by decide +kernel)) rfl
theorem e240_47 (hR : LYR R) : rf d 240 47 ls (.ref 265 :: s) (SH n, I, L, R, nc, ns, nx) = rf d 240 50 ls (.ref 294 :: s) (SH n, I, L, R, nc, ns, nx) := g_R (idx := 100) (by decide +kernel) ow240 f_8_100 rfl rfl (by decide) (ly_265_44 hR)
theorem e240_50 : rf d 240 50 [l0, some (.int x), l2, l3] s h = rf d 240 51 [l0, some (.int x), l2, l3] (.int x :: s) h := rf_pure (i := .iload_n 1) (len := 1) (okD_ok (by decide +kernel)) rfl
theorem e240_51 : rf d 240 51 [some (.ref a), l1, l2, l3] s h = rf d 240 52 [some (.ref a), l1, l2, l3] (.ref a :: s) h := rf_pure (i := .aload_n 0) (len := 1) (okD_ok (by decide +kernel)) rfl
theorem e240_52 (hR : LYR R) : rf d 240 52 ls (.ref 265 :: s) (SH n, I, L, R, nc, ns, nx) = rf d 240 55 ls (.ref 294 :: s) (SH n, I, L, R, nc, ns, nx) := g_R (idx := 100) (by decide +kernel) ow240 f_8_100 rfl rfl (by decide) (ly_265_44 hR)
theorem e240_55 : rf d 240 55 [some (.ref a), l1, l2, l3] s h = rf d 240 56 [some (.ref a), l1, l2, l3] (.ref a :: s) h := rf_pure (i := .aload_n 0) (len := 1) (okD_ok (by decide +kernel)) rfl
theorem e240_56 : rf d 240 56 ls (.ref 265 :: s) (SH n, I, L, R, nc, ns, nx) = rf d 240 59 ls (.int (I 265 38) :: s) (SH n, I, L, R, nc, ns, nx) := g_I (idx := 306) (by decide +kernel) ow240 f_8_306 rfl rfl (by decide)
theorem e240_59 (q : ia n a j) : rf d 240 59 ls (.int j :: .ref a :: s) (SH n, I, L, R, nc, ns, nx) = rf d 240 60 ls (.int (I a j.toNatClampNeg) :: s) (SH n, I, L, R, nc, ns, nx) := g_ial (by decide +kernel) q
theorem e240_60 (q : ia n a j) : rf d 240 60 ls (.int x :: .int j :: .ref a :: s) (SH n, I, L, R, nc, ns, nx) = rf d 240 61 ls s (SH n, ip_up I a j.toNatClampNeg x, L, R, nc, ns, nx) := g_ias (by decide +kernel) q
theorem e240_61 : rf d 240 61 [some (.ref a), l1, l2, l3] s h = rf d 240 62 [some (.ref a), l1, l2, l3] (.ref a :: s) h := rf_pure (i := .aload_n 0) (len := 1) (okD_ok (by decide +kernel)) rfl
theorem e240_62 (hR : LYR R) : rf d 240 62 ls (.ref 265 :: s) (SH n, I, L, R, nc, ns, nx) = rf d 240 65 ls (.ref 295 :: s) (SH n, I, L, R, nc, ns, nx) := g_R (idx := 103) (by decide +kernel) ow240 f_8_103 rfl rfl (by decide) (ly_265_45 hR)
theorem e240_65 : rf d 240 65 [l0, some (.int x), l2, l3] s h = rf d 240 66 [l0, some (.int x), l2, l3] (.int x :: s) h := rf_pure (i := .iload_n 1) (len := 1) (okD_ok (by decide +kernel)) rfl
theorem e240_66 : rf d 240 66 [some (.ref a), l1, l2, l3] s h = rf d 240 67 [some (.ref a), l1, l2, l3] (.ref a :: s) h := rf_pure (i := .aload_n 0) (len := 1) (okD_ok (by decide +kernel)) rfl
theorem e240_67 (hR : LYR R) : rf d 240 67 ls (.ref 265 :: s) (SH n, I, L, R, nc, ns, nx) = rf d 240 70 ls (.ref 295 :: s) (SH n, I, L, R, nc, ns, nx) := g_R (idx := 103) (by decide +kernel) ow240 f_8_103 rfl rfl (by decide) (ly_265_45 hR)
theorem e240_70 : rf d 240 70 [some (.ref a), l1, l2, l3] s h = rf d 240 71 [some (.ref a), l1, l2, l3] (.ref a :: s) h := rf_pure (i := .aload_n 0) (len := 1) (okD_ok (by decide +kernel)) rfl
theorem e240_71 : rf d 240 71 ls (.ref 265 :: s) (SH n, I, L, R, nc, ns, nx) = rf d 240 74 ls (.int (I 265 38) :: s) (SH n, I, L, R, nc, ns, nx) := g_I (idx := 306) (by decide +kernel) ow240 f_8_306 rfl rfl (by decide)
theorem e240_74 (q : ia n a j) : rf d 240 74 ls (.int j :: .ref a :: s) (SH n, I, L, R, nc, ns, nx) = rf d 240 75 ls (.int (I a j.toNatClampNeg) :: s) (SH n, I, L, R, nc, ns, nx) := g_ial (by decide +kernel) q
theorem e240_75 (q : ia n a j) : rf d 240 75 ls (.int x :: .int j :: .ref a :: s) (SH n, I, L, R, nc, ns, nx) = rf d 240 76 ls s (SH n, ip_up I a j.toNatClampNeg x, L, R, nc, ns, nx) := g_ias (by decide +kernel) q
theorem e240_76 : rf d 240 76 [some (.ref a), l1, l2, l3] s h = rf d 240 77 [some (.ref a), l1, l2, l3] (.ref a :: s) h := rf_pure (i := .aload_n 0) (len := 1) (okD_ok (by decide +kernel)) rfl
theorem e240_77 (hR : LYR R) : rf d 240 77 ls (.ref 265 :: s) (SH n, I, L, R, nc, ns, nx) = rf d 240 80 ls (.ref 296 :: s) (SH n, I, L, R, nc, ns, nx) := g_R (idx := 106) (by decide +kernel) ow240 f_8_106 rfl rfl (by decide) (ly_265_46 hR)
theorem e240_80 : rf d 240 80 [l0, some (.int x), l2, l3] s h = rf d 240 81 [l0, some (.int x), l2, l3] (.int x :: s) h := rf_pure (i := .iload_n 1) (len := 1) (okD_ok (by decide +kernel)) rfl
theorem e240_81 : rf d 240 81 [some (.ref a), l1, l2, l3] s h = rf d 240 82 [some (.ref a), l1, l2, l3] (.ref a :: s) h := rf_pure (i := .aload_n 0) (len := 1) (okD_ok (by decide +kernel)) rfl
theorem e240_82 (hR : LYR R) : rf d 240 82 ls (.ref 265 :: s) (SH n, I, L, R, nc, ns, nx) = rf d 240 85 ls (.ref 296 :: s) (SH n, I, L, R, nc, ns, nx) := g_R (idx := 106) (by decide +kernel) ow240 f_8_106 rfl rfl (by decide) (ly_265_46 hR)
theorem e240_85 : rf d 240 85 [some (.ref a), l1, l2, l3] s h = rf d 240 86 [some (.ref a), l1, l2, l3] (.ref a :: s) h := rf_pure (i := .aload_n 0) (len := 1) (okD_ok (by decide +kernel)) rfl
theorem e240_86 : rf d 240 86 ls (.ref 265 :: s) (SH n, I, L, R, nc, ns, nx) = rf d 240 89 ls (.int (I 265 38) :: s) (SH n, I, L, R, nc, ns, nx) := g_I (idx := 306) (by decide +kernel) ow240 f_8_306 rfl rfl (by decide)
theorem e240_89 (q : ia n a j) : rf d 240 89 ls (.int j :: .ref a :: s) (SH n, I, L, R, nc, ns, nx) = rf d 240 90 ls (.int (I a j.toNatClampNeg) :: s) (SH n, I, L, R, nc, ns, nx) := g_ial (by decide +kernel) q
theorem e240_90 (q : ia n a j) : rf d 240 90 ls (.int x :: .int j :: .ref a :: s) (SH n, I, L, R, nc, ns, nx) = rf d 240 91 ls s (SH n, ip_up I a j.toNatClampNeg x, L, R, nc, ns, nx) := g_ias (by decide +kernel) q
theorem e240_91 : rf d 240 91 [some (.ref a), l1, l2, l3] s h = rf d 240 92 [some (.ref a), l1, l2, l3] (.ref a :: s) h := rf_pure (i := .aload_n 0) (len := 1) (okD_ok (by decide +kernel)) rfl
theorem e240_92 (hR : LYR R) : rf d 240 92 ls (.ref 265 :: s) (SH n, I, L, R, nc, ns, nx) = rf d 240 95 ls (.ref 297 :: s) (SH n, I, L, R, nc, ns, nx) := g_R (idx := 109) (by decide +kernel) ow240 f_8_109 rfl rfl (by decide) (ly_265_47 hR)
theorem e240_95 : rf d 240 95 [l0, some (.int x), l2, l3] s h = rf d 240 96 [l0, some (.int x), l2, l3] (.int x :: s) h := rf_pure (i := .iload_n 1) (len := 1) (okD_ok (by decide +kernel)) rfl
theorem e240_96 : rf d 240 96 ls s h = rf d 240 97 ls (.int (-1) :: s) h := rf_pure (i := .iconst (-1)) (len := 1) (okD_ok (by decide +kernel)) rfl
theorem e240_97 (q : ia n a j) : rf d 240 97 ls (.int x :: .int j :: .ref a :: s) (SH n, I, L, R, nc, ns, nx) = rf d 240 98 ls s (SH n, ip_up I a j.toNatClampNeg x, L, R, nc, ns, nx) := g_ias (by decide +kernel) q
theorem e240_98 : rf d 240 98 [some (.ref a), l1, l2, l3] s h = rf d 240 99 [some (.ref a), l1, l2, l3] (.ref a :: s) h := rf_pure (i := .aload_n 0) (len := 1) (okD_ok (by decide +kernel)) rfl
theorem e240_99 (hR : LYR R) : rf d 240 99 ls (.ref 265 :: s) (SH n, I, L, R, nc, ns, nx) = rf d 240 102 ls (.ref 298 :: s) (SH n, I, L, R, nc, ns, nx) := g_R (idx := 112) (by decide +kernel) ow240 f_8_112 rfl rfl (by decide) (ly_265_48 hR)
theorem e240_102 : rf d 240 102 [l0, some (.int x), l2, l3] s h = rf d 240 103 [l0, some (.int x), l2, l3] (.int x :: s) h := rf_pure (i := .iload_n 1) (len := 1) (okD_ok (by decide +kernel)) rfl
theorem e240_103 : rf d 240 103 ls s h = rf d 240 104 ls (.int 0 :: s) h := rf_pure (i := .iconst (0)) (len := 1) (okD_ok (by decide +kernel)) rfl
theorem e240_104 (q : ia n a j) : rf d 240 104 ls (.int x :: .int j :: .ref a :: s) (SH n, I, L, R, nc, ns, nx) = rf d 240 105 ls s (SH n, ip_up I a j.toNatClampNeg x, L, R, nc, ns, nx) := g_ias (by decide +kernel) q
theorem e240_105 : rf d 240 105 [some (.ref a), l1, l2, l3] s h = rf d 240 106 [some (.ref a), l1, l2, l3] (.ref a :: s) h := rf_pure (i := .aload_n 0) (len := 1) (okD_ok (by decide +kernel)) rfl
theorem e240_106 (hR : LYR R) : rf d 240 106 ls (.ref 265 :: s) (SH n, I, L, R, nc, ns, nx) = rf d 240 109 ls (.ref 299 :: s) (SH n, I, L, R, nc, ns, nx) := g_R (idx := 115) (by decide +kernel) ow240 f_8_115 rfl rfl (by decide) (ly_265_49 hR)
theorem e240_109 : rf d 240 109 [l0, some (.int x), l2, l3] s h = rf d 240 110 [l0, some (.int x), l2, l3] (.int x :: s) h := rf_pure (i := .iload_n 1) (len := 1) (okD_ok (by decide +kernel)) rfl
theorem e240_110 : rf d 240 110 ls s h = rf d 240 111 ls (.int 0 :: s) h := rf_pure (i := .iconst (0)) (len := 1) (okD_ok (by decide +kernel)) rfl
theorem e240_111 (q : ia n a j) : rf d 240 111 ls (.int x :: .int j :: .ref a :: s) (SH n, I, L, R, nc, ns, nx) = rf d 240 112 ls s (SH n, ip_up I a j.toNatClampNeg x, L, R, nc, ns, nx) := g_ias (by decide +kernel) q
theorem e240_112 : rf d 240 112 ls s h = rf d 240 113 ls (.int 0 :: s) h := rf_pure (i := .iconst (0)) (len := 1) (okD_ok (by decide +kernel)) rfl
theorem e240_113 (hn : ip_nl l2 = true) : rf d 240 113 [l0, l1, l2, l3] (.int x :: s) h = rf d 240 114 [l0, l1, l2, some (.int x)] s h := g_sti (i := .istore_n 3) (len := 1) (q := 2) (p := 1) (by decide +kernel) rfl rfl hn
theorem e240_114 : rf d 240 114 [l0, l1, l2, some (.int x)] s h = rf d 240 115 [l0, l1, l2, some (.int x)] (.int x :: s) h := rf_pure (i := .iload_n 3) (len := 1) (okD_ok (by decide +kernel)) rfl
theorem e240_115 : rf d 240 115 ls s h = rf d 240 116 ls (.int 2 :: s) h := rf_pure (i := .iconst (2)) (len := 1) (okD_ok (by decide +kernel)) rfl
theorem e240_116 : rf d 240 116 ls (.int y :: .int x :: s) h = if y ≤ x then rf d 240 159 ls s h else rf d 240 119 ls s h := g_ic (c := .ge) (off := 43) _ (by decide +kernel) rfl cmp_d
theorem e240_119 : rf d 240 119 [some (.ref a), l1, l2, l3] s h = rf d 240 120 [some (.ref a), l1, l2, l3] (.ref a :: s) h := rf_pure (i := .aload_n 0) (len := 1) (okD_ok (by decide +kernel)) rfl
theorem e240_120 (hR : LYR R) : rf d 240 120 ls (.ref 265 :: s) (SH n, I, L, R, nc, ns, nx) = rf d 240 123 ls (.ref 300 :: s) (SH n, I, L, R, nc, ns, nx) := g_R (idx := 118) (by decide +kernel) ow240 f_8_118 rfl rfl (by decide) (ly_265_50 hR)
theorem e240_123 : rf d 240 123 ls s h = rf d 240 124 ls (.int 2 :: s) h := rf_pure (i := .iconst (2)) (len := 1) (okD_ok (by decide +kernel)) rfl
theorem e240_124 : rf d 240 124 [l0, some (.int x), l2, l3] s h = rf d 240 125 [l0, some (.int x), l2, l3] (.int x :: s) h := rf_pure (i := .iload_n 1) (len := 1) (okD_ok (by decide +kernel)) rfl
theorem e240_125 : rf d 240 125 ls (.int y :: .int x :: s) h = rf d 240 126 ls (.int (x * y) :: s) h := rf_pure (i := .imul) (len := 1) (okD_ok (by decide +kernel)) rfl
theorem e240_126 : rf d 240 126 [l0, l1, l2, some (.int x)] s h = rf d 240 127 [l0, l1, l2, some (.int x)] (.int x :: s) h := rf_pure (i := .iload_n 3) (len := 1) (okD_ok (by decide +kernel)) rfl
theorem e240_127 : rf d 240 127 ls (.int y :: .int x :: s) h = rf d 240 128 ls (.int (x + y) :: s) h := rf_pure (i := .iadd) (len := 1) (okD_ok (by decide +kernel)) rfl
theorem e240_128 : rf d 240 128 ls s h = rf d 240 129 ls (.int 0 :: s) h := rf_pure (i := .iconst (0)) (len := 1) (okD_ok (by decide +kernel)) rfl
theorem e240_129 (q : ia n a j) : rf d 240 129 ls (.int x :: .int j :: .ref a :: s) (SH n, I, L, R, nc, ns, nx) = rf d 240 130 ls s (SH n, ip_up I a j.toNatClampNeg x, L, R, nc, ns, nx) := g_ias (by decide +kernel) q
theorem e240_130 : rf d 240 130 [some (.ref a), l1, l2, l3] s h = rf d 240 131 [some (.ref a), l1, l2, l3] (.ref a :: s) h := rf_pure (i := .aload_n 0) (len := 1) (okD_ok (by decide +kernel)) rfl
theorem e240_131 (hR : LYR R) : rf d 240 131 ls (.ref 265 :: s) (SH n, I, L, R, nc, ns, nx) = rf d 240 134 ls (.ref 301 :: s) (SH n, I, L, R, nc, ns, nx) := g_R (idx := 121) (by decide +kernel) ow240 f_8_121 rfl rfl (by decide) (ly_265_51 hR)
theorem e240_134 : rf d 240 134 ls s h = rf d 240 135 ls (.int 2 :: s) h := rf_pure (i := .iconst (2)) (len := 1) (okD_ok (by decide +kernel)) rfl
theorem e240_135 : rf d 240 135 [l0, some (.int x), l2, l3] s h = rf d 240 136 [l0, some (.int x), l2, l3] (.int x :: s) h := rf_pure (i := .iload_n 1) (len := 1) (okD_ok (by decide +kernel)) rfl
theorem e240_136 : rf d 240 136 ls (.int y :: .int x :: s) h = rf d 240 137 ls (.int (x * y) :: s) h := rf_pure (i := .imul) (len := 1) (okD_ok (by decide +kernel)) rfl
theorem e240_137 : rf d 240 137 [l0, l1, l2, some (.int x)] s h = rf d 240 138 [l0, l1, l2, some (.int x)] (.int x :: s) h := rf_pure (i := .iload_n 3) (len := 1) (okD_ok (by decide +kernel)) rfl
theorem e240_138 : rf d 240 138 ls (.int y :: .int x :: s) h = rf d 240 139 ls (.int (x + y) :: s) h := rf_pure (i := .iadd) (len := 1) (okD_ok (by decide +kernel)) rfl
theorem e240_139 : rf d 240 139 [some (.ref a), l1, l2, l3] s h = rf d 240 140 [some (.ref a), l1, l2, l3] (.ref a :: s) h := rf_pure (i := .aload_n 0) (len := 1) (okD_ok (by decide +kernel)) rfl
theorem e240_140 (hR : LYR R) : rf d 240 140 ls (.ref 265 :: s) (SH n, I, L, R, nc, ns, nx) = rf d 240 143 ls (.ref 301 :: s) (SH n, I, L, R, nc, ns, nx) := g_R (idx := 121) (by decide +kernel) ow240 f_8_121 rfl rfl (by decide) (ly_265_51 hR)
theorem e240_143 : rf d 240 143 ls s h = rf d 240 144 ls (.int 2 :: s) h := rf_pure (i := .iconst (2)) (len := 1) (okD_ok (by decide +kernel)) rfl
theorem e240_144 : rf d 240 144 [some (.ref a), l1, l2, l3] s h = rf d 240 145 [some (.ref a), l1, l2, l3] (.ref a :: s) h := rf_pure (i := .aload_n 0) (len := 1) (okD_ok (by decide +kernel)) rfl
theorem e240_145 : rf d 240 145 ls (.ref 265 :: s) (SH n, I, L, R, nc, ns, nx) = rf d 240 148 ls (.int (I 265 38) :: s) (SH n, I, L, R, nc, ns, nx) := g_I (idx := 306) (by decide +kernel) ow240 f_8_306 rfl rfl (by decide)
theorem e240_148 : rf d 240 148 ls (.int y :: .int x :: s) h = rf d 240 149 ls (.int (x * y) :: s) h := rf_pure (i := .imul) (len := 1) (okD_ok (by decide +kernel)) rfl
theorem e240_149 : rf d 240 149 [l0, l1, l2, some (.int x)] s h = rf d 240 150 [l0, l1, l2, some (.int x)] (.int x :: s) h := rf_pure (i := .iload_n 3) (len := 1) (okD_ok (by decide +kernel)) rfl
theorem e240_150 : rf d 240 150 ls (.int y :: .int x :: s) h = rf d 240 151 ls (.int (x + y) :: s) h := rf_pure (i := .iadd) (len := 1) (okD_ok (by decide +kernel)) rfl
theorem e240_151 (q : ia n a j) : rf d 240 151 ls (.int j :: .ref a :: s) (SH n, I, L, R, nc, ns, nx) = rf d 240 152 ls (.int (I a j.toNatClampNeg) :: s) (SH n, I, L, R, nc, ns, nx) := g_ial (by decide +kernel) q
theorem e240_152 (q : ia n a j) : rf d 240 152 ls (.int x :: .int j :: .ref a :: s) (SH n, I, L, R, nc, ns, nx) = rf d 240 153 ls s (SH n, ip_up I a j.toNatClampNeg x, L, R, nc, ns, nx) := g_ias (by decide +kernel) q
theorem e240_153 (hn : ip_nl l2 = true) : rf d 240 153 [l0, l1, l2, some (.int x)] s h = rf d 240 156 [l0, l1, l2, some (.int (x + 1))] s h := g_inc (q := 2) (z := 1) (w := 1) (x := x) (by decide) (by decide +kernel) rfl rfl hn
theorem e240_156 : rf d 240 156 ls s h = rf d 240 114 ls s h := rf_goto ⟨okD_ok (i := .goto (-42)) (len := 3) (by decide +kernel), rfl⟩
theorem e240_159 : rf d 240 159 ls s h = rf d 240 160 ls (.int 0 :: s) h := rf_pure (i := .iconst (0)) (len := 1) (okD_ok (by decide +kernel)) rfl
theorem e240_160 (hn : ip_nl l2 = true) : rf d 240 160 [l0, l1, l2, l3] (.int x :: s) h = rf d 240 161 [l0, l1, l2, some (.int x)] s h := g_sti (i := .istore_n 3) (len := 1) (q := 2) (p := 1) (by decide +kernel) rfl rfl hn
theorem e240_161 : rf d 240 161 [l0, l1, l2, some (.int x)] s h = rf d 240 162 [l0, l1, l2, some (.int x)] (.int x :: s) h := rf_pure (i := .iload_n 3) (len := 1) (okD_ok (by decide +kernel)) rfl
theorem e240_162 : rf d 240 162 ls s h = rf d 240 164 ls (.int 8 :: s) h := rf_pure (i := .bipush (8)) (len := 2) (okD_ok (by decide +kernel)) rfl
theorem e240_164 : rf d 240 164 ls (.int y :: .int x :: s) h = if y ≤ x then rf d 240 248 ls s h else rf d 240 167 ls s h := g_ic (c := .ge) (off := 84) _ (by decide +kernel) rfl cmp_d
theorem e240_167 : rf d 240 167 [some (.ref a), l1, l2, l3] s h = rf d 240 168 [some (.ref a), l1, l2, l3] (.ref a :: s) h := rf_pure (i := .aload_n 0) (len := 1) (okD_ok (by decide +kernel)) rfl
theorem e240_168 (hR : LYR R) : rf d 240 168 ls (.ref 265 :: s) (SH n, I, L, R, nc, ns, nx) = rf d 240 171 ls (.ref 302 :: s) (SH n, I, L, R, nc, ns, nx) := g_R (idx := 124) (by decide +kernel) ow240 f_8_124 rfl rfl (by decide) (ly_265_52 hR)
theorem e240_171 : rf d 240 171 ls s h = rf d 240 173 ls (.int 8 :: s) h := rf_pure (i := .bipush (8)) (len := 2) (okD_ok (by decide +kernel)) rfl
theorem e240_173 : rf d 240 173 [l0, some (.int x), l2, l3] s h = rf d 240 174 [l0, some (.int x), l2, l3] (.int x :: s) h := rf_pure (i := .iload_n 1) (len := 1) (okD_ok (by decide +kernel)) rfl
theorem e240_174 : rf d 240 174 ls (.int y :: .int x :: s) h = rf d 240 175 ls (.int (x * y) :: s) h := rf_pure (i := .imul) (len := 1) (okD_ok (by decide +kernel)) rfl
theorem e240_175 : rf d 240 175 [l0, l1, l2, some (.int x)] s h = rf d 240 176 [l0, l1, l2, some (.int x)] (.int x :: s) h := rf_pure (i := .iload_n 3) (len := 1) (okD_ok (by decide +kernel)) rfl
theorem e240_176 : rf d 240 176 ls (.int y :: .int x :: s) h = rf d 240 177 ls (.int (x + y) :: s) h := rf_pure (i := .iadd) (len := 1) (okD_ok (by decide +kernel)) rfl
theorem e240_177 : rf d 240 177 [some (.ref a), l1, l2, l3] s h = rf d 240 178 [some (.ref a), l1, l2, l3] (.ref a :: s) h := rf_pure (i := .aload_n 0) (len := 1) (okD_ok (by decide +kernel)) rfl
theorem e240_178 (hR : LYR R) : rf d 240 178 ls (.ref 265 :: s) (SH n, I, L, R, nc, ns, nx) = rf d 240 181 ls (.ref 302 :: s) (SH n, I, L, R, nc, ns, nx) := g_R (idx := 124) (by decide +kernel) ow240 f_8_124 rfl rfl (by decide) (ly_265_52 hR)
theorem e240_181 : rf d 240 181 ls s h = rf d 240 183 ls (.int 8 :: s) h := rf_pure (i := .bipush (8)) (len := 2) (okD_ok (by decide +kernel)) rfl
theorem e240_183 : rf d 240 183 [some (.ref a), l1, l2, l3] s h = rf d 240 184 [some (.ref a), l1, l2, l3] (.ref a :: s) h := rf_pure (i := .aload_n 0) (len := 1) (okD_ok (by decide +kernel)) rfl
theorem e240_184 : rf d 240 184 ls (.ref 265 :: s) (SH n, I, L, R, nc, ns, nx) = rf d 240 187 ls (.int (I 265 38) :: s) (SH n, I, L, R, nc, ns, nx) := g_I (idx := 306) (by decide +kernel) ow240 f_8_306 rfl rfl (by decide)
theorem e240_187 : rf d 240 187 ls (.int y :: .int x :: s) h = rf d 240 188 ls (.int (x * y) :: s) h := rf_pure (i := .imul) (len := 1) (okD_ok (by decide +kernel)) rfl
theorem e240_188 : rf d 240 188 [l0, l1, l2, some (.int x)] s h = rf d 240 189 [l0, l1, l2, some (.int x)] (.int x :: s) h := rf_pure (i := .iload_n 3) (len := 1) (okD_ok (by decide +kernel)) rfl
theorem e240_189 : rf d 240 189 ls (.int y :: .int x :: s) h = rf d 240 190 ls (.int (x + y) :: s) h := rf_pure (i := .iadd) (len := 1) (okD_ok (by decide +kernel)) rfl
theorem e240_190 (q : ia n a j) : rf d 240 190 ls (.int j :: .ref a :: s) (SH n, I, L, R, nc, ns, nx) = rf d 240 191 ls (.int (I a j.toNatClampNeg) :: s) (SH n, I, L, R, nc, ns, nx) := g_ial (by decide +kernel) q
theorem e240_191 (q : ia n a j) : rf d 240 191 ls (.int x :: .int j :: .ref a :: s) (SH n, I, L, R, nc, ns, nx) = rf d 240 192 ls s (SH n, ip_up I a j.toNatClampNeg x, L, R, nc, ns, nx) := g_ias (by decide +kernel) q
theorem e240_192 : rf d 240 192 [some (.ref a), l1, l2, l3] s h = rf d 240 193 [some (.ref a), l1, l2, l3] (.ref a :: s) h := rf_pure (i := .aload_n 0) (len := 1) (okD_ok (by decide +kernel)) rfl
theorem e240_193 (hR : LYR R) : rf d 240 193 ls (.ref 265 :: s) (SH n, I, L, R, nc, ns, nx) = rf d 240 196 ls (.ref 303 :: s) (SH n, I, L, R, nc, ns, nx) := g_R (idx := 127) (by decide +kernel) ow240 f_8_127 rfl rfl (by decide) (ly_265_53 hR)
theorem e240_196 : rf d 240 196 ls s h = rf d 240 198 ls (.int 8 :: s) h := rf_pure (i := .bipush (8)) (len := 2) (okD_ok (by decide +kernel)) rfl
theorem e240_198 : rf d 240 198 [l0, some (.int x), l2, l3] s h = rf d 240 199 [l0, some (.int x), l2, l3] (.int x :: s) h := rf_pure (i := .iload_n 1) (len := 1) (okD_ok (by decide +kernel)) rfl
theorem e240_199 : rf d 240 199 ls (.int y :: .int x :: s) h = rf d 240 200 ls (.int (x * y) :: s) h := rf_pure (i := .imul) (len := 1) (okD_ok (by decide +kernel)) rfl
theorem e240_200 : rf d 240 200 [l0, l1, l2, some (.int x)] s h = rf d 240 201 [l0, l1, l2, some (.int x)] (.int x :: s) h := rf_pure (i := .iload_n 3) (len := 1) (okD_ok (by decide +kernel)) rfl
theorem e240_201 : rf d 240 201 ls (.int y :: .int x :: s) h = rf d 240 202 ls (.int (x + y) :: s) h := rf_pure (i := .iadd) (len := 1) (okD_ok (by decide +kernel)) rfl
theorem e240_202 : rf d 240 202 [some (.ref a), l1, l2, l3] s h = rf d 240 203 [some (.ref a), l1, l2, l3] (.ref a :: s) h := rf_pure (i := .aload_n 0) (len := 1) (okD_ok (by decide +kernel)) rfl
theorem e240_203 (hR : LYR R) : rf d 240 203 ls (.ref 265 :: s) (SH n, I, L, R, nc, ns, nx) = rf d 240 206 ls (.ref 303 :: s) (SH n, I, L, R, nc, ns, nx) := g_R (idx := 127) (by decide +kernel) ow240 f_8_127 rfl rfl (by decide) (ly_265_53 hR)
theorem e240_206 : rf d 240 206 ls s h = rf d 240 208 ls (.int 8 :: s) h := rf_pure (i := .bipush (8)) (len := 2) (okD_ok (by decide +kernel)) rfl
theorem e240_208 : rf d 240 208 [some (.ref a), l1, l2, l3] s h = rf d 240 209 [some (.ref a), l1, l2, l3] (.ref a :: s) h := rf_pure (i := .aload_n 0) (len := 1) (okD_ok (by decide +kernel)) rfl
theorem e240_209 : rf d 240 209 ls (.ref 265 :: s) (SH n, I, L, R, nc, ns, nx) = rf d 240 212 ls (.int (I 265 38) :: s) (SH n, I, L, R, nc, ns, nx) := g_I (idx := 306) (by decide +kernel) ow240 f_8_306 rfl rfl (by decide)
theorem e240_212 : rf d 240 212 ls (.int y :: .int x :: s) h = rf d 240 213 ls (.int (x * y) :: s) h := rf_pure (i := .imul) (len := 1) (okD_ok (by decide +kernel)) rfl
theorem e240_213 : rf d 240 213 [l0, l1, l2, some (.int x)] s h = rf d 240 214 [l0, l1, l2, some (.int x)] (.int x :: s) h := rf_pure (i := .iload_n 3) (len := 1) (okD_ok (by decide +kernel)) rfl
theorem e240_214 : rf d 240 214 ls (.int y :: .int x :: s) h = rf d 240 215 ls (.int (x + y) :: s) h := rf_pure (i := .iadd) (len := 1) (okD_ok (by decide +kernel)) rfl
theorem e240_215 (q : ia n a j) : rf d 240 215 ls (.int j :: .ref a :: s) (SH n, I, L, R, nc, ns, nx) = rf d 240 216 ls (.int (I a j.toNatClampNeg) :: s) (SH n, I, L, R, nc, ns, nx) := g_ial (by decide +kernel) q
theorem e240_216 (q : ia n a j) : rf d 240 216 ls (.int x :: .int j :: .ref a :: s) (SH n, I, L, R, nc, ns, nx) = rf d 240 217 ls s (SH n, ip_up I a j.toNatClampNeg x, L, R, nc, ns, nx) := g_ias (by decide +kernel) q
theorem e240_217 : rf d 240 217 [some (.ref a), l1, l2, l3] s h = rf d 240 218 [some (.ref a), l1, l2, l3] (.ref a :: s) h := rf_pure (i := .aload_n 0) (len := 1) (okD_ok (by decide +kernel)) rfl
theorem e240_218 (hR : LYR R) : rf d 240 218 ls (.ref 265 :: s) (SH n, I, L, R, nc, ns, nx) = rf d 240 221 ls (.ref 304 :: s) (SH n, I, L, R, nc, ns, nx) := g_R (idx := 130) (by decide +kernel) ow240 f_8_130 rfl rfl (by decide) (ly_265_54 hR)
theorem e240_221 : rf d 240 221 ls s h = rf d 240 223 ls (.int 8 :: s) h := rf_pure (i := .bipush (8)) (len := 2) (okD_ok (by decide +kernel)) rfl
theorem e240_223 : rf d 240 223 [l0, some (.int x), l2, l3] s h = rf d 240 224 [l0, some (.int x), l2, l3] (.int x :: s) h := rf_pure (i := .iload_n 1) (len := 1) (okD_ok (by decide +kernel)) rfl
theorem e240_224 : rf d 240 224 ls (.int y :: .int x :: s) h = rf d 240 225 ls (.int (x * y) :: s) h := rf_pure (i := .imul) (len := 1) (okD_ok (by decide +kernel)) rfl
theorem e240_225 : rf d 240 225 [l0, l1, l2, some (.int x)] s h = rf d 240 226 [l0, l1, l2, some (.int x)] (.int x :: s) h := rf_pure (i := .iload_n 3) (len := 1) (okD_ok (by decide +kernel)) rfl
theorem e240_226 : rf d 240 226 ls (.int y :: .int x :: s) h = rf d 240 227 ls (.int (x + y) :: s) h := rf_pure (i := .iadd) (len := 1) (okD_ok (by decide +kernel)) rfl
theorem e240_227 : rf d 240 227 [some (.ref a), l1, l2, l3] s h = rf d 240 228 [some (.ref a), l1, l2, l3] (.ref a :: s) h := rf_pure (i := .aload_n 0) (len := 1) (okD_ok (by decide +kernel)) rfl
theorem e240_228 (hR : LYR R) : rf d 240 228 ls (.ref 265 :: s) (SH n, I, L, R, nc, ns, nx) = rf d 240 231 ls (.ref 304 :: s) (SH n, I, L, R, nc, ns, nx) := g_R (idx := 130) (by decide +kernel) ow240 f_8_130 rfl rfl (by decide) (ly_265_54 hR)
theorem e240_231 : rf d 240 231 ls s h = rf d 240 233 ls (.int 8 :: s) h := rf_pure (i := .bipush (8)) (len := 2) (okD_ok (by decide +kernel)) rfl
theorem e240_233 : rf d 240 233 [some (.ref a), l1, l2, l3] s h = rf d 240 234 [some (.ref a), l1, l2, l3] (.ref a :: s) h := rf_pure (i := .aload_n 0) (len := 1) (okD_ok (by decide +kernel)) rfl
theorem e240_234 : rf d 240 234 ls (.ref 265 :: s) (SH n, I, L, R, nc, ns, nx) = rf d 240 237 ls (.int (I 265 38) :: s) (SH n, I, L, R, nc, ns, nx) := g_I (idx := 306) (by decide +kernel) ow240 f_8_306 rfl rfl (by decide)
theorem e240_237 : rf d 240 237 ls (.int y :: .int x :: s) h = rf d 240 238 ls (.int (x * y) :: s) h := rf_pure (i := .imul) (len := 1) (okD_ok (by decide +kernel)) rfl
theorem e240_238 : rf d 240 238 [l0, l1, l2, some (.int x)] s h = rf d 240 239 [l0, l1, l2, some (.int x)] (.int x :: s) h := rf_pure (i := .iload_n 3) (len := 1) (okD_ok (by decide +kernel)) rfl
theorem e240_239 : rf d 240 239 ls (.int y :: .int x :: s) h = rf d 240 240 ls (.int (x + y) :: s) h := rf_pure (i := .iadd) (len := 1) (okD_ok (by decide +kernel)) rfl
theorem e240_240 (q : ia n a j) : rf d 240 240 ls (.int j :: .ref a :: s) (SH n, I, L, R, nc, ns, nx) = rf d 240 241 ls (.int (I a j.toNatClampNeg) :: s) (SH n, I, L, R, nc, ns, nx) := g_ial (by decide +kernel) q
theorem e240_241 (q : ia n a j) : rf d 240 241 ls (.int x :: .int j :: .ref a :: s) (SH n, I, L, R, nc, ns, nx) = rf d 240 242 ls s (SH n, ip_up I a j.toNatClampNeg x, L, R, nc, ns, nx) := g_ias (by decide +kernel) q
theorem e240_242 (hn : ip_nl l2 = true) : rf d 240 242 [l0, l1, l2, some (.int x)] s h = rf d 240 245 [l0, l1, l2, some (.int (x + 1))] s h := g_inc (q := 2) (z := 1) (w := 1) (x := x) (by decide) (by decide +kernel) rfl rfl hn
theorem e240_245 : rf d 240 245 ls s h = rf d 240 161 ls s h := rf_goto ⟨okD_ok (i := .goto (-84)) (len := 3) (by decide +kernel), rfl⟩
theorem e240_248 : rf d 240 248 ls [] h = some (.inl none, h) := g_rv (by decide +kernel) rt240
theorem en241 : cf d 241 [.ref a, .int x0] h = rf d 241 0 [some (.ref a), some (.int x0), none, none] [] h := rfl
theorem e241_0 : rf d 241 0 ls s h = rf d 241 1 ls (.int 0 :: s) h := rf_pure (i := .iconst (0)) (len := 1) (okD_ok (by decide +kernel)) rfl
theorem e241_1 (hn : ip_nl l1 = true) : rf d 241 1 [l0, l1, l2, l3] (.int x :: s) h = rf d 241 2 [l0, l1, some (.int x), l3] s h := g_sti (i := .istore_n 2) (len := 1) (q := 1) (p := 1) (by decide +kernel) rfl rfl hn
theorem e241_2 : rf d 241 2 ls s h = rf d 241 3 ls (.int 0 :: s) h := rf_pure (i := .iconst (0)) (len := 1) (okD_ok (by decide +kernel)) rfl
theorem e241_3 (hn : ip_nl l2 = true) : rf d 241 3 [l0, l1, l2, l3] (.int x :: s) h = rf d 241 4 [l0, l1, l2, some (.int x)] s h := g_sti (i := .istore_n 3) (len := 1) (q := 2) (p := 1) (by decide +kernel) rfl rfl hn
theorem e241_4 : rf d 241 4 [l0, l1, l2, some (.int x)] s h = rf d 241 5 [l0, l1, l2, some (.int x)] (.int x :: s) h := rf_pure (i := .iload_n 3) (len := 1) (okD_ok (by decide +kernel)) rfl
theorem e241_5 : rf d 241 5 [some (.ref a), l1, l2, l3] s h = rf d 241 6 [some (.ref a), l1, l2, l3] (.ref a :: s) h := rf_pure (i := .aload_n 0) (len := 1) (okD_ok (by decide +kernel)) rfl
theorem e241_6 : rf d 241 6 ls (.ref 265 :: s) (SH n, I, L, R, nc, ns, nx) = rf d 241 9 ls (.int (I 265 17) :: s) (SH n, I, L, R, nc, ns, nx) := g_I (idx := 291) (by decide +kernel) ow241 f_8_291 rfl rfl (by decide)
theorem e241_9 : rf d 241 9 ls (.int y :: .int x :: s) h = if y ≤ x then rf d 241 41 ls s h else rf d 241 12 ls s h := g_ic (c := .ge) (off := 32) _ (by decide +kernel) rfl cmp_d
theorem e241_12 : rf d 241 12 [l0, l1, some (.int x), l3] s h = rf d 241 13 [l0, l1, some (.int x), l3] (.int x :: s) h := rf_pure (i := .iload_n 2) (len := 1) (okD_ok (by decide +kernel)) rfl
theorem e241_13 : rf d 241 13 [some (.ref a), l1, l2, l3] s h = rf d 241 14 [some (.ref a), l1, l2, l3] (.ref a :: s) h := rf_pure (i := .aload_n 0) (len := 1) (okD_ok (by decide +kernel)) rfl
theorem e241_14 : rf d 241 14 [some (.ref a), l1, l2, l3] s h = rf d 241 15 [some (.ref a), l1, l2, l3] (.ref a :: s) h := rf_pure (i := .aload_n 0) (len := 1) (okD_ok (by decide +kernel)) rfl
theorem e241_15 : rf d 241 15 ls (.ref 265 :: s) (SH n, I, L, R, nc, ns, nx) = rf d 241 18 ls (.int (I 265 38) :: s) (SH n, I, L, R, nc, ns, nx) := g_I (idx := 306) (by decide +kernel) ow241 f_8_306 rfl rfl (by decide)
theorem e241_18 : rf d 241 18 [l0, l1, l2, some (.int x)] s h = rf d 241 19 [l0, l1, l2, some (.int x)] (.int x :: s) h := rf_pure (i := .iload_n 3) (len := 1) (okD_ok (by decide +kernel)) rfl
theorem e241_19 : rf d 241 19 [l0, some (.int x), l2, l3] s h = rf d 241 20 [l0, some (.int x), l2, l3] (.int x :: s) h := rf_pure (i := .iload_n 1) (len := 1) (okD_ok (by decide +kernel)) rfl
theorem e241_20 (hcat : ip_cat s ≤ 8) : rf (d + 1) 241 20 ls (.int x2 :: .int x1 :: .int x0 :: .ref 265 :: s) (SH n, I, L, R, nc, ns, nx) = rf_k (d + 1) 241 20 ls s (cf d 228 [.ref 265, .int x0, .int x1, .int x2] (SH n, I, L, R, nc, ns, nx)) := g_cv (idx := 336) (t := 8) [.int x2, .int x1, .int x0] (by decide +kernel) ow241 ms_8_336 mt_8_336 cy228_8 rfl rfl mL228 rfl rfl (by decide) hcat
theorem e241_23 : rf d 241 23 ls (.int x :: s) h = if x = 0 then rf d 241 32 ls s h else rf d 241 26 ls s h := g_if (c := .eq) (off := 9) _ (by decide +kernel) rfl cmp_d
theorem e241_26 : rf d 241 26 ls s h = rf d 241 27 ls (.int 1 :: s) h := rf_pure (i := .iconst (1)) (len := 1) (okD_ok (by decide +kernel)) rfl
theorem e241_27 : rf d 241 27 [l0, l1, l2, some (.int x)] s h = rf d 241 28 [l0, l1, l2, some (.int x)] (.int x :: s) h := rf_pure (i := .iload_n 3) (len := 1) (okD_ok (by decide +kernel)) rfl
theorem e241_28 : rf d 241 28 ls (.int y :: .int x :: s) h = rf d 241 29 ls (.int (x <<< (y &&& 31)) :: s) h := rf_pure (i := .ishl) (len := 1) (okD_ok (by decide +kernel)) rfl
theorem e241_29 : rf d 241 29 ls s h = rf d 241 33 ls s h := rf_goto ⟨okD_ok (i := .goto (4)) (len := 3) (by decide +kernel), rfl⟩
theorem e241_32 : rf d 241 32 ls s h = rf d 241 33 ls (.int 0 :: s) h := rf_pure (i := .iconst (0)) (len := 1) (okD_ok (by decide +kernel)) rfl
theorem e241_33 : rf d 241 33 ls (.int y :: .int x :: s) h = rf d 241 34 ls (.int (x ||| y) :: s) h := rf_pure (i := .ior) (len := 1) (okD_ok (by decide +kernel)) rfl
theorem e241_34 (hn : ip_nl l1 = true) : rf d 241 34 [l0, l1, l2, l3] (.int x :: s) h = rf d 241 35 [l0, l1, some (.int x), l3] s h := g_sti (i := .istore_n 2) (len := 1) (q := 1) (p := 1) (by decide +kernel) rfl rfl hn
theorem e241_35 (hn : ip_nl l2 = true) : rf d 241 35 [l0, l1, l2, some (.int x)] s h = rf d 241 38 [l0, l1, l2, some (.int (x + 1))] s h := g_inc (q := 2) (z := 1) (w := 1) (x := x) (by decide) (by decide +kernel) rfl rfl hn
theorem e241_38 : rf d 241 38 ls s h = rf d 241 4 ls s h := rf_goto ⟨okD_ok (i := .goto (-34)) (len := 3) (by decide +kernel), rfl⟩
theorem e241_41 : rf d 241 41 [l0, l1, some (.int x), l3] s h = rf d 241 42 [l0, l1, some (.int x), l3] (.int x :: s) h := rf_pure (i := .iload_n 2) (len := 1) (okD_ok (by decide +kernel)) rfl
theorem e241_42 : rf d 241 42 ls [.int x] h = some (.inl (some (.int x)), h) := g_ri (by decide +kernel) rt241
theorem en242 : cf d 242 [.ref a] h = rf d 242 0 [some (.ref a), none] [] h := rfl
theorem e242_0 : rf d 242 0 [some (.ref a), l1] s h = rf d 242 1 [some (.ref a), l1] (.ref a :: s) h := rf_pure (i := .aload_n 0) (len := 1) (okD_ok (by decide +kernel)) rfl
theorem e242_1 : rf d 242 1 [some (.ref a), l1] s h = rf d 242 2 [some (.ref a), l1] (.ref a :: s) h := rf_pure (i := .aload_n 0) (len := 1) (okD_ok (by decide +kernel)) rfl
theorem e242_2 (hR : LYR R) : rf d 242 2 ls (.ref 265 :: s) (SH n, I, L, R, nc, ns, nx) = rf d 242 5 ls (.ref 289 :: s) (SH n, I, L, R, nc, ns, nx) := g_R (idx := 85) (by decide +kernel) ow242 f_8_85 rfl rfl (by decide) (ly_265_39 hR)
theorem e242_5 : rf d 242 5 [some (.ref a), l1] s h = rf d 242 6 [some (.ref a), l1] (.ref a :: s) h := rf_pure (i := .aload_n 0) (len := 1) (okD_ok (by decide +kernel)) rfl
theorem e242_6 : rf d 242 6 ls (.ref 265 :: s) (SH n, I, L, R, nc, ns, nx) = rf d 242 9 ls (.int (I 265 38) :: s) (SH n, I, L, R, nc, ns, nx) := g_I (idx := 306) (by decide +kernel) ow242 f_8_306 rfl rfl (by decide)
theorem e242_9 (q : ia n a j) : rf d 242 9 ls (.int j :: .ref a :: s) (SH n, I, L, R, nc, ns, nx) = rf d 242 10 ls (.int (I a j.toNatClampNeg) :: s) (SH n, I, L, R, nc, ns, nx) := g_ial (by decide +kernel) q
theorem e242_10 : rf d 242 10 ls (.int x :: s) h = if x = 0 then rf d 242 35 ls s h else rf d 242 13 ls s h := g_if (c := .eq) (off := 25) _ (by decide +kernel) rfl cmp_d
theorem e242_13 : rf d 242 13 [some (.ref a), l1] s h = rf d 242 14 [some (.ref a), l1] (.ref a :: s) h := rf_pure (i := .aload_n 0) (len := 1) (okD_ok (by decide +kernel)) rfl
theorem e242_14 (hR : LYR R) : rf d 242 14 ls (.ref 265 :: s) (SH n, I, L, R, nc, ns, nx) = rf d 242 17 ls (.ref 291 :: s) (SH n, I, L, R, nc, ns, nx) := g_R (idx := 91) (by decide +kernel) ow242 f_8_91 rfl rfl (by decide) (ly_265_41 hR)
theorem e242_17 : rf d 242 17 [some (.ref a), l1] s h = rf d 242 18 [some (.ref a), l1] (.ref a :: s) h := rf_pure (i := .aload_n 0) (len := 1) (okD_ok (by decide +kernel)) rfl
theorem e242_18 : rf d 242 18 ls (.ref 265 :: s) (SH n, I, L, R, nc, ns, nx) = rf d 242 21 ls (.int (I 265 38) :: s) (SH n, I, L, R, nc, ns, nx) := g_I (idx := 306) (by decide +kernel) ow242 f_8_306 rfl rfl (by decide)
theorem e242_21 (q : ia n a j) : rf d 242 21 ls (.int j :: .ref a :: s) (SH n, I, L, R, nc, ns, nx) = rf d 242 22 ls (.int (I a j.toNatClampNeg) :: s) (SH n, I, L, R, nc, ns, nx) := g_ial (by decide +kernel) q
theorem e242_22 : rf d 242 22 ls s h = rf d 242 23 ls (.int 3 :: s) h := rf_pure (i := .iconst (3)) (len := 1) (okD_ok (by decide +kernel)) rfl
theorem e242_23 : rf d 242 23 ls (.int y :: .int x :: s) h = if ¬ x = y then rf d 242 35 ls s h else rf d 242 26 ls s h := g_ic (c := .ne) (off := 12) _ (by decide +kernel) rfl cmp_d
theorem e242_26 : rf d 242 26 [some (.ref a), l1] s h = rf d 242 27 [some (.ref a), l1] (.ref a :: s) h := rf_pure (i := .aload_n 0) (len := 1) (okD_ok (by decide +kernel)) rfl
theorem e242_27 : rf d 242 27 ls (.ref 265 :: s) (SH n, I, L, R, nc, ns, nx) = rf d 242 30 ls (.int (I 265 37) :: s) (SH n, I, L, R, nc, ns, nx) := g_I (idx := 303) (by decide +kernel) ow242 f_8_303 rfl rfl (by decide)
theorem e242_30 : rf d 242 30 ls s h = rf d 242 32 ls (.int 40 :: s) h := rf_pure (i := .bipush (40)) (len := 2) (okD_ok (by decide +kernel)) rfl
theorem e242_32 : rf d 242 32 ls (.int y :: .int x :: s) h = if ¬ x = y then rf d 242 39 ls s h else rf d 242 35 ls s h := g_ic (c := .ne) (off := 7) _ (by decide +kernel) rfl cmp_d
theorem e242_35 : rf d 242 35 ls s h = rf d 242 36 ls (.int 1 :: s) h := rf_pure (i := .iconst (1)) (len := 1) (okD_ok (by decide +kernel)) rfl
theorem e242_36 : rf d 242 36 ls s h = rf d 242 40 ls s h := rf_goto ⟨okD_ok (i := .goto (4)) (len := 3) (by decide +kernel), rfl⟩
theorem e242_39 : rf d 242 39 ls s h = rf d 242 40 ls (.int 0 :: s) h := rf_pure (i := .iconst (0)) (len := 1) (okD_ok (by decide +kernel)) rfl
theorem e242_40 : rf d 242 40 ls (.int x :: .ref 265 :: s) (SH n, I, L, R, nc, ns, nx) = rf d 242 43 ls s (SH n, ip_up I 265 0 x, L, R, nc, ns, nx) := g_pI (idx := 142) (by decide +kernel) ow242 f_8_142 rfl (by decide +kernel) rfl (by decide)
theorem e242_43 : rf d 242 43 [some (.ref a), l1] s h = rf d 242 44 [some (.ref a), l1] (.ref a :: s) h := rf_pure (i := .aload_n 0) (len := 1) (okD_ok (by decide +kernel)) rfl
theorem e242_44 : rf d 242 44 ls (.ref 265 :: s) (SH n, I, L, R, nc, ns, nx) = rf d 242 47 ls (.int (I 265 0) :: s) (SH n, I, L, R, nc, ns, nx) := g_I (idx := 142) (by decide +kernel) ow242 f_8_142 rfl rfl (by decide)
theorem e242_47 : rf d 242 47 ls (.int x :: s) h = if x ≤ 0 then rf d 242 52 ls s h else rf d 242 50 ls s h := g_if (c := .le) (off := 5) _ (by decide +kernel) rfl cmp_d
theorem e242_50 : rf d 242 50 ls s h = rf d 242 51 ls (.int 0 :: s) h := rf_pure (i := .iconst (0)) (len := 1) (okD_ok (by decide +kernel)) rfl
theorem e242_51 : rf d 242 51 ls [.int x] h = some (.inl (some (.int x)), h) := g_ri (by decide +kernel) rt242
theorem e242_52 : rf d 242 52 [some (.ref a), l1] s h = rf d 242 53 [some (.ref a), l1] (.ref a :: s) h := rf_pure (i := .aload_n 0) (len := 1) (okD_ok (by decide +kernel)) rfl
theorem e242_53 : rf d 242 53 ls (.ref 265 :: s) (SH n, I, L, R, nc, ns, nx) = rf d 242 56 ls (.int (I 265 37) :: s) (SH n, I, L, R, nc, ns, nx) := g_I (idx := 303) (by decide +kernel) ow242 f_8_303 rfl rfl (by decide)
theorem e242_56 (hn : ip_nl l0 = true) : rf d 242 56 [l0, l1] (.int x :: s) h = rf d 242 57 [l0, some (.int x)] s h := g_sti (i := .istore_n 1) (len := 1) (q := 0) (p := 1) (by decide +kernel) rfl rfl hn
theorem e242_57 : rf d 242 57 [some (.ref a), l1] s h = rf d 242 58 [some (.ref a), l1] (.ref a :: s) h := rf_pure (i := .aload_n 0) (len := 1) (okD_ok (by decide +kernel)) rfl
theorem e242_58 : rf d 242 58 [l0, some (.int x)] s h = rf d 242 59 [l0, some (.int x)] (.int x :: s) h := rf_pure (i := .iload_n 1) (len := 1) (okD_ok (by decide +kernel)) rfl
theorem e242_59 : rf d 242 59 ls s h = rf d 242 60 ls (.int 0 :: s) h := rf_pure (i := .iconst (0)) (len := 1) (okD_ok (by decide +kernel)) rfl
theorem e242_60 (hcat : ip_cat s ≤ 8) : rf (d + 1) 242 60 ls (.int x1 :: .int x0 :: .ref 265 :: s) (SH n, I, L, R, nc, ns, nx) = rf_k (d + 1) 242 60 ls s (cf d 240 [.ref 265, .int x0, .int x1] (SH n, I, L, R, nc, ns, nx)) := g_cv (idx := 395) (t := 8) [.int x1, .int x0] (by decide +kernel) ow242 ms_8_395 mt_8_395 cy240_8 rfl rfl mL240 rfl rfl (by decide) hcat
theorem e242_63 : rf d 242 63 [some (.ref a), l1] s h = rf d 242 64 [some (.ref a), l1] (.ref a :: s) h := rf_pure (i := .aload_n 0) (len := 1) (okD_ok (by decide +kernel)) rfl
theorem e242_64 (hR : LYR R) : rf d 242 64 ls (.ref 265 :: s) (SH n, I, L, R, nc, ns, nx) = rf d 242 67 ls (.ref 292 :: s) (SH n, I, L, R, nc, ns, nx) := g_R (idx := 94) (by decide +kernel) ow242 f_8_94 rfl rfl (by decide) (ly_265_42 hR)
theorem e242_67 : rf d 242 67 [l0, some (.int x)] s h = rf d 242 68 [l0, some (.int x)] (.int x :: s) h := rf_pure (i := .iload_n 1) (len := 1) (okD_ok (by decide +kernel)) rfl
theorem e242_68 : rf d 242 68 [some (.ref a), l1] s h = rf d 242 69 [some (.ref a), l1] (.ref a :: s) h := rf_pure (i := .aload_n 0) (len := 1) (okD_ok (by decide +kernel)) rfl
theorem e242_69 (hR : LYR R) : rf d 242 69 ls (.ref 265 :: s) (SH n, I, L, R, nc, ns, nx) = rf d 242 72 ls (.ref 293 :: s) (SH n, I, L, R, nc, ns, nx) := g_R (idx := 97) (by decide +kernel) ow242 f_8_97 rfl rfl (by decide) (ly_265_43 hR)
theorem e242_72 : rf d 242 72 [l0, some (.int x)] s h = rf d 242 73 [l0, some (.int x)] (.int x :: s) h := rf_pure (i := .iload_n 1) (len := 1) (okD_ok (by decide +kernel)) rfl
theorem e242_73 (q : ia n a j) : rf d 242 73 ls (.int j :: .ref a :: s) (SH n, I, L, R, nc, ns, nx) = rf d 242 74 ls (.int (I a j.toNatClampNeg) :: s) (SH n, I, L, R, nc, ns, nx) := g_ial (by decide +kernel) q
theorem e242_74 (q : ia n a j) : rf d 242 74 ls (.int x :: .int j :: .ref a :: s) (SH n, I, L, R, nc, ns, nx) = rf d 242 75 ls s (SH n, ip_up I a j.toNatClampNeg x, L, R, nc, ns, nx) := g_ias (by decide +kernel) q
theorem e242_75 : rf d 242 75 [some (.ref a), l1] s h = rf d 242 76 [some (.ref a), l1] (.ref a :: s) h := rf_pure (i := .aload_n 0) (len := 1) (okD_ok (by decide +kernel)) rfl
theorem e242_76 : rf d 242 76 ls (.int x :: s) h = rf d 242 77 ls (.int x :: .int x :: s) h := rf_pure (i := .dup) (len := 1) (okD_ok (by decide +kernel)) rfl
theorem e242_76r : rf d 242 76 ls (.ref a :: s) h = rf d 242 77 ls (.ref a :: .ref a :: s) h := rf_pure (i := .dup) (len := 1) (okD_ok (by decide +kernel)) rfl
theorem e242_77 : rf d 242 77 ls (.ref 265 :: s) (SH n, I, L, R, nc, ns, nx) = rf d 242 80 ls (.int (I 265 37) :: s) (SH n, I, L, R, nc, ns, nx) := g_I (idx := 303) (by decide +kernel) ow242 f_8_303 rfl rfl (by decide)
theorem e242_80 : rf d 242 80 ls s h = rf d 242 81 ls (.int 1 :: s) h := rf_pure (i := .iconst (1)) (len := 1) (okD_ok (by decide +kernel)) rfl
theorem e242_81 : rf d 242 81 ls (.int y :: .int x :: s) h = rf d 242 82 ls (.int (x + y) :: s) h := rf_pure (i := .iadd) (len := 1) (okD_ok (by decide +kernel)) rfl
theorem e242_82 : rf d 242 82 ls (.int x :: .ref 265 :: s) (SH n, I, L, R, nc, ns, nx) = rf d 242 85 ls s (SH n, ip_up I 265 37 x, L, R, nc, ns, nx) := g_pI (idx := 303) (by decide +kernel) ow242 f_8_303 rfl (by decide +kernel) rfl (by decide)
theorem e242_85 : rf d 242 85 [some (.ref a), l1] s h = rf d 242 86 [some (.ref a), l1] (.ref a :: s) h := rf_pure (i := .aload_n 0) (len := 1) (okD_ok (by decide +kernel)) rfl
theorem e242_86 : rf d 242 86 [l0, some (.int x)] s h = rf d 242 87 [l0, some (.int x)] (.int x :: s) h := rf_pure (i := .iload_n 1) (len := 1) (okD_ok (by decide +kernel)) rfl
theorem e242_87 : rf d 242 87 ls (.int x :: .ref 265 :: s) (SH n, I, L, R, nc, ns, nx) = rf d 242 90 ls s (SH n, ip_up I 265 38 x, L, R, nc, ns, nx) := g_pI (idx := 306) (by decide +kernel) ow242 f_8_306 rfl (by decide +kernel) rfl (by decide)
theorem e242_90 : rf d 242 90 [l0, some (.int x)] s h = rf d 242 91 [l0, some (.int x)] (.int x :: s) h := rf_pure (i := .iload_n 1) (len := 1) (okD_ok (by decide +kernel)) rfl
theorem e242_91 : rf d 242 91 ls [.int x] h = some (.inl (some (.int x)), h) := g_ri (by decide +kernel) rt242
theorem en243 : cf d 243 [.ref a, .int x0] h = rf d 243 0 [some (.ref a), some (.int x0), none] [] h := rfl
theorem e243_0 : rf d 243 0 [some (.ref a), l1, l2] s h = rf d 243 1 [some (.ref a), l1, l2] (.ref a :: s) h := rf_pure (i := .aload_n 0) (len := 1) (okD_ok (by decide +kernel)) rfl
theorem e243_1 : rf d 243 1 [some (.ref a), l1, l2] s h = rf d 243 2 [some (.ref a), l1, l2] (.ref a :: s) h := rf_pure (i := .aload_n 0) (len := 1) (okD_ok (by decide +kernel)) rfl
theorem e243_2 : rf d 243 2 [l0, some (.int x), l2] s h = rf d 243 3 [l0, some (.int x), l2] (.int x :: s) h := rf_pure (i := .iload_n 1) (len := 1) (okD_ok (by decide +kernel)) rfl
theorem e243_3 (hcat : ip_cat s ≤ 8) : rf (d + 1) 243 3 ls (.int x0 :: .ref 265 :: s) (SH n, I, L, R, nc, ns, nx) = rf_k (d + 1) 243 3 ls s (cf d 244 [.ref 265, .int x0] (SH n, I, L, R, nc, ns, nx)) := g_cv (idx := 401) (t := 8) [.int x0] (by decide +kernel) ow243 ms_8_401 mt_8_401 cy244_8 rfl rfl mL244 rfl rfl (by decide) hcat
theorem e243_6 : rf d 243 6 ls (.int x :: s) h = if x = 0 then rf d 243 13 ls s h else rf d 243 9 ls s h := g_if (c := .eq) (off := 7) _ (by decide +kernel) rfl cmp_d
theorem e243_9 : rf d 243 9 ls s h = rf d 243 10 ls (.int 0 :: s) h := rf_pure (i := .iconst (0)) (len := 1) (okD_ok (by decide +kernel)) rfl
theorem e243_10 : rf d 243 10 ls s h = rf d 243 14 ls s h := rf_goto ⟨okD_ok (i := .goto (4)) (len := 3) (by decide +kernel), rfl⟩
theorem e243_13 : rf d 243 13 ls s h = rf d 243 14 ls (.int 1 :: s) h := rf_pure (i := .iconst (1)) (len := 1) (okD_ok (by decide +kernel)) rfl
theorem e243_14 : rf d 243 14 ls (.int x :: .ref 265 :: s) (SH n, I, L, R, nc, ns, nx) = rf d 243 17 ls s (SH n, ip_up I 265 0 x, L, R, nc, ns, nx) := g_pI (idx := 142) (by decide +kernel) ow243 f_8_142 rfl (by decide +kernel) rfl (by decide)
theorem e243_17 : rf d 243 17 [some (.ref a), l1, l2] s h = rf d 243 18 [some (.ref a), l1, l2] (.ref a :: s) h := rf_pure (i := .aload_n 0) (len := 1) (okD_ok (by decide +kernel)) rfl
theorem e243_18 : rf d 243 18 ls (.ref 265 :: s) (SH n, I, L, R, nc, ns, nx) = rf d 243 21 ls (.int (I 265 0) :: s) (SH n, I, L, R, nc, ns, nx) := g_I (idx := 142) (by decide +kernel) ow243 f_8_142 rfl rfl (by decide)
theorem e243_21 : rf d 243 21 ls (.int x :: s) h = if x ≤ 0 then rf d 243 26 ls s h else rf d 243 24 ls s h := g_if (c := .le) (off := 5) _ (by decide +kernel) rfl cmp_d
theorem e243_24 : rf d 243 24 ls s h = rf d 243 25 ls (.int 0 :: s) h := rf_pure (i := .iconst (0)) (len := 1) (okD_ok (by decide +kernel)) rfl
theorem e243_25 : rf d 243 25 ls [.int x] h = some (.inl (some (.int x)), h) := g_ri (by decide +kernel) rt243
theorem e243_26 : rf d 243 26 [some (.ref a), l1, l2] s h = rf d 243 27 [some (.ref a), l1, l2] (.ref a :: s) h := rf_pure (i := .aload_n 0) (len := 1) (okD_ok (by decide +kernel)) rfl
theorem e243_27 : rf d 243 27 ls (.ref 265 :: s) (SH n, I, L, R, nc, ns, nx) = rf d 243 30 ls (.int (I 265 38) :: s) (SH n, I, L, R, nc, ns, nx) := g_I (idx := 306) (by decide +kernel) ow243 f_8_306 rfl rfl (by decide)
theorem e243_30 (hn : ip_nl l1 = true) : rf d 243 30 [l0, l1, l2] (.int x :: s) h = rf d 243 31 [l0, l1, some (.int x)] s h := g_sti (i := .istore_n 2) (len := 1) (q := 1) (p := 1) (by decide +kernel) rfl rfl hn
theorem e243_31 : rf d 243 31 [some (.ref a), l1, l2] s h = rf d 243 32 [some (.ref a), l1, l2] (.ref a :: s) h := rf_pure (i := .aload_n 0) (len := 1) (okD_ok (by decide +kernel)) rfl
theorem e243_32 : rf d 243 32 [l0, some (.int x), l2] s h = rf d 243 33 [l0, some (.int x), l2] (.int x :: s) h := rf_pure (i := .iload_n 1) (len := 1) (okD_ok (by decide +kernel)) rfl
theorem e243_33 : rf d 243 33 ls (.int x :: .ref 265 :: s) (SH n, I, L, R, nc, ns, nx) = rf d 243 36 ls s (SH n, ip_up I 265 38 x, L, R, nc, ns, nx) := g_pI (idx := 306) (by decide +kernel) ow243 f_8_306 rfl (by decide +kernel) rfl (by decide)
theorem e243_36 : rf d 243 36 [l0, l1, some (.int x)] s h = rf d 243 37 [l0, l1, some (.int x)] (.int x :: s) h := rf_pure (i := .iload_n 2) (len := 1) (okD_ok (by decide +kernel)) rfl
theorem e243_37 : rf d 243 37 ls [.int x] h = some (.inl (some (.int x)), h) := g_ri (by decide +kernel) rt243
theorem en244 : cf d 244 [.ref a, .int x0] h = rf d 244 0 [some (.ref a), some (.int x0)] [] h := rfl
theorem e244_0 : rf d 244 0 [l0, some (.int x)] s h = rf d 244 1 [l0, some (.int x)] (.int x :: s) h := rf_pure (i := .iload_n 1) (len := 1) (okD_ok (by decide +kernel)) rfl
theorem e244_1 : rf d 244 1 ls s h = rf d 244 2 ls (.int 0 :: s) h := rf_pure (i := .iconst (0)) (len := 1) (okD_ok (by decide +kernel)) rfl
theorem e244_2 : rf d 244 2 [some (.ref a), l1] s h = rf d 244 3 [some (.ref a), l1] (.ref a :: s) h := rf_pure (i := .aload_n 0) (len := 1) (okD_ok (by decide +kernel)) rfl
theorem e244_3 : rf d 244 3 ls (.ref 265 :: s) (SH n, I, L, R, nc, ns, nx) = rf d 244 6 ls (.int (I 265 37) :: s) (SH n, I, L, R, nc, ns, nx) := g_I (idx := 303) (by decide +kernel) ow244 f_8_303 rfl rfl (by decide)
theorem e244_6 : rf d 244 6 ls s h = rf d 244 7 ls (.int 1 :: s) h := rf_pure (i := .iconst (1)) (len := 1) (okD_ok (by decide +kernel)) rfl
theorem e244_7 : rf d 244 7 ls (.int y :: .int x :: s) h = rf d 244 8 ls (.int (x - y) :: s) h := rf_pure (i := .isub) (len := 1) (okD_ok (by decide +kernel)) rfl
theorem e244_8 (hcat : ip_cat s ≤ 8) : rf (d + 1) 244 8 ls (.int x2 :: .int x1 :: .int x0 :: s) h = rf_k (d + 1) 244 8 ls s (cf d 217 [.int x0, .int x1, .int x2] h) := g_cs (idx := 315) [.int x2, .int x1, .int x0] (by decide +kernel) ow244 ms_8_315 mt_8_315 (by decide) rfl mL217 rfl hcat
theorem e244_11 (hx : x = 0 ∨ x = 1) : rf d 244 11 ls [.int x] h = some (.inl (some (.int x)), h) := g_rz (by decide +kernel) rt244 hx
theorem en245 : cf d 245 [.ref a, .int x0, .int x1, .int x2] h = rf d 245 0 [some (.ref a), some (.int x0), some (.int x1), some (.int x2), none, none] [] h := rfl
theorem e245_0 : rf d 245 0 [some (.ref a), l1, l2, l3, l4, l5] s h = rf d 245 1 [some (.ref a), l1, l2, l3, l4, l5] (.ref a :: s) h := rf_pure (i := .aload_n 0) (len := 1) (okD_ok (by decide +kernel)) rfl
theorem e245_1 : rf d 245 1 [some (.ref a), l1, l2, l3, l4, l5] s h = rf d 245 2 [some (.ref a), l1, l2, l3, l4, l5] (.ref a :: s) h := rf_pure (i := .aload_n 0) (len := 1) (okD_ok (by decide +kernel)) rfl
theorem e245_2 : rf d 245 2 [l0, some (.int x), l2, l3, l4, l5] s h = rf d 245 3 [l0, some (.int x), l2, l3, l4, l5] (.int x :: s) h := rf_pure (i := .iload_n 1) (len := 1) (okD_ok (by decide +kernel)) rfl
theorem e245_3 (hcat : ip_cat s ≤ 8) : rf (d + 1) 245 3 ls (.int x0 :: .ref 265 :: s) (SH n, I, L, R, nc, ns, nx) = rf_k (d + 1) 245 3 ls s (cf d 231 [.ref 265, .int x0] (SH n, I, L, R, nc, ns, nx)) := g_cv (idx := 386) (t := 8) [.int x0] (by decide +kernel) ow245 ms_8_386 mt_8_386 cy231_8 rfl rfl mL231 rfl rfl (by decide) hcat
theorem e245_6 : rf d 245 6 ls (.int x :: s) h = if x = 0 then rf d 245 17 ls s h else rf d 245 9 ls s h := g_if (c := .eq) (off := 11) _ (by decide +kernel) rfl cmp_d
theorem e245_9 : rf d 245 9 [some (.ref a), l1, l2, l3, l4, l5] s h = rf d 245 10 [some (.ref a), l1, l2, l3, l4, l5] (.ref a :: s) h := rf_pure (i := .aload_n 0) (len := 1) (okD_ok (by decide +kernel)) rfl
theorem e245_10 : rf d 245 10 [l0, l1, some (.int x), l3, l4, l5] s h = rf d 245 11 [l0, l1, some (.int x), l3, l4, l5] (.int x :: s) h := rf_pure (i := .iload_n 2) (len := 1) (okD_ok (by decide +kernel)) rfl
theorem e245_11 (hcat : ip_cat s ≤ 8) : rf (d + 1) 245 11 ls (.int x0 :: .ref 265 :: s) (SH n, I, L, R, nc, ns, nx) = rf_k (d + 1) 245 11 ls s (cf d 231 [.ref 265, .int x0] (SH n, I, L, R, nc, ns, nx)) := g_cv (idx := 386) (t := 8) [.int x0] (by decide +kernel) ow245 ms_8_386 mt_8_386 cy231_8 rfl rfl mL231 rfl rfl (by decide) hcat
theorem e245_14 : rf d 245 14 ls (.int x :: s) h = if ¬ x = 0 then rf d 245 21 ls s h else rf d 245 17 ls s h := g_if (c := .ne) (off := 7) _ (by decide +kernel) rfl cmp_d
theorem e245_17 : rf d 245 17 ls s h = rf d 245 18 ls (.int 1 :: s) h := rf_pure (i := .iconst (1)) (len := 1) (okD_ok (by decide +kernel)) rfl
theorem e245_18 : rf d 245 18 ls s h = rf d 245 46 ls s h := rf_goto ⟨okD_ok (i := .goto (28)) (len := 3) (by decide +kernel), rfl⟩
theorem e245_21 : rf d 245 21 [some (.ref a), l1, l2, l3, l4, l5] s h = rf d 245 22 [some (.ref a), l1, l2, l3, l4, l5] (.ref a :: s) h := rf_pure (i := .aload_n 0) (len := 1) (okD_ok (by decide +kernel)) rfl
theorem e245_22 (hcat : ip_cat s ≤ 8) : rf (d + 1) 245 22 ls (.ref 265 :: s) (SH n, I, L, R, nc, ns, nx) = rf_k (d + 1) 245 22 ls s (cf d 232 [.ref 265] (SH n, I, L, R, nc, ns, nx)) := g_cv (idx := 389) (t := 8) [] (by decide +kernel) ow245 ms_8_389 mt_8_389 cy232_8 rfl rfl mL232 rfl rfl (by decide) hcat
theorem e245_25 : rf d 245 25 ls (.int x :: s) h = if ¬ x = 0 then rf d 245 32 ls s h else rf d 245 28 ls s h := g_if (c := .ne) (off := 7) _ (by decide +kernel) rfl cmp_d
theorem e245_28 : rf d 245 28 ls s h = rf d 245 29 ls (.int 2 :: s) h := rf_pure (i := .iconst (2)) (len := 1) (okD_ok (by decide +kernel)) rfl
theorem e245_29 : rf d 245 29 ls s h = rf d 245 46 ls s h := rf_goto ⟨okD_ok (i := .goto (17)) (len := 3) (by decide +kernel), rfl⟩
theorem e245_32 : rf d 245 32 [l0, l1, l2, some (.int x), l4, l5] s h = rf d 245 33 [l0, l1, l2, some (.int x), l4, l5] (.int x :: s) h := rf_pure (i := .iload_n 3) (len := 1) (okD_ok (by decide +kernel)) rfl
theorem e245_33 : rf d 245 33 ls s h = rf d 245 34 ls (.int 0 :: s) h := rf_pure (i := .iconst (0)) (len := 1) (okD_ok (by decide +kernel)) rfl
theorem e245_34 : rf d 245 34 ls s h = rf d 245 35 ls (.int 4 :: s) h := rf_pure (i := .iconst (4)) (len := 1) (okD_ok (by decide +kernel)) rfl
theorem e245_35 (hcat : ip_cat s ≤ 8) : rf (d + 1) 245 35 ls (.int x2 :: .int x1 :: .int x0 :: s) h = rf_k (d + 1) 245 35 ls s (cf d 217 [.int x0, .int x1, .int x2] h) := g_cs (idx := 315) [.int x2, .int x1, .int x0] (by decide +kernel) ow245 ms_8_315 mt_8_315 (by decide) rfl mL217 rfl hcat
theorem e245_38 : rf d 245 38 ls (.int x :: s) h = if ¬ x = 0 then rf d 245 45 ls s h else rf d 245 41 ls s h := g_if (c := .ne) (off := 7) _ (by decide +kernel) rfl cmp_d
theorem e245_41 : rf d 245 41 ls s h = rf d 245 42 ls (.int 3 :: s) h := rf_pure (i := .iconst (3)) (len := 1) (okD_ok (by decide +kernel)) rfl
theorem e245_42 : rf d 245 42 ls s h = rf d 245 46 ls s h := rf_goto ⟨okD_ok (i := .goto (4)) (len := 3) (by decide +kernel), rfl⟩
theorem e245_45 : rf d 245 45 ls s h = rf d 245 46 ls (.int 0 :: s) h := rf_pure (i := .iconst (0)) (len := 1) (okD_ok (by decide +kernel)) rfl
theorem e245_46 : rf d 245 46 ls (.int x :: .ref 265 :: s) (SH n, I, L, R, nc, ns, nx) = rf d 245 49 ls s (SH n, ip_up I 265 0 x, L, R, nc, ns, nx) := g_pI (idx := 142) (by decide +kernel) ow245 f_8_142 rfl (by decide +kernel) rfl (by decide)
theorem e245_49 : rf d 245 49 [some (.ref a), l1, l2, l3, l4, l5] s h = rf d 245 50 [some (.ref a), l1, l2, l3, l4, l5] (.ref a :: s) h := rf_pure (i := .aload_n 0) (len := 1) (okD_ok (by decide +kernel)) rfl
theorem e245_50 : rf d 245 50 ls (.ref 265 :: s) (SH n, I, L, R, nc, ns, nx) = rf d 245 53 ls (.int (I 265 0) :: s) (SH n, I, L, R, nc, ns, nx) := g_I (idx := 142) (by decide +kernel) ow245 f_8_142 rfl rfl (by decide)
theorem e245_53 : rf d 245 53 ls (.int x :: s) h = if x ≤ 0 then rf d 245 58 ls s h else rf d 245 56 ls s h := g_if (c := .le) (off := 5) _ (by decide +kernel) rfl cmp_d
theorem e245_56 : rf d 245 56 ls s h = rf d 245 57 ls (.int 0 :: s) h := rf_pure (i := .iconst (0)) (len := 1) (okD_ok (by decide +kernel)) rfl
theorem e245_57 : rf d 245 57 ls [.int x] h = some (.inl (some (.int x)), h) := g_ri (by decide +kernel) rt245
theorem e245_58 : rf d 245 58 [some (.ref a), l1, l2, l3, l4, l5] s h = rf d 245 59 [some (.ref a), l1, l2, l3, l4, l5] (.ref a :: s) h := rf_pure (i := .aload_n 0) (len := 1) (okD_ok (by decide +kernel)) rfl
theorem e245_59 : rf d 245 59 [l0, some (.int x), l2, l3, l4, l5] s h = rf d 245 60 [l0, some (.int x), l2, l3, l4, l5] (.int x :: s) h := rf_pure (i := .iload_n 1) (len := 1) (okD_ok (by decide +kernel)) rfl
theorem e245_60 : rf d 245 60 [some (.ref a), l1, l2, l3, l4, l5] s h = rf d 245 61 [some (.ref a), l1, l2, l3, l4, l5] (.ref a :: s) h := rf_pure (i := .aload_n 0) (len := 1) (okD_ok (by decide +kernel)) rfl
theorem e245_61 : rf d 245 61 ls (.ref 265 :: s) (SH n, I, L, R, nc, ns, nx) = rf d 245 64 ls (.int (I 265 60) :: s) (SH n, I, L, R, nc, ns, nx) := g_I (idx := 368) (by decide +kernel) ow245 f_8_368 rfl rfl (by decide)
theorem e245_64 : rf d 245 64 ls (.int y :: .int x :: s) h = rf d 245 65 ls (.int (x &&& y) :: s) h := rf_pure (i := .iand) (len := 1) (okD_ok (by decide +kernel)) rfl
theorem e245_65 : rf d 245 65 [l0, l1, some (.int x), l3, l4, l5] s h = rf d 245 66 [l0, l1, some (.int x), l3, l4, l5] (.int x :: s) h := rf_pure (i := .iload_n 2) (len := 1) (okD_ok (by decide +kernel)) rfl
theorem e245_66 : rf d 245 66 [some (.ref a), l1, l2, l3, l4, l5] s h = rf d 245 67 [some (.ref a), l1, l2, l3, l4, l5] (.ref a :: s) h := rf_pure (i := .aload_n 0) (len := 1) (okD_ok (by decide +kernel)) rfl
theorem e245_67 : rf d 245 67 ls (.ref 265 :: s) (SH n, I, L, R, nc, ns, nx) = rf d 245 70 ls (.int (I 265 61) :: s) (SH n, I, L, R, nc, ns, nx) := g_I (idx := 371) (by decide +kernel) ow245 f_8_371 rfl rfl (by decide)
theorem e245_70 : rf d 245 70 ls (.int y :: .int x :: s) h = rf d 245 71 ls (.int (x &&& y) :: s) h := rf_pure (i := .iand) (len := 1) (okD_ok (by decide +kernel)) rfl
theorem e245_71 (hcat : ip_cat s ≤ 8) : rf (d + 1) 245 71 ls (.int x1 :: .int x0 :: .ref 265 :: s) (SH n, I, L, R, nc, ns, nx) = rf_k (d + 1) 245 71 ls s (cf d 237 [.ref 265, .int x0, .int x1] (SH n, I, L, R, nc, ns, nx)) := g_cv (idx := 392) (t := 8) [.int x1, .int x0] (by decide +kernel) ow245 ms_8_392 mt_8_392 cy237_8 rfl rfl mL237 rfl rfl (by decide) hcat
theorem e245_74 (hn : ip_nl l3 = true) : rf d 245 74 [l0, l1, l2, l3, l4, l5] (.int x :: s) h = rf d 245 76 [l0, l1, l2, l3, some (.int x), l5] s h := g_sti (i := .istore 4) (len := 2) (q := 3) (p := 2) (by decide +kernel) rfl rfl hn
theorem e245_76 : rf d 245 76 [l0, l1, l2, l3, some (.int x), l5] s h = rf d 245 78 [l0, l1, l2, l3, some (.int x), l5] (.int x :: s) h := rf_pure (i := .iload 4) (len := 2) (okD_ok (by decide +kernel)) rfl
theorem e245_78 : rf d 245 78 ls s h = rf d 245 79 ls (.int 1 :: s) h := rf_pure (i := .iconst (1)) (len := 1) (okD_ok (by decide +kernel)) rfl
theorem e245_79 : rf d 245 79 ls (.int y :: .int x :: s) h = if x ≤ y then rf d 245 86 ls s h else rf d 245 82 ls s h := g_ic (c := .le) (off := 7) _ (by decide +kernel) rfl cmp_d
theorem e245_82 : rf d 245 82 ls s h = rf d 245 83 ls (.int 1 :: s) h := rf_pure (i := .iconst (1)) (len := 1) (okD_ok (by decide +kernel)) rfl
theorem e245_83 : rf d 245 83 ls s h = rf d 245 87 ls s h := rf_goto ⟨okD_ok (i := .goto (4)) (len := 3) (by decide +kernel), rfl⟩
theorem e245_86 : rf d 245 86 ls s h = rf d 245 87 ls (.int 0 :: s) h := rf_pure (i := .iconst (0)) (len := 1) (okD_ok (by decide +kernel)) rfl
theorem e245_87 (hn : ip_nl l4 = true) : rf d 245 87 [l0, l1, l2, l3, l4, l5] (.int x :: s) h = rf d 245 89 [l0, l1, l2, l3, l4, some (.int x)] s h := g_sti (i := .istore 5) (len := 2) (q := 4) (p := 2) (by decide +kernel) rfl rfl hn
theorem e245_89 : rf d 245 89 [l0, l1, l2, some (.int x), l4, l5] s h = rf d 245 90 [l0, l1, l2, some (.int x), l4, l5] (.int x :: s) h := rf_pure (i := .iload_n 3) (len := 1) (okD_ok (by decide +kernel)) rfl
theorem e245_90 : rf d 245 90 ls (.int x :: s) h = if ¬ x = 0 then rf d 245 98 ls s h else rf d 245 93 ls s h := g_if (c := .ne) (off := 8) _ (by decide +kernel) rfl cmp_d
theorem e245_93 : rf d 245 93 [l0, l1, l2, l3, some (.int x), l5] s h = rf d 245 95 [l0, l1, l2, l3, some (.int x), l5] (.int x :: s) h := rf_pure (i := .iload 4) (len := 2) (okD_ok (by decide +kernel)) rfl
theorem e245_95 : rf d 245 95 ls s h = rf d 245 164 ls s h := rf_goto ⟨okD_ok (i := .goto (69)) (len := 3) (by decide +kernel), rfl⟩
theorem e245_98 : rf d 245 98 [l0, l1, l2, some (.int x), l4, l5] s h = rf d 245 99 [l0, l1, l2, some (.int x), l4, l5] (.int x :: s) h := rf_pure (i := .iload_n 3) (len := 1) (okD_ok (by decide +kernel)) rfl
theorem e245_99 : rf d 245 99 ls s h = rf d 245 100 ls (.int 1 :: s) h := rf_pure (i := .iconst (1)) (len := 1) (okD_ok (by decide +kernel)) rfl
theorem e245_100 : rf d 245 100 ls (.int y :: .int x :: s) h = if ¬ x = y then rf d 245 110 ls s h else rf d 245 103 ls s h := g_ic (c := .ne) (off := 10) _ (by decide +kernel) rfl cmp_d
theorem e245_103 : rf d 245 103 [some (.ref a), l1, l2, l3, l4, l5] s h = rf d 245 104 [some (.ref a), l1, l2, l3, l4, l5] (.ref a :: s) h := rf_pure (i := .aload_n 0) (len := 1) (okD_ok (by decide +kernel)) rfl
theorem e245_104 : rf d 245 104 ls (.ref 265 :: s) (SH n, I, L, R, nc, ns, nx) = rf d 245 107 ls (.int (I 265 63) :: s) (SH n, I, L, R, nc, ns, nx) := g_I (idx := 380) (by decide +kernel) ow245 f_8_380 rfl rfl (by decide)
theorem e245_107 : rf d 245 107 ls s h = rf d 245 164 ls s h := rf_goto ⟨okD_ok (i := .goto (57)) (len := 3) (by decide +kernel), rfl⟩
theorem e245_110 : rf d 245 110 [l0, l1, l2, some (.int x), l4, l5] s h = rf d 245 111 [l0, l1, l2, some (.int x), l4, l5] (.int x :: s) h := rf_pure (i := .iload_n 3) (len := 1) (okD_ok (by decide +kernel)) rfl
theorem e245_111 : rf d 245 111 ls s h = rf d 245 112 ls (.int 2 :: s) h := rf_pure (i := .iconst (2)) (len := 1) (okD_ok (by decide +kernel)) rfl
theorem e245_112 : rf d 245 112 ls (.int y :: .int x :: s) h = if ¬ x = y then rf d 245 122 ls s h else rf d 245 115 ls s h := g_ic (c := .ne) (off := 10) _ (by decide +kernel) rfl cmp_d
theorem e245_115 : rf d 245 115 [some (.ref a), l1, l2, l3, l4, l5] s h = rf d 245 116 [some (.ref a), l1, l2, l3, l4, l5] (.ref a :: s) h := rf_pure (i := .aload_n 0) (len := 1) (okD_ok (by decide +kernel)) rfl
theorem e245_116 : rf d 245 116 ls (.ref 265 :: s) (SH n, I, L, R, nc, ns, nx) = rf d 245 119 ls (.int (I 265 62) :: s) (SH n, I, L, R, nc, ns, nx) := g_I (idx := 374) (by decide +kernel) ow245 f_8_374 rfl rfl (by decide)
theorem e245_119 : rf d 245 119 ls s h = rf d 245 164 ls s h := rf_goto ⟨okD_ok (i := .goto (45)) (len := 3) (by decide +kernel), rfl⟩
theorem e245_122 : rf d 245 122 [l0, l1, l2, some (.int x), l4, l5] s h = rf d 245 123 [l0, l1, l2, some (.int x), l4, l5] (.int x :: s) h := rf_pure (i := .iload_n 3) (len := 1) (okD_ok (by decide +kernel)) rfl
theorem e245_123 : rf d 245 123 ls s h = rf d 245 124 ls (.int 3 :: s) h := rf_pure (i := .iconst (3)) (len := 1) (okD_ok (by decide +kernel)) rfl
theorem e245_124 : rf d 245 124 ls (.int y :: .int x :: s) h = if ¬ x = y then rf d 245 143 ls s h else rf d 245 127 ls s h := g_ic (c := .ne) (off := 19) _ (by decide +kernel) rfl cmp_d
theorem e245_127 : rf d 245 127 [l0, l1, l2, l3, l4, some (.int x)] s h = rf d 245 129 [l0, l1, l2, l3, l4, some (.int x)] (.int x :: s) h := rf_pure (i := .iload 5) (len := 2) (okD_ok (by decide +kernel)) rfl
theorem e245_129 : rf d 245 129 ls (.int x :: s) h = if x = 0 then rf d 245 139 ls s h else rf d 245 132 ls s h := g_if (c := .eq) (off := 10) _ (by decide +kernel) rfl cmp_d
theorem e245_132 : rf d 245 132 [some (.ref a), l1, l2, l3, l4, l5] s h = rf d 245 133 [some (.ref a), l1, l2, l3, l4, l5] (.ref a :: s) h := rf_pure (i := .aload_n 0) (len := 1) (okD_ok (by decide +kernel)) rfl
theorem e245_133 : rf d 245 133 ls (.ref 265 :: s) (SH n, I, L, R, nc, ns, nx) = rf d 245 136 ls (.int (I 265 56) :: s) (SH n, I, L, R, nc, ns, nx) := g_I (idx := 350) (by decide +kernel) ow245 f_8_350 rfl rfl (by decide)
theorem e245_136 : rf d 245 136 ls s h = rf d 245 164 ls s h := rf_goto ⟨okD_ok (i := .goto (28)) (len := 3) (by decide +kernel), rfl⟩
theorem e245_139 : rf d 245 139 ls s h = rf d 245 140 ls (.int 0 :: s) h := rf_pure (i := .iconst (0)) (len := 1) (okD_ok (by decide +kernel)) rfl
theorem e245_140 : rf d 245 140 ls s h = rf d 245 164 ls s h := rf_goto ⟨okD_ok (i := .goto (24)) (len := 3) (by decide +kernel), rfl⟩
theorem e245_143 : rf d 245 143 [l0, l1, l2, l3, l4, some (.int x)] s h = rf d 245 145 [l0, l1, l2, l3, l4, some (.int x)] (.int x :: s) h := rf_pure (i := .iload 5) (len := 2) (okD_ok (by decide +kernel)) rfl
theorem e245_145 : rf d 245 145 ls (.int x :: s) h = if x = 0 then rf d 245 155 ls s h else rf d 245 148 ls s h := g_if (c := .eq) (off := 10) _ (by decide +kernel) rfl cmp_d
theorem e245_148 : rf d 245 148 [some (.ref a), l1, l2, l3, l4, l5] s h = rf d 245 149 [some (.ref a), l1, l2, l3, l4, l5] (.ref a :: s) h := rf_pure (i := .aload_n 0) (len := 1) (okD_ok (by decide +kernel)) rfl
theorem e245_149 : rf d 245 149 ls (.ref 265 :: s) (SH n, I, L, R, nc, ns, nx) = rf d 245 152 ls (.int (I 265 55) :: s) (SH n, I, L, R, nc, ns, nx) := g_I (idx := 347) (by decide +kernel) ow245 f_8_347 rfl rfl (by decide)
theorem e245_152 : rf d 245 152 ls s h = rf d 245 164 ls s h := rf_goto ⟨okD_ok (i := .goto (12)) (len := 3) (by decide +kernel), rfl⟩
theorem e245_155 : rf d 245 155 [some (.ref a), l1, l2, l3, l4, l5] s h = rf d 245 156 [some (.ref a), l1, l2, l3, l4, l5] (.ref a :: s) h := rf_pure (i := .aload_n 0) (len := 1) (okD_ok (by decide +kernel)) rfl
theorem e245_156 (hR : LYR R) : rf d 245 156 ls (.ref 265 :: s) (SH n, I, L, R, nc, ns, nx) = rf d 245 159 ls (.ref 293 :: s) (SH n, I, L, R, nc, ns, nx) := g_R (idx := 97) (by decide +kernel) ow245 f_8_97 rfl rfl (by decide) (ly_265_43 hR)
theorem e245_159 : rf d 245 159 [some (.ref a), l1, l2, l3, l4, l5] s h = rf d 245 160 [some (.ref a), l1, l2, l3, l4, l5] (.ref a :: s) h := rf_pure (i := .aload_n 0) (len := 1) (okD_ok (by decide +kernel)) rfl
theorem e245_160 : rf d 245 160 ls (.ref 265 :: s) (SH n, I, L, R, nc, ns, nx) = rf d 245 163 ls (.int (I 265 38) :: s) (SH n, I, L, R, nc, ns, nx) := g_I (idx := 306) (by decide +kernel) ow245 f_8_306 rfl rfl (by decide)
theorem e245_163 (q : ia n a j) : rf d 245 163 ls (.int j :: .ref a :: s) (SH n, I, L, R, nc, ns, nx) = rf d 245 164 ls (.int (I a j.toNatClampNeg) :: s) (SH n, I, L, R, nc, ns, nx) := g_ial (by decide +kernel) q
theorem e245_164 : rf d 245 164 ls [.int x] h = some (.inl (some (.int x)), h) := g_ri (by decide +kernel) rt245
theorem en246 : cf d 246 [.ref a, .int x0] h = rf d 246 0 [some (.ref a), some (.int x0)] [] h := rfl
theorem e246_0 : rf d 246 0 [some (.ref a), l1] s h = rf d 246 1 [some (.ref a), l1] (.ref a :: s) h := rf_pure (i := .aload_n 0) (len := 1) (okD_ok (by decide +kernel)) rfl
theorem e246_1 : rf d 246 1 [some (.ref a), l1] s h = rf d 246 2 [some (.ref a), l1] (.ref a :: s) h := rf_pure (i := .aload_n 0) (len := 1) (okD_ok (by decide +kernel)) rfl
theorem e246_2 : rf d 246 2 [l0, some (.int x)] s h = rf d 246 3 [l0, some (.int x)] (.int x :: s) h := rf_pure (i := .iload_n 1) (len := 1) (okD_ok (by decide +kernel)) rfl
theorem e246_3 (hcat : ip_cat s ≤ 8) : rf (d + 1) 246 3 ls (.int x0 :: .ref 265 :: s) (SH n, I, L, R, nc, ns, nx) = rf_k (d + 1) 246 3 ls s (cf d 231 [.ref 265, .int x0] (SH n, I, L, R, nc, ns, nx)) := g_cv (idx := 386) (t := 8) [.int x0] (by decide +kernel) ow246 ms_8_386 mt_8_386 cy231_8 rfl rfl mL231 rfl rfl (by decide) hcat
theorem e246_6 : rf d 246 6 ls (.int x :: s) h = if x = 0 then rf d 246 13 ls s h else rf d 246 9 ls s h := g_if (c := .eq) (off := 7) _ (by decide +kernel) rfl cmp_d
theorem e246_9 : rf d 246 9 ls s h = rf d 246 10 ls (.int 0 :: s) h := rf_pure (i := .iconst (0)) (len := 1) (okD_ok (by decide +kernel)) rfl
theorem e246_10 : rf d 246 10 ls s h = rf d 246 14 ls s h := rf_goto ⟨okD_ok (i := .goto (4)) (len := 3) (by decide +kernel), rfl⟩
theorem e246_13 : rf d 246 13 ls s h = rf d 246 14 ls (.int 1 :: s) h := rf_pure (i := .iconst (1)) (len := 1) (okD_ok (by decide +kernel)) rfl
theorem e246_14 : rf d 246 14 ls (.int x :: .ref 265 :: s) (SH n, I, L, R, nc, ns, nx) = rf d 246 17 ls s (SH n, ip_up I 265 0 x, L, R, nc, ns, nx) := g_pI (idx := 142) (by decide +kernel) ow246 f_8_142 rfl (by decide +kernel) rfl (by decide)
theorem e246_17 : rf d 246 17 [some (.ref a), l1] s h = rf d 246 18 [some (.ref a), l1] (.ref a :: s) h := rf_pure (i := .aload_n 0) (len := 1) (okD_ok (by decide +kernel)) rfl
theorem e246_18 : rf d 246 18 ls (.ref 265 :: s) (SH n, I, L, R, nc, ns, nx) = rf d 246 21 ls (.int (I 265 0) :: s) (SH n, I, L, R, nc, ns, nx) := g_I (idx := 142) (by decide +kernel) ow246 f_8_142 rfl rfl (by decide)
theorem e246_21 : rf d 246 21 ls (.int x :: s) h = if x ≤ 0 then rf d 246 28 ls s h else rf d 246 24 ls s h := g_if (c := .le) (off := 7) _ (by decide +kernel) rfl cmp_d
theorem e246_24 : rf d 246 24 ls s h = rf d 246 25 ls (.int 0 :: s) h := rf_pure (i := .iconst (0)) (len := 1) (okD_ok (by decide +kernel)) rfl
theorem e246_25 : rf d 246 25 ls s h = rf d 246 33 ls s h := rf_goto ⟨okD_ok (i := .goto (8)) (len := 3) (by decide +kernel), rfl⟩
theorem e246_28 : rf d 246 28 [some (.ref a), l1] s h = rf d 246 29 [some (.ref a), l1] (.ref a :: s) h := rf_pure (i := .aload_n 0) (len := 1) (okD_ok (by decide +kernel)) rfl
theorem e246_29 : rf d 246 29 [l0, some (.int x)] s h = rf d 246 30 [l0, some (.int x)] (.int x :: s) h := rf_pure (i := .iload_n 1) (len := 1) (okD_ok (by decide +kernel)) rfl
theorem e246_30 (hcat : ip_cat s ≤ 8) : rf (d + 1) 246 30 ls (.int x0 :: .ref 265 :: s) (SH n, I, L, R, nc, ns, nx) = rf_k (d + 1) 246 30 ls s (cf d 247 [.ref 265, .int x0] (SH n, I, L, R, nc, ns, nx)) := g_cv (idx := 404) (t := 8) [.int x0] (by decide +kernel) ow246 ms_8_404 mt_8_404 cy247_8 rfl rfl mL247 rfl rfl (by decide) hcat
theorem e246_33 : rf d 246 33 ls [.int x] h = some (.inl (some (.int x)), h) := g_ri (by decide +kernel) rt246
theorem en247 : cf d 247 [.ref a, .int x0] h = rf d 247 0 [some (.ref a), some (.int x0), none, none] [] h := rfl
theorem e247_0 : rf d 247 0 ls s h = rf d 247 1 ls (.int 0 :: s) h := rf_pure (i := .iconst (0)) (len := 1) (okD_ok (by decide +kernel)) rfl
theorem e247_1 (hn : ip_nl l1 = true) : rf d 247 1 [l0, l1, l2, l3] (.int x :: s) h = rf d 247 2 [l0, l1, some (.int x), l3] s h := g_sti (i := .istore_n 2) (len := 1) (q := 1) (p := 1) (by decide +kernel) rfl rfl hn
theorem e247_2 : rf d 247 2 ls s h = rf d 247 3 ls (.int 0 :: s) h := rf_pure (i := .iconst (0)) (len := 1) (okD_ok (by decide +kernel)) rfl
theorem e247_3 (hn : ip_nl l2 = true) : rf d 247 3 [l0, l1, l2, l3] (.int x :: s) h = rf d 247 4 [l0, l1, l2, some (.int x)] s h := g_sti (i := .istore_n 3) (len := 1) (q := 2) (p := 1) (by decide +kernel) rfl rfl hn
theorem e247_4 : rf d 247 4 [l0, l1, l2, some (.int x)] s h = rf d 247 5 [l0, l1, l2, some (.int x)] (.int x :: s) h := rf_pure (i := .iload_n 3) (len := 1) (okD_ok (by decide +kernel)) rfl
theorem e247_5 : rf d 247 5 [some (.ref a), l1, l2, l3] s h = rf d 247 6 [some (.ref a), l1, l2, l3] (.ref a :: s) h := rf_pure (i := .aload_n 0) (len := 1) (okD_ok (by decide +kernel)) rfl
theorem e247_6 : rf d 247 6 ls (.ref 265 :: s) (SH n, I, L, R, nc, ns, nx) = rf d 247 9 ls (.int (I 265 17) :: s) (SH n, I, L, R, nc, ns, nx) := g_I (idx := 291) (by decide +kernel) ow247 f_8_291 rfl rfl (by decide)
theorem e247_9 : rf d 247 9 ls (.int y :: .int x :: s) h = if y ≤ x then rf d 247 44 ls s h else rf d 247 12 ls s h := g_ic (c := .ge) (off := 35) _ (by decide +kernel) rfl cmp_d
theorem e247_12 : rf d 247 12 [l0, l1, some (.int x), l3] s h = rf d 247 13 [l0, l1, some (.int x), l3] (.int x :: s) h := rf_pure (i := .iload_n 2) (len := 1) (okD_ok (by decide +kernel)) rfl
theorem e247_13 : rf d 247 13 [l0, some (.int x), l2, l3] s h = rf d 247 14 [l0, some (.int x), l2, l3] (.int x :: s) h := rf_pure (i := .iload_n 1) (len := 1) (okD_ok (by decide +kernel)) rfl
theorem e247_14 : rf d 247 14 [l0, l1, l2, some (.int x)] s h = rf d 247 15 [l0, l1, l2, some (.int x)] (.int x :: s) h := rf_pure (i := .iload_n 3) (len := 1) (okD_ok (by decide +kernel)) rfl
theorem e247_15 (hcat : ip_cat s ≤ 8) : rf (d + 1) 247 15 ls (.int x1 :: .int x0 :: s) h = rf_k (d + 1) 247 15 ls s (cf d 186 [.int x0, .int x1] h) := g_cs (idx := 234) [.int x1, .int x0] (by decide +kernel) ow247 ms_8_234 mt_8_234 (by decide) rfl mL186 rfl hcat
theorem e247_18 : rf d 247 18 ls (.int x :: s) h = if x = 0 then rf d 247 35 ls s h else rf d 247 21 ls s h := g_if (c := .eq) (off := 17) _ (by decide +kernel) rfl cmp_d
theorem e247_21 : rf d 247 21 ls s h = rf d 247 22 ls (.int 1 :: s) h := rf_pure (i := .iconst (1)) (len := 1) (okD_ok (by decide +kernel)) rfl
theorem e247_22 : rf d 247 22 [some (.ref a), l1, l2, l3] s h = rf d 247 23 [some (.ref a), l1, l2, l3] (.ref a :: s) h := rf_pure (i := .aload_n 0) (len := 1) (okD_ok (by decide +kernel)) rfl
theorem e247_23 (hR : LYR R) : rf d 247 23 ls (.ref 265 :: s) (SH n, I, L, R, nc, ns, nx) = rf d 247 26 ls (.ref 276 :: s) (SH n, I, L, R, nc, ns, nx) := g_R (idx := 45) (by decide +kernel) ow247 f_8_45 rfl rfl (by decide) (ly_265_22 hR)
theorem e247_26 : rf d 247 26 [l0, l1, l2, some (.int x)] s h = rf d 247 27 [l0, l1, l2, some (.int x)] (.int x :: s) h := rf_pure (i := .iload_n 3) (len := 1) (okD_ok (by decide +kernel)) rfl
theorem e247_27 (q : ia n a j) : rf d 247 27 ls (.int j :: .ref a :: s) (SH n, I, L, R, nc, ns, nx) = rf d 247 28 ls (.int (I a j.toNatClampNeg) :: s) (SH n, I, L, R, nc, ns, nx) := g_ial (by decide +kernel) q
theorem e247_28 (hcat : ip_cat s ≤ 8) : rf (d + 1) 247 28 ls (.int x0 :: s) h = rf_k (d + 1) 247 28 ls s (cf d 226 [.int x0] h) := g_cs (idx := 333) [.int x0] (by decide +kernel) ow247 ms_8_333 mt_8_333 (by decide) rfl mL226 rfl hcat
theorem e247_31 : rf d 247 31 ls (.int y :: .int x :: s) h = rf d 247 32 ls (.int (x + y) :: s) h := rf_pure (i := .iadd) (len := 1) (okD_ok (by decide +kernel)) rfl
theorem e247_32 : rf d 247 32 ls s h = rf d 247 36 ls s h := rf_goto ⟨okD_ok (i := .goto (4)) (len := 3) (by decide +kernel), rfl⟩
theorem e247_35 : rf d 247 35 ls s h = rf d 247 36 ls (.int 0 :: s) h := rf_pure (i := .iconst (0)) (len := 1) (okD_ok (by decide +kernel)) rfl
theorem e247_36 : rf d 247 36 ls (.int y :: .int x :: s) h = rf d 247 37 ls (.int (x + y) :: s) h := rf_pure (i := .iadd) (len := 1) (okD_ok (by decide +kernel)) rfl
theorem e247_37 (hn : ip_nl l1 = true) : rf d 247 37 [l0, l1, l2, l3] (.int x :: s) h = rf d 247 38 [l0, l1, some (.int x), l3] s h := g_sti (i := .istore_n 2) (len := 1) (q := 1) (p := 1) (by decide +kernel) rfl rfl hn
theorem e247_38 (hn : ip_nl l2 = true) : rf d 247 38 [l0, l1, l2, some (.int x)] s h = rf d 247 41 [l0, l1, l2, some (.int (x + 1))] s h := g_inc (q := 2) (z := 1) (w := 1) (x := x) (by decide) (by decide +kernel) rfl rfl hn
theorem e247_41 : rf d 247 41 ls s h = rf d 247 4 ls s h := rf_goto ⟨okD_ok (i := .goto (-37)) (len := 3) (by decide +kernel), rfl⟩
theorem e247_44 : rf d 247 44 [l0, l1, some (.int x), l3] s h = rf d 247 45 [l0, l1, some (.int x), l3] (.int x :: s) h := rf_pure (i := .iload_n 2) (len := 1) (okD_ok (by decide +kernel)) rfl
theorem e247_45 : rf d 247 45 ls [.int x] h = some (.inl (some (.int x)), h) := g_ri (by decide +kernel) rt247
theorem en248 : cf d 248 [.ref a, .int x0, .int x1] h = rf d 248 0 [some (.ref a), some (.int x0), some (.int x1), none, none, none, none] [] h := rfl
theorem e248_0 : rf d 248 0 [some (.ref a), l1, l2, l3, l4, l5, l6] s h = rf d 248 1 [some (.ref a), l1, l2, l3, l4, l5, l6] (.ref a :: s) h := rf_pure (i := .aload_n 0) (len := 1) (okD_ok (by decide +kernel)) rfl
theorem e248_1 : rf d 248 1 [l0, some (.int x), l2, l3, l4, l5, l6] s h = rf d 248 2 [l0, some (.int x), l2, l3, l4, l5, l6] (.int x :: s) h := rf_pure (i := .iload_n 1) (len := 1) (okD_ok (by decide +kernel)) rfl
theorem e248_2 : rf d 248 2 ls s h = rf d 248 3 ls (.int 0 :: s) h := rf_pure (i := .iconst (0)) (len := 1) (okD_ok (by decide +kernel)) rfl
theorem e248_3 : rf d 248 3 ls s h = rf d 248 5 ls (.int 99 :: s) h := rf_pure (i := .bipush (99)) (len := 2) (okD_ok (by decide +kernel)) rfl
theorem e248_5 (hcat : ip_cat s ≤ 8) : rf (d + 1) 248 5 ls (.int x2 :: .int x1 :: .int x0 :: s) h = rf_k (d + 1) 248 5 ls s (cf d 217 [.int x0, .int x1, .int x2] h) := g_cs (idx := 315) [.int x2, .int x1, .int x0] (by decide +kernel) ow248 ms_8_315 mt_8_315 (by decide) rfl mL217 rfl hcat
theorem e248_8 : rf d 248 8 ls (.int x :: s) h = if ¬ x = 0 then rf d 248 15 ls s h else rf d 248 11 ls s h := g_if (c := .ne) (off := 7) _ (by decide +kernel) rfl cmp_d
theorem e248_11 : rf d 248 11 ls s h = rf d 248 12 ls (.int 1 :: s) h := rf_pure (i := .iconst (1)) (len := 1) (okD_ok (by decide +kernel)) rfl
theorem e248_12 : rf d 248 12 ls s h = rf d 248 27 ls s h := rf_goto ⟨okD_ok (i := .goto (15)) (len := 3) (by decide +kernel), rfl⟩
theorem e248_15 : rf d 248 15 [some (.ref a), l1, l2, l3, l4, l5, l6] s h = rf d 248 16 [some (.ref a), l1, l2, l3, l4, l5, l6] (.ref a :: s) h := rf_pure (i := .aload_n 0) (len := 1) (okD_ok (by decide +kernel)) rfl
theorem e248_16 (hcat : ip_cat s ≤ 8) : rf (d + 1) 248 16 ls (.ref 265 :: s) (SH n, I, L, R, nc, ns, nx) = rf_k (d + 1) 248 16 ls s (cf d 232 [.ref 265] (SH n, I, L, R, nc, ns, nx)) := g_cv (idx := 389) (t := 8) [] (by decide +kernel) ow248 ms_8_389 mt_8_389 cy232_8 rfl rfl mL232 rfl rfl (by decide) hcat
theorem e248_19 : rf d 248 19 ls (.int x :: s) h = if ¬ x = 0 then rf d 248 26 ls s h else rf d 248 22 ls s h := g_if (c := .ne) (off := 7) _ (by decide +kernel) rfl cmp_d
theorem e248_22 : rf d 248 22 ls s h = rf d 248 23 ls (.int 2 :: s) h := rf_pure (i := .iconst (2)) (len := 1) (okD_ok (by decide +kernel)) rfl
theorem e248_23 : rf d 248 23 ls s h = rf d 248 27 ls s h := rf_goto ⟨okD_ok (i := .goto (4)) (len := 3) (by decide +kernel), rfl⟩
theorem e248_26 : rf d 248 26 ls s h = rf d 248 27 ls (.int 0 :: s) h := rf_pure (i := .iconst (0)) (len := 1) (okD_ok (by decide +kernel)) rfl
theorem e248_27 : rf d 248 27 ls (.int x :: .ref 265 :: s) (SH n, I, L, R, nc, ns, nx) = rf d 248 30 ls s (SH n, ip_up I 265 0 x, L, R, nc, ns, nx) := g_pI (idx := 142) (by decide +kernel) ow248 f_8_142 rfl (by decide +kernel) rfl (by decide)
theorem e248_30 : rf d 248 30 [some (.ref a), l1, l2, l3, l4, l5, l6] s h = rf d 248 31 [some (.ref a), l1, l2, l3, l4, l5, l6] (.ref a :: s) h := rf_pure (i := .aload_n 0) (len := 1) (okD_ok (by decide +kernel)) rfl
theorem e248_31 : rf d 248 31 ls (.ref 265 :: s) (SH n, I, L, R, nc, ns, nx) = rf d 248 34 ls (.int (I 265 0) :: s) (SH n, I, L, R, nc, ns, nx) := g_I (idx := 142) (by decide +kernel) ow248 f_8_142 rfl rfl (by decide)
theorem e248_34 : rf d 248 34 ls (.int x :: s) h = if x ≤ 0 then rf d 248 39 ls s h else rf d 248 37 ls s h := g_if (c := .le) (off := 5) _ (by decide +kernel) rfl cmp_d
theorem e248_37 : rf d 248 37 ls s h = rf d 248 38 ls (.int 0 :: s) h := rf_pure (i := .iconst (0)) (len := 1) (okD_ok (by decide +kernel)) rfl
theorem e248_38 : rf d 248 38 ls [.int x] h = some (.inl (some (.int x)), h) := g_ri (by decide +kernel) rt248
theorem e248_39 : rf d 248 39 ls s h = rf d 248 40 ls (.int 0 :: s) h := rf_pure (i := .iconst (0)) (len := 1) (okD_ok (by decide +kernel)) rfl
theorem e248_40 (hn : ip_nl l2 = true) : rf d 248 40 [l0, l1, l2, l3, l4, l5, l6] (.int x :: s) h = rf d 248 41 [l0, l1, l2, some (.int x), l4, l5, l6] s h := g_sti (i := .istore_n 3) (len := 1) (q := 2) (p := 1) (by decide +kernel) rfl rfl hn
theorem e248_41 : rf d 248 41 [some (.ref a), l1, l2, l3, l4, l5, l6] s h = rf d 248 42 [some (.ref a), l1, l2, l3, l4, l5, l6] (.ref a :: s) h := rf_pure (i := .aload_n 0) (len := 1) (okD_ok (by decide +kernel)) rfl
theorem e248_42 : rf d 248 42 ls s h = rf d 248 43 ls (.int 0 :: s) h := rf_pure (i := .iconst (0)) (len := 1) (okD_ok (by decide +kernel)) rfl
theorem e248_43 : rf d 248 43 ls s h = rf d 248 44 ls (.int 0 :: s) h := rf_pure (i := .iconst (0)) (len := 1) (okD_ok (by decide +kernel)) rfl
theorem e248_44 (hcat : ip_cat s ≤ 8) : rf (d + 1) 248 44 ls (.int x1 :: .int x0 :: .ref 265 :: s) (SH n, I, L, R, nc, ns, nx) = rf_k (d + 1) 248 44 ls s (cf d 249 [.ref 265, .int x0, .int x1] (SH n, I, L, R, nc, ns, nx)) := g_cv (idx := 407) (t := 8) [.int x1, .int x0] (by decide +kernel) ow248 ms_8_407 mt_8_407 cy249_8 rfl rfl mL249 rfl rfl (by decide) hcat
theorem e248_47 (hn : ip_nl l3 = true) : rf d 248 47 [l0, l1, l2, l3, l4, l5, l6] (.int x :: s) h = rf d 248 49 [l0, l1, l2, l3, some (.int x), l5, l6] s h := g_sti (i := .istore 4) (len := 2) (q := 3) (p := 2) (by decide +kernel) rfl rfl hn
theorem e248_49 : rf d 248 49 ls s h = rf d 248 50 ls (.int 1 :: s) h := rf_pure (i := .iconst (1)) (len := 1) (okD_ok (by decide +kernel)) rfl
theorem e248_50 (hn : ip_nl l4 = true) : rf d 248 50 [l0, l1, l2, l3, l4, l5, l6] (.int x :: s) h = rf d 248 52 [l0, l1, l2, l3, l4, some (.int x), l6] s h := g_sti (i := .istore 5) (len := 2) (q := 4) (p := 2) (by decide +kernel) rfl rfl hn
theorem e248_52 : rf d 248 52 [l0, l1, l2, l3, l4, some (.int x), l6] s h = rf d 248 54 [l0, l1, l2, l3, l4, some (.int x), l6] (.int x :: s) h := rf_pure (i := .iload 5) (len := 2) (okD_ok (by decide +kernel)) rfl
theorem e248_54 : rf d 248 54 [some (.ref a), l1, l2, l3, l4, l5, l6] s h = rf d 248 55 [some (.ref a), l1, l2, l3, l4, l5, l6] (.ref a :: s) h := rf_pure (i := .aload_n 0) (len := 1) (okD_ok (by decide +kernel)) rfl
theorem e248_55 (hcat : ip_cat s ≤ 8) : rf (d + 1) 248 55 ls (.ref 265 :: s) (SH n, I, L, R, nc, ns, nx) = rf_k (d + 1) 248 55 ls s (cf d 187 [.ref 265] (SH n, I, L, R, nc, ns, nx)) := g_cv (idx := 309) (t := 8) [] (by decide +kernel) ow248 ms_8_309 mt_8_309 cy187_8 rfl rfl mL187 rfl rfl (by decide) hcat
theorem e248_58 : rf d 248 58 ls (.int y :: .int x :: s) h = if y < x then rf d 248 137 ls s h else rf d 248 61 ls s h := g_ic (c := .gt) (off := 79) _ (by decide +kernel) rfl cmp_d
theorem e248_61 : rf d 248 61 [some (.ref a), l1, l2, l3, l4, l5, l6] s h = rf d 248 62 [some (.ref a), l1, l2, l3, l4, l5, l6] (.ref a :: s) h := rf_pure (i := .aload_n 0) (len := 1) (okD_ok (by decide +kernel)) rfl
theorem e248_62 : rf d 248 62 [l0, l1, l2, l3, l4, some (.int x), l6] s h = rf d 248 64 [l0, l1, l2, l3, l4, some (.int x), l6] (.int x :: s) h := rf_pure (i := .iload 5) (len := 2) (okD_ok (by decide +kernel)) rfl
theorem e248_64 (hcat : ip_cat s ≤ 8) : rf (d + 1) 248 64 ls (.int x0 :: .ref 265 :: s) (SH n, I, L, R, nc, ns, nx) = rf_k (d + 1) 248 64 ls s (cf d 247 [.ref 265, .int x0] (SH n, I, L, R, nc, ns, nx)) := g_cv (idx := 404) (t := 8) [.int x0] (by decide +kernel) ow248 ms_8_404 mt_8_404 cy247_8 rfl rfl mL247 rfl rfl (by decide) hcat
theorem e248_67 : rf d 248 67 [l0, some (.int x), l2, l3, l4, l5, l6] s h = rf d 248 68 [l0, some (.int x), l2, l3, l4, l5, l6] (.int x :: s) h := rf_pure (i := .iload_n 1) (len := 1) (okD_ok (by decide +kernel)) rfl
theorem e248_68 : rf d 248 68 ls (.int y :: .int x :: s) h = if x ≤ y then rf d 248 74 ls s h else rf d 248 71 ls s h := g_ic (c := .le) (off := 6) _ (by decide +kernel) rfl cmp_d
theorem e248_71 : rf d 248 71 ls s h = rf d 248 131 ls s h := rf_goto ⟨okD_ok (i := .goto (60)) (len := 3) (by decide +kernel), rfl⟩
theorem e248_74 : rf d 248 74 [some (.ref a), l1, l2, l3, l4, l5, l6] s h = rf d 248 75 [some (.ref a), l1, l2, l3, l4, l5, l6] (.ref a :: s) h := rf_pure (i := .aload_n 0) (len := 1) (okD_ok (by decide +kernel)) rfl
theorem e248_75 : rf d 248 75 [l0, l1, l2, l3, l4, some (.int x), l6] s h = rf d 248 77 [l0, l1, l2, l3, l4, some (.int x), l6] (.int x :: s) h := rf_pure (i := .iload 5) (len := 2) (okD_ok (by decide +kernel)) rfl
theorem e248_77 : rf d 248 77 ls s h = rf d 248 78 ls (.int 0 :: s) h := rf_pure (i := .iconst (0)) (len := 1) (okD_ok (by decide +kernel)) rfl
theorem e248_78 (hcat : ip_cat s ≤ 8) : rf (d + 1) 248 78 ls (.int x1 :: .int x0 :: .ref 265 :: s) (SH n, I, L, R, nc, ns, nx) = rf_k (d + 1) 248 78 ls s (cf d 249 [.ref 265, .int x0, .int x1] (SH n, I, L, R, nc, ns, nx)) := g_cv (idx := 407) (t := 8) [.int x1, .int x0] (by decide +kernel) ow248 ms_8_407 mt_8_407 cy249_8 rfl rfl mL249 rfl rfl (by decide) hcat
theorem e248_81 (hn : ip_nl l5 = true) : rf d 248 81 [l0, l1, l2, l3, l4, l5, l6] (.int x :: s) h = rf d 248 83 [l0, l1, l2, l3, l4, l5, some (.int x)] s h := g_sti (i := .istore 6) (len := 2) (q := 5) (p := 2) (by decide +kernel) rfl rfl hn
theorem e248_83 : rf d 248 83 [l0, l1, l2, l3, l4, l5, some (.int x)] s h = rf d 248 85 [l0, l1, l2, l3, l4, l5, some (.int x)] (.int x :: s) h := rf_pure (i := .iload 6) (len := 2) (okD_ok (by decide +kernel)) rfl
theorem e248_85 (hcat : ip_cat s ≤ 8) : rf (d + 1) 248 85 ls (.int x0 :: s) h = rf_k (d + 1) 248 85 ls s (cf d 250 [.int x0] h) := g_cs (idx := 410) [.int x0] (by decide +kernel) ow248 ms_8_410 mt_8_410 (by decide) rfl mL250 rfl hcat
theorem e248_88 : rf d 248 88 [l0, l1, l2, l3, some (.int x), l5, l6] s h = rf d 248 90 [l0, l1, l2, l3, some (.int x), l5, l6] (.int x :: s) h := rf_pure (i := .iload 4) (len := 2) (okD_ok (by decide +kernel)) rfl
theorem e248_90 (hcat : ip_cat s ≤ 8) : rf (d + 1) 248 90 ls (.int x0 :: s) h = rf_k (d + 1) 248 90 ls s (cf d 250 [.int x0] h) := g_cs (idx := 410) [.int x0] (by decide +kernel) ow248 ms_8_410 mt_8_410 (by decide) rfl mL250 rfl hcat
theorem e248_93 : rf d 248 93 ls (.int y :: .int x :: s) h = if x < y then rf d 248 131 ls s h else rf d 248 96 ls s h := g_ic (c := .lt) (off := 38) _ (by decide +kernel) rfl cmp_d
theorem e248_96 : rf d 248 96 [l0, l1, l2, l3, l4, l5, some (.int x)] s h = rf d 248 98 [l0, l1, l2, l3, l4, l5, some (.int x)] (.int x :: s) h := rf_pure (i := .iload 6) (len := 2) (okD_ok (by decide +kernel)) rfl
theorem e248_98 (hcat : ip_cat s ≤ 8) : rf (d + 1) 248 98 ls (.int x0 :: s) h = rf_k (d + 1) 248 98 ls s (cf d 250 [.int x0] h) := g_cs (idx := 410) [.int x0] (by decide +kernel) ow248 ms_8_410 mt_8_410 (by decide) rfl mL250 rfl hcat
theorem e248_101 : rf d 248 101 [l0, l1, l2, l3, some (.int x), l5, l6] s h = rf d 248 103 [l0, l1, l2, l3, some (.int x), l5, l6] (.int x :: s) h := rf_pure (i := .iload 4) (len := 2) (okD_ok (by decide +kernel)) rfl
theorem e248_103 (hcat : ip_cat s ≤ 8) : rf (d + 1) 248 103 ls (.int x0 :: s) h = rf_k (d + 1) 248 103 ls s (cf d 250 [.int x0] h) := g_cs (idx := 410) [.int x0] (by decide +kernel) ow248 ms_8_410 mt_8_410 (by decide) rfl mL250 rfl hcat
theorem e248_106 : rf d 248 106 ls (.int y :: .int x :: s) h = if ¬ x = y then rf d 248 124 ls s h else rf d 248 109 ls s h := g_ic (c := .ne) (off := 18) _ (by decide +kernel) rfl cmp_d
theorem e248_109 : rf d 248 109 [l0, l1, l2, l3, l4, some (.int x), l6] s h = rf d 248 111 [l0, l1, l2, l3, l4, some (.int x), l6] (.int x :: s) h := rf_pure (i := .iload 5) (len := 2) (okD_ok (by decide +kernel)) rfl
theorem e248_111 (hcat : ip_cat s ≤ 8) : rf (d + 1) 248 111 ls (.int x0 :: s) h = rf_k (d + 1) 248 111 ls s (cf d 226 [.int x0] h) := g_cs (idx := 333) [.int x0] (by decide +kernel) ow248 ms_8_333 mt_8_333 (by decide) rfl mL226 rfl hcat
theorem e248_114 : rf d 248 114 [l0, l1, l2, some (.int x), l4, l5, l6] s h = rf d 248 115 [l0, l1, l2, some (.int x), l4, l5, l6] (.int x :: s) h := rf_pure (i := .iload_n 3) (len := 1) (okD_ok (by decide +kernel)) rfl
theorem e248_115 (hcat : ip_cat s ≤ 8) : rf (d + 1) 248 115 ls (.int x0 :: s) h = rf_k (d + 1) 248 115 ls s (cf d 226 [.int x0] h) := g_cs (idx := 333) [.int x0] (by decide +kernel) ow248 ms_8_333 mt_8_333 (by decide) rfl mL226 rfl hcat
theorem e248_118 : rf d 248 118 ls (.int y :: .int x :: s) h = if x < y then rf d 248 124 ls s h else rf d 248 121 ls s h := g_ic (c := .lt) (off := 6) _ (by decide +kernel) rfl cmp_d
theorem e248_121 : rf d 248 121 ls s h = rf d 248 131 ls s h := rf_goto ⟨okD_ok (i := .goto (10)) (len := 3) (by decide +kernel), rfl⟩
theorem e248_124 : rf d 248 124 [l0, l1, l2, l3, l4, some (.int x), l6] s h = rf d 248 126 [l0, l1, l2, l3, l4, some (.int x), l6] (.int x :: s) h := rf_pure (i := .iload 5) (len := 2) (okD_ok (by decide +kernel)) rfl
theorem e248_126 (hn : ip_nl l2 = true) : rf d 248 126 [l0, l1, l2, l3, l4, l5, l6] (.int x :: s) h = rf d 248 127 [l0, l1, l2, some (.int x), l4, l5, l6] s h := g_sti (i := .istore_n 3) (len := 1) (q := 2) (p := 1) (by decide +kernel) rfl rfl hn
theorem e248_127 : rf d 248 127 [l0, l1, l2, l3, l4, l5, some (.int x)] s h = rf d 248 129 [l0, l1, l2, l3, l4, l5, some (.int x)] (.int x :: s) h := rf_pure (i := .iload 6) (len := 2) (okD_ok (by decide +kernel)) rfl
theorem e248_129 (hn : ip_nl l3 = true) : rf d 248 129 [l0, l1, l2, l3, l4, l5, l6] (.int x :: s) h = rf d 248 131 [l0, l1, l2, l3, some (.int x), l5, l6] s h := g_sti (i := .istore 4) (len := 2) (q := 3) (p := 2) (by decide +kernel) rfl rfl hn
theorem e248_131 (hn : ip_nl l4 = true) : rf d 248 131 [l0, l1, l2, l3, l4, some (.int x), l6] s h = rf d 248 134 [l0, l1, l2, l3, l4, some (.int (x + 1)), l6] s h := g_inc (q := 4) (z := 1) (w := 1) (x := x) (by decide) (by decide +kernel) rfl rfl hn
theorem e248_134 : rf d 248 134 ls s h = rf d 248 52 ls s h := rf_goto ⟨okD_ok (i := .goto (-82)) (len := 3) (by decide +kernel), rfl⟩
theorem e248_137 : rf d 248 137 [l0, l1, some (.int x), l3, l4, l5, l6] s h = rf d 248 138 [l0, l1, some (.int x), l3, l4, l5, l6] (.int x :: s) h := rf_pure (i := .iload_n 2) (len := 1) (okD_ok (by decide +kernel)) rfl
theorem e248_138 : rf d 248 138 ls (.int x :: s) h = if x = 0 then rf d 248 145 ls s h else rf d 248 141 ls s h := g_if (c := .eq) (off := 7) _ (by decide +kernel) rfl cmp_d
theorem e248_141 : rf d 248 141 [l0, l1, l2, some (.int x), l4, l5, l6] s h = rf d 248 142 [l0, l1, l2, some (.int x), l4, l5, l6] (.int x :: s) h := rf_pure (i := .iload_n 3) (len := 1) (okD_ok (by decide +kernel)) rfl
theorem e248_142 : rf d 248 142 ls s h = rf d 248 147 ls s h := rf_goto ⟨okD_ok (i := .goto (5)) (len := 3) (by decide +kernel), rfl⟩
theorem e248_145 : rf d 248 145 [l0, l1, l2, l3, some (.int x), l5, l6] s h = rf d 248 147 [l0, l1, l2, l3, some (.int x), l5, l6] (.int x :: s) h := rf_pure (i := .iload 4) (len := 2) (okD_ok (by decide +kernel)) rfl
theorem e248_147 : rf d 248 147 ls [.int x] h = some (.inl (some (.int x)), h) := g_ri (by decide +kernel) rt248
theorem en249 : cf d 249 [.ref a, .int x0, .int x1] h = rf d 249 0 [some (.ref a), some (.int x0), some (.int x1), none] [] h := rfl
theorem e249_0 : rf d 249 0 [some (.ref a), l1, l2, l3] s h = rf d 249 1 [some (.ref a), l1, l2, l3] (.ref a :: s) h := rf_pure (i := .aload_n 0) (len := 1) (okD_ok (by decide +kernel)) rfl
theorem e249_1 : rf d 249 1 ls (.ref 265 :: s) (SH n, I, L, R, nc, ns, nx) = rf d 249 4 ls (.int (I 265 59) :: s) (SH n, I, L, R, nc, ns, nx) := g_I (idx := 362) (by decide +kernel) ow249 f_8_362 rfl rfl (by decide)
theorem e249_4 : rf d 249 4 ls (.int x :: s) h = if ¬ x = 0 then rf d 249 26 ls s h else rf d 249 7 ls s h := g_if (c := .ne) (off := 22) _ (by decide +kernel) rfl cmp_d
theorem e249_7 : rf d 249 7 [some (.ref a), l1, l2, l3] s h = rf d 249 8 [some (.ref a), l1, l2, l3] (.ref a :: s) h := rf_pure (i := .aload_n 0) (len := 1) (okD_ok (by decide +kernel)) rfl
theorem e249_8 : rf d 249 8 [l0, some (.int x), l2, l3] s h = rf d 249 9 [l0, some (.int x), l2, l3] (.int x :: s) h := rf_pure (i := .iload_n 1) (len := 1) (okD_ok (by decide +kernel)) rfl
theorem e249_9 : rf d 249 9 [some (.ref a), l1, l2, l3] s h = rf d 249 10 [some (.ref a), l1, l2, l3] (.ref a :: s) h := rf_pure (i := .aload_n 0) (len := 1) (okD_ok (by decide +kernel)) rfl
theorem e249_10 : rf d 249 10 ls (.ref 265 :: s) (SH n, I, L, R, nc, ns, nx) = rf d 249 13 ls (.int (I 265 60) :: s) (SH n, I, L, R, nc, ns, nx) := g_I (idx := 368) (by decide +kernel) ow249 f_8_368 rfl rfl (by decide)
theorem e249_13 : rf d 249 13 ls (.int y :: .int x :: s) h = rf d 249 14 ls (.int (x &&& y) :: s) h := rf_pure (i := .iand) (len := 1) (okD_ok (by decide +kernel)) rfl
theorem e249_14 : rf d 249 14 [l0, l1, some (.int x), l3] s h = rf d 249 15 [l0, l1, some (.int x), l3] (.int x :: s) h := rf_pure (i := .iload_n 2) (len := 1) (okD_ok (by decide +kernel)) rfl
theorem e249_15 : rf d 249 15 [some (.ref a), l1, l2, l3] s h = rf d 249 16 [some (.ref a), l1, l2, l3] (.ref a :: s) h := rf_pure (i := .aload_n 0) (len := 1) (okD_ok (by decide +kernel)) rfl
theorem e249_16 : rf d 249 16 ls (.ref 265 :: s) (SH n, I, L, R, nc, ns, nx) = rf d 249 19 ls (.int (I 265 61) :: s) (SH n, I, L, R, nc, ns, nx) := g_I (idx := 371) (by decide +kernel) ow249 f_8_371 rfl rfl (by decide)
theorem e249_19 : rf d 249 19 ls (.int y :: .int x :: s) h = rf d 249 20 ls (.int (x &&& y) :: s) h := rf_pure (i := .iand) (len := 1) (okD_ok (by decide +kernel)) rfl
theorem e249_20 (hcat : ip_cat s ≤ 8) : rf (d + 1) 249 20 ls (.int x1 :: .int x0 :: .ref 265 :: s) (SH n, I, L, R, nc, ns, nx) = rf_k (d + 1) 249 20 ls s (cf d 237 [.ref 265, .int x0, .int x1] (SH n, I, L, R, nc, ns, nx)) := g_cv (idx := 392) (t := 8) [.int x1, .int x0] (by decide +kernel) ow249 ms_8_392 mt_8_392 cy237_8 rfl rfl mL237 rfl rfl (by decide) hcat
theorem e249_23 : rf d 249 23 ls s h = rf d 249 42 ls s h := rf_goto ⟨okD_ok (i := .goto (19)) (len := 3) (by decide +kernel), rfl⟩
theorem e249_26 : rf d 249 26 [some (.ref a), l1, l2, l3] s h = rf d 249 27 [some (.ref a), l1, l2, l3] (.ref a :: s) h := rf_pure (i := .aload_n 0) (len := 1) (okD_ok (by decide +kernel)) rfl
theorem e249_27 : rf d 249 27 [l0, l1, some (.int x), l3] s h = rf d 249 28 [l0, l1, some (.int x), l3] (.int x :: s) h := rf_pure (i := .iload_n 2) (len := 1) (okD_ok (by decide +kernel)) rfl
theorem e249_28 : rf d 249 28 [some (.ref a), l1, l2, l3] s h = rf d 249 29 [some (.ref a), l1, l2, l3] (.ref a :: s) h := rf_pure (i := .aload_n 0) (len := 1) (okD_ok (by decide +kernel)) rfl
theorem e249_29 : rf d 249 29 ls (.ref 265 :: s) (SH n, I, L, R, nc, ns, nx) = rf d 249 32 ls (.int (I 265 60) :: s) (SH n, I, L, R, nc, ns, nx) := g_I (idx := 368) (by decide +kernel) ow249 f_8_368 rfl rfl (by decide)
theorem e249_32 : rf d 249 32 ls (.int y :: .int x :: s) h = rf d 249 33 ls (.int (x &&& y) :: s) h := rf_pure (i := .iand) (len := 1) (okD_ok (by decide +kernel)) rfl
theorem e249_33 : rf d 249 33 [l0, some (.int x), l2, l3] s h = rf d 249 34 [l0, some (.int x), l2, l3] (.int x :: s) h := rf_pure (i := .iload_n 1) (len := 1) (okD_ok (by decide +kernel)) rfl
theorem e249_34 : rf d 249 34 [some (.ref a), l1, l2, l3] s h = rf d 249 35 [some (.ref a), l1, l2, l3] (.ref a :: s) h := rf_pure (i := .aload_n 0) (len := 1) (okD_ok (by decide +kernel)) rfl
theorem e249_35 : rf d 249 35 ls (.ref 265 :: s) (SH n, I, L, R, nc, ns, nx) = rf d 249 38 ls (.int (I 265 61) :: s) (SH n, I, L, R, nc, ns, nx) := g_I (idx := 371) (by decide +kernel) ow249 f_8_371 rfl rfl (by decide)
theorem e249_38 : rf d 249 38 ls (.int y :: .int x :: s) h = rf d 249 39 ls (.int (x &&& y) :: s) h := rf_pure (i := .iand) (len := 1) (okD_ok (by decide +kernel)) rfl
theorem e249_39 (hcat : ip_cat s ≤ 8) : rf (d + 1) 249 39 ls (.int x1 :: .int x0 :: .ref 265 :: s) (SH n, I, L, R, nc, ns, nx) = rf_k (d + 1) 249 39 ls s (cf d 237 [.ref 265, .int x0, .int x1] (SH n, I, L, R, nc, ns, nx)) := g_cv (idx := 392) (t := 8) [.int x1, .int x0] (by decide +kernel) ow249 ms_8_392 mt_8_392 cy237_8 rfl rfl mL237 rfl rfl (by decide) hcat
theorem e249_42 (hn : ip_nl l2 = true) : rf d 249 42 [l0, l1, l2, l3] (.int x :: s) h = rf d 249 43 [l0, l1, l2, some (.int x)] s h := g_sti (i := .istore_n 3) (len := 1) (q := 2) (p := 1) (by decide +kernel) rfl rfl hn
theorem e249_43 : rf d 249 43 [l0, l1, l2, some (.int x)] s h = rf d 249 44 [l0, l1, l2, some (.int x)] (.int x :: s) h := rf_pure (i := .iload_n 3) (len := 1) (okD_ok (by decide +kernel)) rfl
theorem e249_44 : rf d 249 44 ls [.int x] h = some (.inl (some (.int x)), h) := g_ri (by decide +kernel) rt249
theorem en250 : cf d 250 [.int x0] h = rf d 250 0 [some (.int x0)] [] h := rfl
theorem e250_0 : rf d 250 0 [some (.int x)] s h = rf d 250 1 [some (.int x)] (.int x :: s) h := rf_pure (i := .iload_n 0) (len := 1) (okD_ok (by decide +kernel)) rfl
theorem e250_1 : rf d 250 1 ls s h = rf d 250 2 ls (.int 2 :: s) h := rf_pure (i := .iconst (2)) (len := 1) (okD_ok (by decide +kernel)) rfl
theorem e250_2 : rf d 250 2 ls (.int y :: .int x :: s) h = if ¬ x = y then rf d 250 9 ls s h else rf d 250 5 ls s h := g_ic (c := .ne) (off := 7) _ (by decide +kernel) rfl cmp_d
theorem e250_5 : rf d 250 5 ls s h = rf d 250 6 ls (.int 2 :: s) h := rf_pure (i := .iconst (2)) (len := 1) (okD_ok (by decide +kernel)) rfl
theorem e250_6 : rf d 250 6 ls s h = rf d 250 19 ls s h := rf_goto ⟨okD_ok (i := .goto (13)) (len := 3) (by decide +kernel), rfl⟩
theorem e250_9 : rf d 250 9 [some (.int x)] s h = rf d 250 10 [some (.int x)] (.int x :: s) h := rf_pure (i := .iload_n 0) (len := 1) (okD_ok (by decide +kernel)) rfl
theorem e250_10 : rf d 250 10 ls s h = rf d 250 11 ls (.int 3 :: s) h := rf_pure (i := .iconst (3)) (len := 1) (okD_ok (by decide +kernel)) rfl
theorem e250_11 : rf d 250 11 ls (.int y :: .int x :: s) h = if ¬ x = y then rf d 250 18 ls s h else rf d 250 14 ls s h := g_ic (c := .ne) (off := 7) _ (by decide +kernel) rfl cmp_d
theorem e250_14 : rf d 250 14 ls s h = rf d 250 15 ls (.int 1 :: s) h := rf_pure (i := .iconst (1)) (len := 1) (okD_ok (by decide +kernel)) rfl
theorem e250_15 : rf d 250 15 ls s h = rf d 250 19 ls s h := rf_goto ⟨okD_ok (i := .goto (4)) (len := 3) (by decide +kernel), rfl⟩
theorem e250_18 : rf d 250 18 ls s h = rf d 250 19 ls (.int 0 :: s) h := rf_pure (i := .iconst (0)) (len := 1) (okD_ok (by decide +kernel)) rfl
theorem e250_19 : rf d 250 19 ls [.int x] h = some (.inl (some (.int x)), h) := g_ri (by decide +kernel) rt250
theorem en251 : cf d 251 [.ref a, .int x0, .int x1] h = rf d 251 0 [some (.ref a), some (.int x0), some (.int x1)] [] h := rfl
theorem e251_0 : rf d 251 0 [some (.ref a), l1, l2] s h = rf d 251 1 [some (.ref a), l1, l2] (.ref a :: s) h := rf_pure (i := .aload_n 0) (len := 1) (okD_ok (by decide +kernel)) rfl
theorem e251_1 : rf d 251 1 [some (.ref a), l1, l2] s h = rf d 251 2 [some (.ref a), l1, l2] (.ref a :: s) h := rf_pure (i := .aload_n 0) (len := 1) (okD_ok (by decide +kernel)) rfl
theorem e251_2 : rf d 251 2 [l0, some (.int x), l2] s h = rf d 251 3 [l0, some (.int x), l2] (.int x :: s) h := rf_pure (i := .iload_n 1) (len := 1) (okD_ok (by decide +kernel)) rfl
theorem e251_3 (hcat : ip_cat s ≤ 8) : rf (d + 1) 251 3 ls (.int x0 :: .ref 265 :: s) (SH n, I, L, R, nc, ns, nx) = rf_k (d + 1) 251 3 ls s (cf d 216 [.ref 265, .int x0] (SH n, I, L, R, nc, ns, nx)) := g_cv (idx := 319) (t := 8) [.int x0] (by decide +kernel) ow251 ms_8_319 mt_8_319 cy216_8 rfl rfl mL216 rfl rfl (by decide) hcat
theorem e251_6 : rf d 251 6 ls (.int x :: s) h = if ¬ x = 0 then rf d 251 13 ls s h else rf d 251 9 ls s h := g_if (c := .ne) (off := 7) _ (by decide +kernel) rfl cmp_d
theorem e251_9 : rf d 251 9 ls s h = rf d 251 10 ls (.int 1 :: s) h := rf_pure (i := .iconst (1)) (len := 1) (okD_ok (by decide +kernel)) rfl
theorem e251_10 : rf d 251 10 ls s h = rf d 251 36 ls s h := rf_goto ⟨okD_ok (i := .goto (26)) (len := 3) (by decide +kernel), rfl⟩
theorem e251_13 : rf d 251 13 [l0, l1, some (.int x)] s h = rf d 251 14 [l0, l1, some (.int x)] (.int x :: s) h := rf_pure (i := .iload_n 2) (len := 1) (okD_ok (by decide +kernel)) rfl
theorem e251_14 (hcat : ip_cat s ≤ 8) : rf (d + 1) 251 14 ls (.int x0 :: s) h = rf_k (d + 1) 251 14 ls s (cf d 225 [.int x0] h) := g_cs (idx := 330) [.int x0] (by decide +kernel) ow251 ms_8_330 mt_8_330 (by decide) rfl mL225 rfl hcat
theorem e251_17 : rf d 251 17 ls (.int x :: s) h = if ¬ x = 0 then rf d 251 24 ls s h else rf d 251 20 ls s h := g_if (c := .ne) (off := 7) _ (by decide +kernel) rfl cmp_d
theorem e251_20 : rf d 251 20 ls s h = rf d 251 21 ls (.int 2 :: s) h := rf_pure (i := .iconst (2)) (len := 1) (okD_ok (by decide +kernel)) rfl
theorem e251_21 : rf d 251 21 ls s h = rf d 251 36 ls s h := rf_goto ⟨okD_ok (i := .goto (15)) (len := 3) (by decide +kernel), rfl⟩
theorem e251_24 : rf d 251 24 [some (.ref a), l1, l2] s h = rf d 251 25 [some (.ref a), l1, l2] (.ref a :: s) h := rf_pure (i := .aload_n 0) (len := 1) (okD_ok (by decide +kernel)) rfl
theorem e251_25 (hcat : ip_cat s ≤ 8) : rf (d + 1) 251 25 ls (.ref 265 :: s) (SH n, I, L, R, nc, ns, nx) = rf_k (d + 1) 251 25 ls s (cf d 232 [.ref 265] (SH n, I, L, R, nc, ns, nx)) := g_cv (idx := 389) (t := 8) [] (by decide +kernel) ow251 ms_8_389 mt_8_389 cy232_8 rfl rfl mL232 rfl rfl (by decide) hcat
theorem e251_28 : rf d 251 28 ls (.int x :: s) h = if ¬ x = 0 then rf d 251 35 ls s h else rf d 251 31 ls s h := g_if (c := .ne) (off := 7) _ (by decide +kernel) rfl cmp_d
theorem e251_31 : rf d 251 31 ls s h = rf d 251 32 ls (.int 3 :: s) h := rf_pure (i := .iconst (3)) (len := 1) (okD_ok (by decide +kernel)) rfl
theorem e251_32 : rf d 251 32 ls s h = rf d 251 36 ls s h := rf_goto ⟨okD_ok (i := .goto (4)) (len := 3) (by decide +kernel), rfl⟩
theorem e251_35 : rf d 251 35 ls s h = rf d 251 36 ls (.int 0 :: s) h := rf_pure (i := .iconst (0)) (len := 1) (okD_ok (by decide +kernel)) rfl
theorem e251_36 : rf d 251 36 ls (.int x :: .ref 265 :: s) (SH n, I, L, R, nc, ns, nx) = rf d 251 39 ls s (SH n, ip_up I 265 0 x, L, R, nc, ns, nx) := g_pI (idx := 142) (by decide +kernel) ow251 f_8_142 rfl (by decide +kernel) rfl (by decide)
theorem e251_39 : rf d 251 39 [some (.ref a), l1, l2] s h = rf d 251 40 [some (.ref a), l1, l2] (.ref a :: s) h := rf_pure (i := .aload_n 0) (len := 1) (okD_ok (by decide +kernel)) rfl
theorem e251_40 : rf d 251 40 ls (.ref 265 :: s) (SH n, I, L, R, nc, ns, nx) = rf d 251 43 ls (.int (I 265 0) :: s) (SH n, I, L, R, nc, ns, nx) := g_I (idx := 142) (by decide +kernel) ow251 f_8_142 rfl rfl (by decide)
theorem e251_43 : rf d 251 43 ls (.int x :: s) h = if x ≤ 0 then rf d 251 50 ls s h else rf d 251 46 ls s h := g_if (c := .le) (off := 7) _ (by decide +kernel) rfl cmp_d
theorem e251_46 : rf d 251 46 ls s h = rf d 251 47 ls (.int 0 :: s) h := rf_pure (i := .iconst (0)) (len := 1) (okD_ok (by decide +kernel)) rfl
theorem e251_47 : rf d 251 47 ls s h = rf d 251 60 ls s h := rf_goto ⟨okD_ok (i := .goto (13)) (len := 3) (by decide +kernel), rfl⟩
theorem e251_50 : rf d 251 50 [some (.ref a), l1, l2] s h = rf d 251 51 [some (.ref a), l1, l2] (.ref a :: s) h := rf_pure (i := .aload_n 0) (len := 1) (okD_ok (by decide +kernel)) rfl
theorem e251_51 : rf d 251 51 [l0, some (.int x), l2] s h = rf d 251 52 [l0, some (.int x), l2] (.int x :: s) h := rf_pure (i := .iload_n 1) (len := 1) (okD_ok (by decide +kernel)) rfl
theorem e251_52 : rf d 251 52 [l0, l1, some (.int x)] s h = rf d 251 53 [l0, l1, some (.int x)] (.int x :: s) h := rf_pure (i := .iload_n 2) (len := 1) (okD_ok (by decide +kernel)) rfl
theorem e251_53 : rf d 251 53 [some (.ref a), l1, l2] s h = rf d 251 54 [some (.ref a), l1, l2] (.ref a :: s) h := rf_pure (i := .aload_n 0) (len := 1) (okD_ok (by decide +kernel)) rfl
theorem e251_54 : rf d 251 54 ls (.ref 265 :: s) (SH n, I, L, R, nc, ns, nx) = rf d 251 57 ls (.int (I 265 58) :: s) (SH n, I, L, R, nc, ns, nx) := g_I (idx := 359) (by decide +kernel) ow251 f_8_359 rfl rfl (by decide)
theorem e251_57 (hcat : ip_cat s ≤ 8) : rf (d + 1) 251 57 ls (.int x2 :: .int x1 :: .int x0 :: .ref 265 :: s) (SH n, I, L, R, nc, ns, nx) = rf_k (d + 1) 251 57 ls s (cf d 236 [.ref 265, .int x0, .int x1, .int x2] (SH n, I, L, R, nc, ns, nx)) := g_cv (idx := 343) (t := 8) [.int x2, .int x1, .int x0] (by decide +kernel) ow251 ms_8_343 mt_8_343 cy236_8 rfl rfl mL236 rfl rfl (by decide) hcat
theorem e251_60 : rf d 251 60 ls [.int x] h = some (.inl (some (.int x)), h) := g_ri (by decide +kernel) rt251
theorem en252 : cf d 252 [.ref a, .int x0, .int x1] h = rf d 252 0 [some (.ref a), some (.int x0), some (.int x1), none] [] h := rfl
theorem e252_0 : rf d 252 0 [some (.ref a), l1, l2, l3] s h = rf d 252 1 [some (.ref a), l1, l2, l3] (.ref a :: s) h := rf_pure (i := .aload_n 0) (len := 1) (okD_ok (by decide +kernel)) rfl
theorem e252_1 : rf d 252 1 [l0, some (.int x), l2, l3] s h = rf d 252 2 [l0, some (.int x), l2, l3] (.int x :: s) h := rf_pure (i := .iload_n 1) (len := 1) (okD_ok (by decide +kernel)) rfl
theorem e252_2 (hcat : ip_cat s ≤ 8) : rf (d + 1) 252 2 ls (.int x0 :: s) h = rf_k (d + 1) 252 2 ls s (cf d 225 [.int x0] h) := g_cs (idx := 330) [.int x0] (by decide +kernel) ow252 ms_8_330 mt_8_330 (by decide) rfl mL225 rfl hcat
theorem e252_5 : rf d 252 5 ls (.int x :: s) h = if ¬ x = 0 then rf d 252 12 ls s h else rf d 252 8 ls s h := g_if (c := .ne) (off := 7) _ (by decide +kernel) rfl cmp_d
theorem e252_8 : rf d 252 8 ls s h = rf d 252 9 ls (.int 1 :: s) h := rf_pure (i := .iconst (1)) (len := 1) (okD_ok (by decide +kernel)) rfl
theorem e252_9 : rf d 252 9 ls s h = rf d 252 24 ls s h := rf_goto ⟨okD_ok (i := .goto (15)) (len := 3) (by decide +kernel), rfl⟩
theorem e252_12 : rf d 252 12 [some (.ref a), l1, l2, l3] s h = rf d 252 13 [some (.ref a), l1, l2, l3] (.ref a :: s) h := rf_pure (i := .aload_n 0) (len := 1) (okD_ok (by decide +kernel)) rfl
theorem e252_13 (hcat : ip_cat s ≤ 8) : rf (d + 1) 252 13 ls (.ref 265 :: s) (SH n, I, L, R, nc, ns, nx) = rf_k (d + 1) 252 13 ls s (cf d 232 [.ref 265] (SH n, I, L, R, nc, ns, nx)) := g_cv (idx := 389) (t := 8) [] (by decide +kernel) ow252 ms_8_389 mt_8_389 cy232_8 rfl rfl mL232 rfl rfl (by decide) hcat
theorem e252_16 : rf d 252 16 ls (.int x :: s) h = if ¬ x = 0 then rf d 252 23 ls s h else rf d 252 19 ls s h := g_if (c := .ne) (off := 7) _ (by decide +kernel) rfl cmp_d
theorem e252_19 : rf d 252 19 ls s h = rf d 252 20 ls (.int 2 :: s) h := rf_pure (i := .iconst (2)) (len := 1) (okD_ok (by decide +kernel)) rfl
theorem e252_20 : rf d 252 20 ls s h = rf d 252 24 ls s h := rf_goto ⟨okD_ok (i := .goto (4)) (len := 3) (by decide +kernel), rfl⟩
theorem e252_23 : rf d 252 23 ls s h = rf d 252 24 ls (.int 0 :: s) h := rf_pure (i := .iconst (0)) (len := 1) (okD_ok (by decide +kernel)) rfl
theorem e252_24 : rf d 252 24 ls (.int x :: .ref 265 :: s) (SH n, I, L, R, nc, ns, nx) = rf d 252 27 ls s (SH n, ip_up I 265 0 x, L, R, nc, ns, nx) := g_pI (idx := 142) (by decide +kernel) ow252 f_8_142 rfl (by decide +kernel) rfl (by decide)
theorem e252_27 : rf d 252 27 [some (.ref a), l1, l2, l3] s h = rf d 252 28 [some (.ref a), l1, l2, l3] (.ref a :: s) h := rf_pure (i := .aload_n 0) (len := 1) (okD_ok (by decide +kernel)) rfl
theorem e252_28 : rf d 252 28 ls (.ref 265 :: s) (SH n, I, L, R, nc, ns, nx) = rf d 252 31 ls (.int (I 265 0) :: s) (SH n, I, L, R, nc, ns, nx) := g_I (idx := 142) (by decide +kernel) ow252 f_8_142 rfl rfl (by decide)
theorem e252_31 : rf d 252 31 ls (.int x :: s) h = if x ≤ 0 then rf d 252 36 ls s h else rf d 252 34 ls s h := g_if (c := .le) (off := 5) _ (by decide +kernel) rfl cmp_d
theorem e252_34 : rf d 252 34 ls s h = rf d 252 35 ls (.int 0 :: s) h := rf_pure (i := .iconst (0)) (len := 1) (okD_ok (by decide +kernel)) rfl
theorem e252_35 : rf d 252 35 ls [.int x] h = some (.inl (some (.int x)), h) := g_ri (by decide +kernel) rt252
theorem e252_36 : rf d 252 36 [l0, some (.int x), l2, l3] s h = rf d 252 37 [l0, some (.int x), l2, l3] (.int x :: s) h := rf_pure (i := .iload_n 1) (len := 1) (okD_ok (by decide +kernel)) rfl
theorem e252_37 : rf d 252 37 ls (.int x :: s) h = if ¬ x = 0 then rf d 252 47 ls s h else rf d 252 40 ls s h := g_if (c := .ne) (off := 10) _ (by decide +kernel) rfl cmp_d
theorem e252_40 : rf d 252 40 [some (.ref a), l1, l2, l3] s h = rf d 252 41 [some (.ref a), l1, l2, l3] (.ref a :: s) h := rf_pure (i := .aload_n 0) (len := 1) (okD_ok (by decide +kernel)) rfl
theorem e252_41 : rf d 252 41 ls (.ref 265 :: s) (SH n, I, L, R, nc, ns, nx) = rf d 252 44 ls (.int (I 265 60) :: s) (SH n, I, L, R, nc, ns, nx) := g_I (idx := 368) (by decide +kernel) ow252 f_8_368 rfl rfl (by decide)
theorem e252_44 : rf d 252 44 ls s h = rf d 252 51 ls s h := rf_goto ⟨okD_ok (i := .goto (7)) (len := 3) (by decide +kernel), rfl⟩
theorem e252_47 : rf d 252 47 [some (.ref a), l1, l2, l3] s h = rf d 252 48 [some (.ref a), l1, l2, l3] (.ref a :: s) h := rf_pure (i := .aload_n 0) (len := 1) (okD_ok (by decide +kernel)) rfl
theorem e252_48 : rf d 252 48 ls (.ref 265 :: s) (SH n, I, L, R, nc, ns, nx) = rf d 252 51 ls (.int (I 265 61) :: s) (SH n, I, L, R, nc, ns, nx) := g_I (idx := 371) (by decide +kernel) ow252 f_8_371 rfl rfl (by decide)
theorem e252_51 (hn : ip_nl l2 = true) : rf d 252 51 [l0, l1, l2, l3] (.int x :: s) h = rf d 252 52 [l0, l1, l2, some (.int x)] s h := g_sti (i := .istore_n 3) (len := 1) (q := 2) (p := 1) (by decide +kernel) rfl rfl hn
theorem e252_52 : rf d 252 52 [l0, l1, some (.int x), l3] s h = rf d 252 53 [l0, l1, some (.int x), l3] (.int x :: s) h := rf_pure (i := .iload_n 2) (len := 1) (okD_ok (by decide +kernel)) rfl
theorem e252_53 : rf d 252 53 ls (.int x :: s) h = if x = 0 then rf d 252 68 ls s h else rf d 252 56 ls s h := g_if (c := .eq) (off := 15) _ (by decide +kernel) rfl cmp_d
theorem e252_56 : rf d 252 56 [some (.ref a), l1, l2, l3] s h = rf d 252 57 [some (.ref a), l1, l2, l3] (.ref a :: s) h := rf_pure (i := .aload_n 0) (len := 1) (okD_ok (by decide +kernel)) rfl
theorem e252_57 : rf d 252 57 [l0, l1, l2, some (.int x)] s h = rf d 252 58 [l0, l1, l2, some (.int x)] (.int x :: s) h := rf_pure (i := .iload_n 3) (len := 1) (okD_ok (by decide +kernel)) rfl
theorem e252_58 : rf d 252 58 [some (.ref a), l1, l2, l3] s h = rf d 252 59 [some (.ref a), l1, l2, l3] (.ref a :: s) h := rf_pure (i := .aload_n 0) (len := 1) (okD_ok (by decide +kernel)) rfl
theorem e252_59 : rf d 252 59 ls (.ref 265 :: s) (SH n, I, L, R, nc, ns, nx) = rf d 252 62 ls (.int (I 265 58) :: s) (SH n, I, L, R, nc, ns, nx) := g_I (idx := 359) (by decide +kernel) ow252 f_8_359 rfl rfl (by decide)
theorem e252_62 (hcat : ip_cat s ≤ 8) : rf (d + 1) 252 62 ls (.int x1 :: .int x0 :: .ref 265 :: s) (SH n, I, L, R, nc, ns, nx) = rf_k (d + 1) 252 62 ls s (cf d 238 [.ref 265, .int x0, .int x1] (SH n, I, L, R, nc, ns, nx)) := g_cv (idx := 377) (t := 8) [.int x1, .int x0] (by decide +kernel) ow252 ms_8_377 mt_8_377 cy238_8 rfl rfl mL238 rfl rfl (by decide) hcat
theorem e252_65 : rf d 252 65 ls s h = rf d 252 69 ls s h := rf_goto ⟨okD_ok (i := .goto (4)) (len := 3) (by decide +kernel), rfl⟩
theorem e252_68 : rf d 252 68 [l0, l1, l2, some (.int x)] s h = rf d 252 69 [l0, l1, l2, some (.int x)] (.int x :: s) h := rf_pure (i := .iload_n 3) (len := 1) (okD_ok (by decide +kernel)) rfl
theorem e252_69 : rf d 252 69 ls [.int x] h = some (.inl (some (.int x)), h) := g_ri (by decide +kernel) rt252
theorem en253 : cf d 253 [.ref a, .int x0, .int x1, .int x2] h = rf d 253 0 [some (.ref a), some (.int x0), some (.int x1), some (.int x2), none, none, none, none, none, none, none, none, none, none] [] h := rfl
theorem e253_0 : rf d 253 0 [some (.ref a), l1, l2, l3, l4, l5, l6, l7, l8, l9, l10, l11, l12, l13] s h = rf d 253 1 [some (.ref a), l1, l2, l3, l4, l5, l6, l7, l8, l9, l10, l11, l12, l13] (.ref a :: s) h := rf_pure (i := .aload_n 0) (len := 1) (okD_ok (by decide +kernel)) rfl
theorem e253_1 : rf d 253 1 [l0, some (.int x), l2, l3, l4, l5, l6, l7, l8, l9, l10, l11, l12, l13] s h = rf d 253 2 [l0, some (.int x), l2, l3, l4, l5, l6, l7, l8, l9, l10, l11, l12, l13] (.int x :: s) h := rf_pure (i := .iload_n 1) (len := 1) (okD_ok (by decide +kernel)) rfl
theorem e253_2 : rf d 253 2 ls s h = rf d 253 3 ls (.int 0 :: s) h := rf_pure (i := .iconst (0)) (len := 1) (okD_ok (by decide +kernel)) rfl
theorem e253_3 : rf d 253 3 ls s h = rf d 253 5 ls (.int 99 :: s) h := rf_pure (i := .bipush (99)) (len := 2) (okD_ok (by decide +kernel)) rfl
theorem e253_5 (hcat : ip_cat s ≤ 8) : rf (d + 1) 253 5 ls (.int x2 :: .int x1 :: .int x0 :: s) h = rf_k (d + 1) 253 5 ls s (cf d 217 [.int x0, .int x1, .int x2] h) := g_cs (idx := 315) [.int x2, .int x1, .int x0] (by decide +kernel) ow253 ms_8_315 mt_8_315 (by decide) rfl mL217 rfl hcat
theorem e253_8 : rf d 253 8 ls (.int x :: s) h = if x = 0 then rf d 253 21 ls s h else rf d 253 11 ls s h := g_if (c := .eq) (off := 13) _ (by decide +kernel) rfl cmp_d
theorem e253_11 : rf d 253 11 [l0, l1, some (.int x), l3, l4, l5, l6, l7, l8, l9, l10, l11, l12, l13] s h = rf d 253 12 [l0, l1, some (.int x), l3, l4, l5, l6, l7, l8, l9, l10, l11, l12, l13] (.int x :: s) h := rf_pure (i := .iload_n 2) (len := 1) (okD_ok (by decide +kernel)) rfl
theorem e253_12 : rf d 253 12 ls s h = rf d 253 13 ls (.int 0 :: s) h := rf_pure (i := .iconst (0)) (len := 1) (okD_ok (by decide +kernel)) rfl
theorem e253_13 : rf d 253 13 ls s h = rf d 253 15 ls (.int 99 :: s) h := rf_pure (i := .bipush (99)) (len := 2) (okD_ok (by decide +kernel)) rfl
theorem e253_15 (hcat : ip_cat s ≤ 8) : rf (d + 1) 253 15 ls (.int x2 :: .int x1 :: .int x0 :: s) h = rf_k (d + 1) 253 15 ls s (cf d 217 [.int x0, .int x1, .int x2] h) := g_cs (idx := 315) [.int x2, .int x1, .int x0] (by decide +kernel) ow253 ms_8_315 mt_8_315 (by decide) rfl mL217 rfl hcat
theorem e253_18 : rf d 253 18 ls (.int x :: s) h = if ¬ x = 0 then rf d 253 25 ls s h else rf d 253 21 ls s h := g_if (c := .ne) (off := 7) _ (by decide +kernel) rfl cmp_d
theorem e253_21 : rf d 253 21 ls s h = rf d 253 22 ls (.int 1 :: s) h := rf_pure (i := .iconst (1)) (len := 1) (okD_ok (by decide +kernel)) rfl
theorem e253_22 : rf d 253 22 ls s h = rf d 253 50 ls s h := rf_goto ⟨okD_ok (i := .goto (28)) (len := 3) (by decide +kernel), rfl⟩
theorem e253_25 : rf d 253 25 [some (.ref a), l1, l2, l3, l4, l5, l6, l7, l8, l9, l10, l11, l12, l13] s h = rf d 253 26 [some (.ref a), l1, l2, l3, l4, l5, l6, l7, l8, l9, l10, l11, l12, l13] (.ref a :: s) h := rf_pure (i := .aload_n 0) (len := 1) (okD_ok (by decide +kernel)) rfl
theorem e253_26 (hcat : ip_cat s ≤ 8) : rf (d + 1) 253 26 ls (.ref 265 :: s) (SH n, I, L, R, nc, ns, nx) = rf_k (d + 1) 253 26 ls s (cf d 232 [.ref 265] (SH n, I, L, R, nc, ns, nx)) := g_cv (idx := 389) (t := 8) [] (by decide +kernel) ow253 ms_8_389 mt_8_389 cy232_8 rfl rfl mL232 rfl rfl (by decide) hcat
theorem e253_29 : rf d 253 29 ls (.int x :: s) h = if ¬ x = 0 then rf d 253 36 ls s h else rf d 253 32 ls s h := g_if (c := .ne) (off := 7) _ (by decide +kernel) rfl cmp_d
theorem e253_32 : rf d 253 32 ls s h = rf d 253 33 ls (.int 2 :: s) h := rf_pure (i := .iconst (2)) (len := 1) (okD_ok (by decide +kernel)) rfl
theorem e253_33 : rf d 253 33 ls s h = rf d 253 50 ls s h := rf_goto ⟨okD_ok (i := .goto (17)) (len := 3) (by decide +kernel), rfl⟩
theorem e253_36 : rf d 253 36 [l0, l1, l2, some (.int x), l4, l5, l6, l7, l8, l9, l10, l11, l12, l13] s h = rf d 253 37 [l0, l1, l2, some (.int x), l4, l5, l6, l7, l8, l9, l10, l11, l12, l13] (.int x :: s) h := rf_pure (i := .iload_n 3) (len := 1) (okD_ok (by decide +kernel)) rfl
theorem e253_37 : rf d 253 37 ls s h = rf d 253 38 ls (.int 0 :: s) h := rf_pure (i := .iconst (0)) (len := 1) (okD_ok (by decide +kernel)) rfl
theorem e253_38 : rf d 253 38 ls s h = rf d 253 39 ls (.int 2 :: s) h := rf_pure (i := .iconst (2)) (len := 1) (okD_ok (by decide +kernel)) rfl
theorem e253_39 (hcat : ip_cat s ≤ 8) : rf (d + 1) 253 39 ls (.int x2 :: .int x1 :: .int x0 :: s) h = rf_k (d + 1) 253 39 ls s (cf d 217 [.int x0, .int x1, .int x2] h) := g_cs (idx := 315) [.int x2, .int x1, .int x0] (by decide +kernel) ow253 ms_8_315 mt_8_315 (by decide) rfl mL217 rfl hcat
theorem e253_42 : rf d 253 42 ls (.int x :: s) h = if ¬ x = 0 then rf d 253 49 ls s h else rf d 253 45 ls s h := g_if (c := .ne) (off := 7) _ (by decide +kernel) rfl cmp_d
theorem e253_45 : rf d 253 45 ls s h = rf d 253 46 ls (.int 3 :: s) h := rf_pure (i := .iconst (3)) (len := 1) (okD_ok (by decide +kernel)) rfl
theorem e253_46 : rf d 253 46 ls s h = rf d 253 50 ls s h := rf_goto ⟨okD_ok (i := .goto (4)) (len := 3) (by decide +kernel), rfl⟩
theorem e253_49 : rf d 253 49 ls s h = rf d 253 50 ls (.int 0 :: s) h := rf_pure (i := .iconst (0)) (len := 1) (okD_ok (by decide +kernel)) rfl
theorem e253_50 : rf d 253 50 ls (.int x :: .ref 265 :: s) (SH n, I, L, R, nc, ns, nx) = rf d 253 53 ls s (SH n, ip_up I 265 0 x, L, R, nc, ns, nx) := g_pI (idx := 142) (by decide +kernel) ow253 f_8_142 rfl (by decide +kernel) rfl (by decide)
theorem e253_53 : rf d 253 53 [some (.ref a), l1, l2, l3, l4, l5, l6, l7, l8, l9, l10, l11, l12, l13] s h = rf d 253 54 [some (.ref a), l1, l2, l3, l4, l5, l6, l7, l8, l9, l10, l11, l12, l13] (.ref a :: s) h := rf_pure (i := .aload_n 0) (len := 1) (okD_ok (by decide +kernel)) rfl
theorem e253_54 : rf d 253 54 ls (.ref 265 :: s) (SH n, I, L, R, nc, ns, nx) = rf d 253 57 ls (.int (I 265 0) :: s) (SH n, I, L, R, nc, ns, nx) := g_I (idx := 142) (by decide +kernel) ow253 f_8_142 rfl rfl (by decide)
theorem e253_57 : rf d 253 57 ls (.int x :: s) h = if x ≤ 0 then rf d 253 62 ls s h else rf d 253 60 ls s h := g_if (c := .le) (off := 5) _ (by decide +kernel) rfl cmp_d
theorem e253_60 : rf d 253 60 ls s h = rf d 253 61 ls (.int 0 :: s) h := rf_pure (i := .iconst (0)) (len := 1) (okD_ok (by decide +kernel)) rfl
theorem e253_61 : rf d 253 61 ls [.int x] h = some (.inl (some (.int x)), h) := g_ri (by decide +kernel) rt253
theorem e253_62 : rf d 253 62 ls s h = rf d 253 63 ls (.int 0 :: s) h := rf_pure (i := .iconst (0)) (len := 1) (okD_ok (by decide +kernel)) rfl
theorem e253_63 (hn : ip_nl l3 = true) : rf d 253 63 [l0, l1, l2, l3, l4, l5, l6, l7, l8, l9, l10, l11, l12, l13] (.int x :: s) h = rf d 253 65 [l0, l1, l2, l3, some (.int x), l5, l6, l7, l8, l9, l10, l11, l12, l13] s h := g_sti (i := .istore 4) (len := 2) (q := 3) (p := 2) (by decide +kernel) rfl rfl hn
theorem e253_65 : rf d 253 65 [l0, l1, l2, l3, some (.int x), l5, l6, l7, l8, l9, l10, l11, l12, l13] s h = rf d 253 67 [l0, l1, l2, l3, some (.int x), l5, l6, l7, l8, l9, l10, l11, l12, l13] (.int x :: s) h := rf_pure (i := .iload 4) (len := 2) (okD_ok (by decide +kernel)) rfl
theorem e253_67 : rf d 253 67 ls s h = rf d 253 70 ls (.int 256 :: s) h := rf_pure (i := .sipush (256)) (len := 3) (okD_ok (by decide +kernel)) rfl
theorem e253_70 : rf d 253 70 ls (.int y :: .int x :: s) h = if y ≤ x then rf d 253 87 ls s h else rf d 253 73 ls s h := g_ic (c := .ge) (off := 17) _ (by decide +kernel) rfl cmp_d
theorem e253_73 : rf d 253 73 [some (.ref a), l1, l2, l3, l4, l5, l6, l7, l8, l9, l10, l11, l12, l13] s h = rf d 253 74 [some (.ref a), l1, l2, l3, l4, l5, l6, l7, l8, l9, l10, l11, l12, l13] (.ref a :: s) h := rf_pure (i := .aload_n 0) (len := 1) (okD_ok (by decide +kernel)) rfl
theorem e253_74 (hR : LYR R) : rf d 253 74 ls (.ref 265 :: s) (SH n, I, L, R, nc, ns, nx) = rf d 253 77 ls (.ref 305 :: s) (SH n, I, L, R, nc, ns, nx) := g_R (idx := 133) (by decide +kernel) ow253 f_8_133 rfl rfl (by decide) (ly_265_64 hR)
theorem e253_77 : rf d 253 77 [l0, l1, l2, l3, some (.int x), l5, l6, l7, l8, l9, l10, l11, l12, l13] s h = rf d 253 79 [l0, l1, l2, l3, some (.int x), l5, l6, l7, l8, l9, l10, l11, l12, l13] (.int x :: s) h := rf_pure (i := .iload 4) (len := 2) (okD_ok (by decide +kernel)) rfl
theorem e253_79 : rf d 253 79 ls s h = rf d 253 80 ls (.int (-1) :: s) h := rf_pure (i := .iconst (-1)) (len := 1) (okD_ok (by decide +kernel)) rfl
theorem e253_80 (q : ia n a j) : rf d 253 80 ls (.int x :: .int j :: .ref a :: s) (SH n, I, L, R, nc, ns, nx) = rf d 253 81 ls s (SH n, ip_up I a j.toNatClampNeg x, L, R, nc, ns, nx) := g_ias (by decide +kernel) q
theorem e253_81 (hn : ip_nl l3 = true) : rf d 253 81 [l0, l1, l2, l3, some (.int x), l5, l6, l7, l8, l9, l10, l11, l12, l13] s h = rf d 253 84 [l0, l1, l2, l3, some (.int (x + 1)), l5, l6, l7, l8, l9, l10, l11, l12, l13] s h := g_inc (q := 3) (z := 1) (w := 1) (x := x) (by decide) (by decide +kernel) rfl rfl hn
theorem e253_84 : rf d 253 84 ls s h = rf d 253 65 ls s h := rf_goto ⟨okD_ok (i := .goto (-19)) (len := 3) (by decide +kernel), rfl⟩
theorem e253_87 : rf d 253 87 [some (.ref a), l1, l2, l3, l4, l5, l6, l7, l8, l9, l10, l11, l12, l13] s h = rf d 253 88 [some (.ref a), l1, l2, l3, l4, l5, l6, l7, l8, l9, l10, l11, l12, l13] (.ref a :: s) h := rf_pure (i := .aload_n 0) (len := 1) (okD_ok (by decide +kernel)) rfl
theorem e253_88 : rf d 253 88 ls (.ref 265 :: s) (SH n, I, L, R, nc, ns, nx) = rf d 253 91 ls (.int (I 265 59) :: s) (SH n, I, L, R, nc, ns, nx) := g_I (idx := 362) (by decide +kernel) ow253 f_8_362 rfl rfl (by decide)
theorem e253_91 : rf d 253 91 ls (.int x :: s) h = if ¬ x = 0 then rf d 253 101 ls s h else rf d 253 94 ls s h := g_if (c := .ne) (off := 10) _ (by decide +kernel) rfl cmp_d
theorem e253_94 : rf d 253 94 [some (.ref a), l1, l2, l3, l4, l5, l6, l7, l8, l9, l10, l11, l12, l13] s h = rf d 253 95 [some (.ref a), l1, l2, l3, l4, l5, l6, l7, l8, l9, l10, l11, l12, l13] (.ref a :: s) h := rf_pure (i := .aload_n 0) (len := 1) (okD_ok (by decide +kernel)) rfl
theorem e253_95 : rf d 253 95 ls (.ref 265 :: s) (SH n, I, L, R, nc, ns, nx) = rf d 253 98 ls (.int (I 265 60) :: s) (SH n, I, L, R, nc, ns, nx) := g_I (idx := 368) (by decide +kernel) ow253 f_8_368 rfl rfl (by decide)
theorem e253_98 : rf d 253 98 ls s h = rf d 253 105 ls s h := rf_goto ⟨okD_ok (i := .goto (7)) (len := 3) (by decide +kernel), rfl⟩
theorem e253_101 : rf d 253 101 [some (.ref a), l1, l2, l3, l4, l5, l6, l7, l8, l9, l10, l11, l12, l13] s h = rf d 253 102 [some (.ref a), l1, l2, l3, l4, l5, l6, l7, l8, l9, l10, l11, l12, l13] (.ref a :: s) h := rf_pure (i := .aload_n 0) (len := 1) (okD_ok (by decide +kernel)) rfl
theorem e253_102 : rf d 253 102 ls (.ref 265 :: s) (SH n, I, L, R, nc, ns, nx) = rf d 253 105 ls (.int (I 265 61) :: s) (SH n, I, L, R, nc, ns, nx) := g_I (idx := 371) (by decide +kernel) ow253 f_8_371 rfl rfl (by decide)
theorem e253_105 (hn : ip_nl l3 = true) : rf d 253 105 [l0, l1, l2, l3, l4, l5, l6, l7, l8, l9, l10, l11, l12, l13] (.int x :: s) h = rf d 253 107 [l0, l1, l2, l3, some (.int x), l5, l6, l7, l8, l9, l10, l11, l12, l13] s h := g_sti (i := .istore 4) (len := 2) (q := 3) (p := 2) (by decide +kernel) rfl rfl hn
theorem e253_107 : rf d 253 107 [some (.ref a), l1, l2, l3, l4, l5, l6, l7, l8, l9, l10, l11, l12, l13] s h = rf d 253 108 [some (.ref a), l1, l2, l3, l4, l5, l6, l7, l8, l9, l10, l11, l12, l13] (.ref a :: s) h := rf_pure (i := .aload_n 0) (len := 1) (okD_ok (by decide +kernel)) rfl
theorem e253_108 : rf d 253 108 ls (.ref 265 :: s) (SH n, I, L, R, nc, ns, nx) = rf d 253 111 ls (.int (I 265 59) :: s) (SH n, I, L, R, nc, ns, nx) := g_I (idx := 362) (by decide +kernel) ow253 f_8_362 rfl rfl (by decide)
theorem e253_111 : rf d 253 111 ls (.int x :: s) h = if ¬ x = 0 then rf d 253 121 ls s h else rf d 253 114 ls s h := g_if (c := .ne) (off := 10) _ (by decide +kernel) rfl cmp_d
theorem e253_114 : rf d 253 114 [some (.ref a), l1, l2, l3, l4, l5, l6, l7, l8, l9, l10, l11, l12, l13] s h = rf d 253 115 [some (.ref a), l1, l2, l3, l4, l5, l6, l7, l8, l9, l10, l11, l12, l13] (.ref a :: s) h := rf_pure (i := .aload_n 0) (len := 1) (okD_ok (by decide +kernel)) rfl
theorem e253_115 : rf d 253 115 ls (.ref 265 :: s) (SH n, I, L, R, nc, ns, nx) = rf d 253 118 ls (.int (I 265 61) :: s) (SH n, I, L, R, nc, ns, nx) := g_I (idx := 371) (by decide +kernel) ow253 f_8_371 rfl rfl (by decide)
theorem e253_118 : rf d 253 118 ls s h = rf d 253 125 ls s h := rf_goto ⟨okD_ok (i := .goto (7)) (len := 3) (by decide +kernel), rfl⟩
theorem e253_121 : rf d 253 121 [some (.ref a), l1, l2, l3, l4, l5, l6, l7, l8, l9, l10, l11, l12, l13] s h = rf d 253 122 [some (.ref a), l1, l2, l3, l4, l5, l6, l7, l8, l9, l10, l11, l12, l13] (.ref a :: s) h := rf_pure (i := .aload_n 0) (len := 1) (okD_ok (by decide +kernel)) rfl
theorem e253_122 : rf d 253 122 ls (.ref 265 :: s) (SH n, I, L, R, nc, ns, nx) = rf d 253 125 ls (.int (I 265 60) :: s) (SH n, I, L, R, nc, ns, nx) := g_I (idx := 368) (by decide +kernel) ow253 f_8_368 rfl rfl (by decide)
theorem e253_125 (hn : ip_nl l4 = true) : rf d 253 125 [l0, l1, l2, l3, l4, l5, l6, l7, l8, l9, l10, l11, l12, l13] (.int x :: s) h = rf d 253 127 [l0, l1, l2, l3, l4, some (.int x), l6, l7, l8, l9, l10, l11, l12, l13] s h := g_sti (i := .istore 5) (len := 2) (q := 4) (p := 2) (by decide +kernel) rfl rfl hn
theorem e253_127 : rf d 253 127 ls s h = rf d 253 128 ls (.int (-1) :: s) h := rf_pure (i := .iconst (-1)) (len := 1) (okD_ok (by decide +kernel)) rfl
theorem e253_128 (hn : ip_nl l5 = true) : rf d 253 128 [l0, l1, l2, l3, l4, l5, l6, l7, l8, l9, l10, l11, l12, l13] (.int x :: s) h = rf d 253 130 [l0, l1, l2, l3, l4, l5, some (.int x), l7, l8, l9, l10, l11, l12, l13] s h := g_sti (i := .istore 6) (len := 2) (q := 5) (p := 2) (by decide +kernel) rfl rfl hn
theorem e253_130 : rf d 253 130 ls s h = rf d 253 131 ls (.int 0 :: s) h := rf_pure (i := .iconst (0)) (len := 1) (okD_ok (by decide +kernel)) rfl
theorem e253_131 (hn : ip_nl l6 = true) : rf d 253 131 [l0, l1, l2, l3, l4, l5, l6, l7, l8, l9, l10, l11, l12, l13] (.int x :: s) h = rf d 253 133 [l0, l1, l2, l3, l4, l5, l6, some (.int x), l8, l9, l10, l11, l12, l13] s h := g_sti (i := .istore 7) (len := 2) (q := 6) (p := 2) (by decide +kernel) rfl rfl hn
theorem e253_133 : rf d 253 133 ls s h = rf d 253 134 ls (.int 0 :: s) h := rf_pure (i := .iconst (0)) (len := 1) (okD_ok (by decide +kernel)) rfl
theorem e253_134 (hn : ip_nl l7 = true) : rf d 253 134 [l0, l1, l2, l3, l4, l5, l6, l7, l8, l9, l10, l11, l12, l13] (.int x :: s) h = rf d 253 136 [l0, l1, l2, l3, l4, l5, l6, l7, some (.int x), l9, l10, l11, l12, l13] s h := g_sti (i := .istore 8) (len := 2) (q := 7) (p := 2) (by decide +kernel) rfl rfl hn
theorem e253_136 : rf d 253 136 ls s h = rf d 253 137 ls (.int 0 :: s) h := rf_pure (i := .iconst (0)) (len := 1) (okD_ok (by decide +kernel)) rfl
theorem e253_137 (hn : ip_nl l8 = true) : rf d 253 137 [l0, l1, l2, l3, l4, l5, l6, l7, l8, l9, l10, l11, l12, l13] (.int x :: s) h = rf d 253 139 [l0, l1, l2, l3, l4, l5, l6, l7, l8, some (.int x), l10, l11, l12, l13] s h := g_sti (i := .istore 9) (len := 2) (q := 8) (p := 2) (by decide +kernel) rfl rfl hn
theorem e253_139 : rf d 253 139 [l0, l1, l2, l3, l4, l5, l6, l7, l8, some (.int x), l10, l11, l12, l13] s h = rf d 253 141 [l0, l1, l2, l3, l4, l5, l6, l7, l8, some (.int x), l10, l11, l12, l13] (.int x :: s) h := rf_pure (i := .iload 9) (len := 2) (okD_ok (by decide +kernel)) rfl
theorem e253_141 : rf d 253 141 [some (.ref a), l1, l2, l3, l4, l5, l6, l7, l8, l9, l10, l11, l12, l13] s h = rf d 253 142 [some (.ref a), l1, l2, l3, l4, l5, l6, l7, l8, l9, l10, l11, l12, l13] (.ref a :: s) h := rf_pure (i := .aload_n 0) (len := 1) (okD_ok (by decide +kernel)) rfl
theorem e253_142 (hcat : ip_cat s ≤ 8) : rf (d + 1) 253 142 ls (.ref 265 :: s) (SH n, I, L, R, nc, ns, nx) = rf_k (d + 1) 253 142 ls s (cf d 187 [.ref 265] (SH n, I, L, R, nc, ns, nx)) := g_cv (idx := 309) (t := 8) [] (by decide +kernel) ow253 ms_8_309 mt_8_309 cy187_8 rfl rfl mL187 rfl rfl (by decide) hcat
theorem e253_145 : rf d 253 145 ls (.int y :: .int x :: s) h = if y < x then rf d 253 295 ls s h else rf d 253 148 ls s h := g_ic (c := .gt) (off := 150) _ (by decide +kernel) rfl cmp_d
theorem e253_148 : rf d 253 148 [some (.ref a), l1, l2, l3, l4, l5, l6, l7, l8, l9, l10, l11, l12, l13] s h = rf d 253 149 [some (.ref a), l1, l2, l3, l4, l5, l6, l7, l8, l9, l10, l11, l12, l13] (.ref a :: s) h := rf_pure (i := .aload_n 0) (len := 1) (okD_ok (by decide +kernel)) rfl
theorem e253_149 : rf d 253 149 [l0, l1, l2, l3, l4, l5, l6, l7, l8, some (.int x), l10, l11, l12, l13] s h = rf d 253 151 [l0, l1, l2, l3, l4, l5, l6, l7, l8, some (.int x), l10, l11, l12, l13] (.int x :: s) h := rf_pure (i := .iload 9) (len := 2) (okD_ok (by decide +kernel)) rfl
theorem e253_151 (hcat : ip_cat s ≤ 8) : rf (d + 1) 253 151 ls (.int x0 :: .ref 265 :: s) (SH n, I, L, R, nc, ns, nx) = rf_k (d + 1) 253 151 ls s (cf d 247 [.ref 265, .int x0] (SH n, I, L, R, nc, ns, nx)) := g_cv (idx := 404) (t := 8) [.int x0] (by decide +kernel) ow253 ms_8_404 mt_8_404 cy247_8 rfl rfl mL247 rfl rfl (by decide) hcat
theorem e253_154 : rf d 253 154 [l0, some (.int x), l2, l3, l4, l5, l6, l7, l8, l9, l10, l11, l12, l13] s h = rf d 253 155 [l0, some (.int x), l2, l3, l4, l5, l6, l7, l8, l9, l10, l11, l12, l13] (.int x :: s) h := rf_pure (i := .iload_n 1) (len := 1) (okD_ok (by decide +kernel)) rfl
theorem e253_155 : rf d 253 155 ls (.int y :: .int x :: s) h = if x ≤ y then rf d 253 161 ls s h else rf d 253 158 ls s h := g_ic (c := .le) (off := 6) _ (by decide +kernel) rfl cmp_d
theorem e253_158 : rf d 253 158 ls s h = rf d 253 289 ls s h := rf_goto ⟨okD_ok (i := .goto (131)) (len := 3) (by decide +kernel), rfl⟩
theorem e253_161 : rf d 253 161 ls s h = rf d 253 162 ls (.int (-1) :: s) h := rf_pure (i := .iconst (-1)) (len := 1) (okD_ok (by decide +kernel)) rfl
theorem e253_162 (hn : ip_nl l9 = true) : rf d 253 162 [l0, l1, l2, l3, l4, l5, l6, l7, l8, l9, l10, l11, l12, l13] (.int x :: s) h = rf d 253 164 [l0, l1, l2, l3, l4, l5, l6, l7, l8, l9, some (.int x), l11, l12, l13] s h := g_sti (i := .istore 10) (len := 2) (q := 9) (p := 2) (by decide +kernel) rfl rfl hn
theorem e253_164 : rf d 253 164 ls s h = rf d 253 165 ls (.int 0 :: s) h := rf_pure (i := .iconst (0)) (len := 1) (okD_ok (by decide +kernel)) rfl
theorem e253_165 (hn : ip_nl l10 = true) : rf d 253 165 [l0, l1, l2, l3, l4, l5, l6, l7, l8, l9, l10, l11, l12, l13] (.int x :: s) h = rf d 253 167 [l0, l1, l2, l3, l4, l5, l6, l7, l8, l9, l10, some (.int x), l12, l13] s h := g_sti (i := .istore 11) (len := 2) (q := 10) (p := 2) (by decide +kernel) rfl rfl hn
theorem e253_167 : rf d 253 167 ls s h = rf d 253 168 ls (.int 0 :: s) h := rf_pure (i := .iconst (0)) (len := 1) (okD_ok (by decide +kernel)) rfl
theorem e253_168 (hn : ip_nl l11 = true) : rf d 253 168 [l0, l1, l2, l3, l4, l5, l6, l7, l8, l9, l10, l11, l12, l13] (.int x :: s) h = rf d 253 170 [l0, l1, l2, l3, l4, l5, l6, l7, l8, l9, l10, l11, some (.int x), l13] s h := g_sti (i := .istore 12) (len := 2) (q := 11) (p := 2) (by decide +kernel) rfl rfl hn
theorem e253_170 : rf d 253 170 [l0, l1, l2, l3, l4, l5, l6, l7, l8, l9, l10, l11, some (.int x), l13] s h = rf d 253 172 [l0, l1, l2, l3, l4, l5, l6, l7, l8, l9, l10, l11, some (.int x), l13] (.int x :: s) h := rf_pure (i := .iload 12) (len := 2) (okD_ok (by decide +kernel)) rfl
theorem e253_172 : rf d 253 172 [some (.ref a), l1, l2, l3, l4, l5, l6, l7, l8, l9, l10, l11, l12, l13] s h = rf d 253 173 [some (.ref a), l1, l2, l3, l4, l5, l6, l7, l8, l9, l10, l11, l12, l13] (.ref a :: s) h := rf_pure (i := .aload_n 0) (len := 1) (okD_ok (by decide +kernel)) rfl
theorem e253_173 (hcat : ip_cat s ≤ 8) : rf (d + 1) 253 173 ls (.ref 265 :: s) (SH n, I, L, R, nc, ns, nx) = rf_k (d + 1) 253 173 ls s (cf d 187 [.ref 265] (SH n, I, L, R, nc, ns, nx)) := g_cv (idx := 309) (t := 8) [] (by decide +kernel) ow253 ms_8_309 mt_8_309 cy187_8 rfl rfl mL187 rfl rfl (by decide) hcat
theorem e253_176 : rf d 253 176 ls (.int y :: .int x :: s) h = if y < x then rf d 253 241 ls s h else rf d 253 179 ls s h := g_ic (c := .gt) (off := 65) _ (by decide +kernel) rfl cmp_d
theorem e253_179 : rf d 253 179 [some (.ref a), l1, l2, l3, l4, l5, l6, l7, l8, l9, l10, l11, l12, l13] s h = rf d 253 180 [some (.ref a), l1, l2, l3, l4, l5, l6, l7, l8, l9, l10, l11, l12, l13] (.ref a :: s) h := rf_pure (i := .aload_n 0) (len := 1) (okD_ok (by decide +kernel)) rfl
theorem e253_180 : rf d 253 180 [l0, l1, l2, l3, l4, l5, l6, l7, l8, l9, l10, l11, some (.int x), l13] s h = rf d 253 182 [l0, l1, l2, l3, l4, l5, l6, l7, l8, l9, l10, l11, some (.int x), l13] (.int x :: s) h := rf_pure (i := .iload 12) (len := 2) (okD_ok (by decide +kernel)) rfl
theorem e253_182 (hcat : ip_cat s ≤ 8) : rf (d + 1) 253 182 ls (.int x0 :: .ref 265 :: s) (SH n, I, L, R, nc, ns, nx) = rf_k (d + 1) 253 182 ls s (cf d 247 [.ref 265, .int x0] (SH n, I, L, R, nc, ns, nx)) := g_cv (idx := 404) (t := 8) [.int x0] (by decide +kernel) ow253 ms_8_404 mt_8_404 cy247_8 rfl rfl mL247 rfl rfl (by decide) hcat
theorem e253_185 : rf d 253 185 [l0, l1, some (.int x), l3, l4, l5, l6, l7, l8, l9, l10, l11, l12, l13] s h = rf d 253 186 [l0, l1, some (.int x), l3, l4, l5, l6, l7, l8, l9, l10, l11, l12, l13] (.int x :: s) h := rf_pure (i := .iload_n 2) (len := 1) (okD_ok (by decide +kernel)) rfl
theorem e253_186 : rf d 253 186 ls (.int y :: .int x :: s) h = if x ≤ y then rf d 253 192 ls s h else rf d 253 189 ls s h := g_ic (c := .le) (off := 6) _ (by decide +kernel) rfl cmp_d
theorem e253_189 : rf d 253 189 ls s h = rf d 253 235 ls s h := rf_goto ⟨okD_ok (i := .goto (46)) (len := 3) (by decide +kernel), rfl⟩
theorem e253_192 : rf d 253 192 [some (.ref a), l1, l2, l3, l4, l5, l6, l7, l8, l9, l10, l11, l12, l13] s h = rf d 253 193 [some (.ref a), l1, l2, l3, l4, l5, l6, l7, l8, l9, l10, l11, l12, l13] (.ref a :: s) h := rf_pure (i := .aload_n 0) (len := 1) (okD_ok (by decide +kernel)) rfl
theorem e253_193 : rf d 253 193 [l0, l1, l2, l3, l4, l5, l6, l7, l8, some (.int x), l10, l11, l12, l13] s h = rf d 253 195 [l0, l1, l2, l3, l4, l5, l6, l7, l8, some (.int x), l10, l11, l12, l13] (.int x :: s) h := rf_pure (i := .iload 9) (len := 2) (okD_ok (by decide +kernel)) rfl
theorem e253_195 : rf d 253 195 [l0, l1, l2, l3, some (.int x), l5, l6, l7, l8, l9, l10, l11, l12, l13] s h = rf d 253 197 [l0, l1, l2, l3, some (.int x), l5, l6, l7, l8, l9, l10, l11, l12, l13] (.int x :: s) h := rf_pure (i := .iload 4) (len := 2) (okD_ok (by decide +kernel)) rfl
theorem e253_197 : rf d 253 197 ls (.int y :: .int x :: s) h = rf d 253 198 ls (.int (x &&& y) :: s) h := rf_pure (i := .iand) (len := 1) (okD_ok (by decide +kernel)) rfl
theorem e253_198 : rf d 253 198 [l0, l1, l2, l3, l4, l5, l6, l7, l8, l9, l10, l11, some (.int x), l13] s h = rf d 253 200 [l0, l1, l2, l3, l4, l5, l6, l7, l8, l9, l10, l11, some (.int x), l13] (.int x :: s) h := rf_pure (i := .iload 12) (len := 2) (okD_ok (by decide +kernel)) rfl
theorem e253_200 : rf d 253 200 [l0, l1, l2, l3, l4, some (.int x), l6, l7, l8, l9, l10, l11, l12, l13] s h = rf d 253 202 [l0, l1, l2, l3, l4, some (.int x), l6, l7, l8, l9, l10, l11, l12, l13] (.int x :: s) h := rf_pure (i := .iload 5) (len := 2) (okD_ok (by decide +kernel)) rfl
theorem e253_202 : rf d 253 202 ls (.int y :: .int x :: s) h = rf d 253 203 ls (.int (x &&& y) :: s) h := rf_pure (i := .iand) (len := 1) (okD_ok (by decide +kernel)) rfl
theorem e253_203 (hcat : ip_cat s ≤ 8) : rf (d + 1) 253 203 ls (.int x1 :: .int x0 :: .ref 265 :: s) (SH n, I, L, R, nc, ns, nx) = rf_k (d + 1) 253 203 ls s (cf d 254 [.ref 265, .int x0, .int x1] (SH n, I, L, R, nc, ns, nx)) := g_cv (idx := 413) (t := 8) [.int x1, .int x0] (by decide +kernel) ow253 ms_8_413 mt_8_413 cy254_8 rfl rfl mL254 rfl rfl (by decide) hcat
theorem e253_206 (hcat : ip_cat s ≤ 8) : rf (d + 1) 253 206 ls (.int x0 :: s) h = rf_k (d + 1) 253 206 ls s (cf d 250 [.int x0] h) := g_cs (idx := 410) [.int x0] (by decide +kernel) ow253 ms_8_410 mt_8_410 (by decide) rfl mL250 rfl hcat
theorem e253_209 (hn : ip_nl l12 = true) : rf d 253 209 [l0, l1, l2, l3, l4, l5, l6, l7, l8, l9, l10, l11, l12, l13] (.int x :: s) h = rf d 253 211 [l0, l1, l2, l3, l4, l5, l6, l7, l8, l9, l10, l11, l12, some (.int x)] s h := g_sti (i := .istore 13) (len := 2) (q := 12) (p := 2) (by decide +kernel) rfl rfl hn
theorem e253_211 : rf d 253 211 [l0, l1, l2, l3, l4, l5, l6, l7, l8, l9, some (.int x), l11, l12, l13] s h = rf d 253 213 [l0, l1, l2, l3, l4, l5, l6, l7, l8, l9, some (.int x), l11, l12, l13] (.int x :: s) h := rf_pure (i := .iload 10) (len := 2) (okD_ok (by decide +kernel)) rfl
theorem e253_213 : rf d 253 213 ls s h = rf d 253 214 ls (.int (-1) :: s) h := rf_pure (i := .iconst (-1)) (len := 1) (okD_ok (by decide +kernel)) rfl
theorem e253_214 : rf d 253 214 ls (.int y :: .int x :: s) h = if x = y then rf d 253 227 ls s h else rf d 253 217 ls s h := g_ic (c := .eq) (off := 13) _ (by decide +kernel) rfl cmp_d
theorem e253_217 : rf d 253 217 [l0, l1, l2, l3, l4, l5, l6, l7, l8, l9, l10, l11, l12, some (.int x)] s h = rf d 253 219 [l0, l1, l2, l3, l4, l5, l6, l7, l8, l9, l10, l11, l12, some (.int x)] (.int x :: s) h := rf_pure (i := .iload 13) (len := 2) (okD_ok (by decide +kernel)) rfl
theorem e253_219 : rf d 253 219 [l0, l1, l2, l3, l4, l5, l6, l7, l8, l9, some (.int x), l11, l12, l13] s h = rf d 253 221 [l0, l1, l2, l3, l4, l5, l6, l7, l8, l9, some (.int x), l11, l12, l13] (.int x :: s) h := rf_pure (i := .iload 10) (len := 2) (okD_ok (by decide +kernel)) rfl
theorem e253_221 : rf d 253 221 ls (.int y :: .int x :: s) h = if x < y then rf d 253 227 ls s h else rf d 253 224 ls s h := g_ic (c := .lt) (off := 6) _ (by decide +kernel) rfl cmp_d
theorem e253_224 : rf d 253 224 ls s h = rf d 253 235 ls s h := rf_goto ⟨okD_ok (i := .goto (11)) (len := 3) (by decide +kernel), rfl⟩
theorem e253_227 : rf d 253 227 [l0, l1, l2, l3, l4, l5, l6, l7, l8, l9, l10, l11, l12, some (.int x)] s h = rf d 253 229 [l0, l1, l2, l3, l4, l5, l6, l7, l8, l9, l10, l11, l12, some (.int x)] (.int x :: s) h := rf_pure (i := .iload 13) (len := 2) (okD_ok (by decide +kernel)) rfl
theorem e253_229 (hn : ip_nl l9 = true) : rf d 253 229 [l0, l1, l2, l3, l4, l5, l6, l7, l8, l9, l10, l11, l12, l13] (.int x :: s) h = rf d 253 231 [l0, l1, l2, l3, l4, l5, l6, l7, l8, l9, some (.int x), l11, l12, l13] s h := g_sti (i := .istore 10) (len := 2) (q := 9) (p := 2) (by decide +kernel) rfl rfl hn
theorem e253_231 : rf d 253 231 [l0, l1, l2, l3, l4, l5, l6, l7, l8, l9, l10, l11, some (.int x), l13] s h = rf d 253 233 [l0, l1, l2, l3, l4, l5, l6, l7, l8, l9, l10, l11, some (.int x), l13] (.int x :: s) h := rf_pure (i := .iload 12) (len := 2) (okD_ok (by decide +kernel)) rfl
theorem e253_233 (hn : ip_nl l10 = true) : rf d 253 233 [l0, l1, l2, l3, l4, l5, l6, l7, l8, l9, l10, l11, l12, l13] (.int x :: s) h = rf d 253 235 [l0, l1, l2, l3, l4, l5, l6, l7, l8, l9, l10, some (.int x), l12, l13] s h := g_sti (i := .istore 11) (len := 2) (q := 10) (p := 2) (by decide +kernel) rfl rfl hn
theorem e253_235 (hn : ip_nl l11 = true) : rf d 253 235 [l0, l1, l2, l3, l4, l5, l6, l7, l8, l9, l10, l11, some (.int x), l13] s h = rf d 253 238 [l0, l1, l2, l3, l4, l5, l6, l7, l8, l9, l10, l11, some (.int (x + 1)), l13] s h := g_inc (q := 11) (z := 1) (w := 1) (x := x) (by decide) (by decide +kernel) rfl rfl hn
theorem e253_238 : rf d 253 238 ls s h = rf d 253 170 ls s h := rf_goto ⟨okD_ok (i := .goto (-68)) (len := 3) (by decide +kernel), rfl⟩
theorem e253_241 : rf d 253 241 [l0, l1, l2, l3, l4, l5, some (.int x), l7, l8, l9, l10, l11, l12, l13] s h = rf d 253 243 [l0, l1, l2, l3, l4, l5, some (.int x), l7, l8, l9, l10, l11, l12, l13] (.int x :: s) h := rf_pure (i := .iload 6) (len := 2) (okD_ok (by decide +kernel)) rfl
theorem e253_243 : rf d 253 243 ls s h = rf d 253 244 ls (.int (-1) :: s) h := rf_pure (i := .iconst (-1)) (len := 1) (okD_ok (by decide +kernel)) rfl
theorem e253_244 : rf d 253 244 ls (.int y :: .int x :: s) h = if x = y then rf d 253 277 ls s h else rf d 253 247 ls s h := g_ic (c := .eq) (off := 33) _ (by decide +kernel) rfl cmp_d
theorem e253_247 : rf d 253 247 [l0, l1, l2, l3, l4, l5, l6, l7, l8, l9, some (.int x), l11, l12, l13] s h = rf d 253 249 [l0, l1, l2, l3, l4, l5, l6, l7, l8, l9, some (.int x), l11, l12, l13] (.int x :: s) h := rf_pure (i := .iload 10) (len := 2) (okD_ok (by decide +kernel)) rfl
theorem e253_249 : rf d 253 249 [l0, l1, l2, l3, l4, l5, l6, some (.int x), l8, l9, l10, l11, l12, l13] s h = rf d 253 251 [l0, l1, l2, l3, l4, l5, l6, some (.int x), l8, l9, l10, l11, l12, l13] (.int x :: s) h := rf_pure (i := .iload 7) (len := 2) (okD_ok (by decide +kernel)) rfl
theorem e253_251 : rf d 253 251 ls (.int y :: .int x :: s) h = if x < y then rf d 253 289 ls s h else rf d 253 254 ls s h := g_ic (c := .lt) (off := 38) _ (by decide +kernel) rfl cmp_d
theorem e253_254 : rf d 253 254 [l0, l1, l2, l3, l4, l5, l6, l7, l8, l9, some (.int x), l11, l12, l13] s h = rf d 253 256 [l0, l1, l2, l3, l4, l5, l6, l7, l8, l9, some (.int x), l11, l12, l13] (.int x :: s) h := rf_pure (i := .iload 10) (len := 2) (okD_ok (by decide +kernel)) rfl
theorem e253_256 : rf d 253 256 [l0, l1, l2, l3, l4, l5, l6, some (.int x), l8, l9, l10, l11, l12, l13] s h = rf d 253 258 [l0, l1, l2, l3, l4, l5, l6, some (.int x), l8, l9, l10, l11, l12, l13] (.int x :: s) h := rf_pure (i := .iload 7) (len := 2) (okD_ok (by decide +kernel)) rfl
theorem e253_258 : rf d 253 258 ls (.int y :: .int x :: s) h = if ¬ x = y then rf d 253 277 ls s h else rf d 253 261 ls s h := g_ic (c := .ne) (off := 19) _ (by decide +kernel) rfl cmp_d
theorem e253_261 : rf d 253 261 [l0, l1, l2, l3, l4, l5, l6, l7, l8, some (.int x), l10, l11, l12, l13] s h = rf d 253 263 [l0, l1, l2, l3, l4, l5, l6, l7, l8, some (.int x), l10, l11, l12, l13] (.int x :: s) h := rf_pure (i := .iload 9) (len := 2) (okD_ok (by decide +kernel)) rfl
theorem e253_263 (hcat : ip_cat s ≤ 8) : rf (d + 1) 253 263 ls (.int x0 :: s) h = rf_k (d + 1) 253 263 ls s (cf d 226 [.int x0] h) := g_cs (idx := 333) [.int x0] (by decide +kernel) ow253 ms_8_333 mt_8_333 (by decide) rfl mL226 rfl hcat
theorem e253_266 : rf d 253 266 [l0, l1, l2, l3, l4, l5, some (.int x), l7, l8, l9, l10, l11, l12, l13] s h = rf d 253 268 [l0, l1, l2, l3, l4, l5, some (.int x), l7, l8, l9, l10, l11, l12, l13] (.int x :: s) h := rf_pure (i := .iload 6) (len := 2) (okD_ok (by decide +kernel)) rfl
theorem e253_268 (hcat : ip_cat s ≤ 8) : rf (d + 1) 253 268 ls (.int x0 :: s) h = rf_k (d + 1) 253 268 ls s (cf d 226 [.int x0] h) := g_cs (idx := 333) [.int x0] (by decide +kernel) ow253 ms_8_333 mt_8_333 (by decide) rfl mL226 rfl hcat
theorem e253_271 : rf d 253 271 ls (.int y :: .int x :: s) h = if x < y then rf d 253 277 ls s h else rf d 253 274 ls s h := g_ic (c := .lt) (off := 6) _ (by decide +kernel) rfl cmp_d
theorem e253_274 : rf d 253 274 ls s h = rf d 253 289 ls s h := rf_goto ⟨okD_ok (i := .goto (15)) (len := 3) (by decide +kernel), rfl⟩
theorem e253_277 : rf d 253 277 [l0, l1, l2, l3, l4, l5, l6, l7, l8, some (.int x), l10, l11, l12, l13] s h = rf d 253 279 [l0, l1, l2, l3, l4, l5, l6, l7, l8, some (.int x), l10, l11, l12, l13] (.int x :: s) h := rf_pure (i := .iload 9) (len := 2) (okD_ok (by decide +kernel)) rfl
theorem e253_279 (hn : ip_nl l5 = true) : rf d 253 279 [l0, l1, l2, l3, l4, l5, l6, l7, l8, l9, l10, l11, l12, l13] (.int x :: s) h = rf d 253 281 [l0, l1, l2, l3, l4, l5, some (.int x), l7, l8, l9, l10, l11, l12, l13] s h := g_sti (i := .istore 6) (len := 2) (q := 5) (p := 2) (by decide +kernel) rfl rfl hn
theorem e253_281 : rf d 253 281 [l0, l1, l2, l3, l4, l5, l6, l7, l8, l9, some (.int x), l11, l12, l13] s h = rf d 253 283 [l0, l1, l2, l3, l4, l5, l6, l7, l8, l9, some (.int x), l11, l12, l13] (.int x :: s) h := rf_pure (i := .iload 10) (len := 2) (okD_ok (by decide +kernel)) rfl
theorem e253_283 (hn : ip_nl l6 = true) : rf d 253 283 [l0, l1, l2, l3, l4, l5, l6, l7, l8, l9, l10, l11, l12, l13] (.int x :: s) h = rf d 253 285 [l0, l1, l2, l3, l4, l5, l6, some (.int x), l8, l9, l10, l11, l12, l13] s h := g_sti (i := .istore 7) (len := 2) (q := 6) (p := 2) (by decide +kernel) rfl rfl hn
theorem e253_285 : rf d 253 285 [l0, l1, l2, l3, l4, l5, l6, l7, l8, l9, l10, some (.int x), l12, l13] s h = rf d 253 287 [l0, l1, l2, l3, l4, l5, l6, l7, l8, l9, l10, some (.int x), l12, l13] (.int x :: s) h := rf_pure (i := .iload 11) (len := 2) (okD_ok (by decide +kernel)) rfl
theorem e253_287 (hn : ip_nl l7 = true) : rf d 253 287 [l0, l1, l2, l3, l4, l5, l6, l7, l8, l9, l10, l11, l12, l13] (.int x :: s) h = rf d 253 289 [l0, l1, l2, l3, l4, l5, l6, l7, some (.int x), l9, l10, l11, l12, l13] s h := g_sti (i := .istore 8) (len := 2) (q := 7) (p := 2) (by decide +kernel) rfl rfl hn
theorem e253_289 (hn : ip_nl l8 = true) : rf d 253 289 [l0, l1, l2, l3, l4, l5, l6, l7, l8, some (.int x), l10, l11, l12, l13] s h = rf d 253 292 [l0, l1, l2, l3, l4, l5, l6, l7, l8, some (.int (x + 1)), l10, l11, l12, l13] s h := g_inc (q := 8) (z := 1) (w := 1) (x := x) (by decide) (by decide +kernel) rfl rfl hn
theorem e253_292 : rf d 253 292 ls s h = rf d 253 139 ls s h := rf_goto ⟨okD_ok (i := .goto (-153)) (len := 3) (by decide +kernel), rfl⟩
theorem e253_295 : rf d 253 295 [l0, l1, l2, some (.int x), l4, l5, l6, l7, l8, l9, l10, l11, l12, l13] s h = rf d 253 296 [l0, l1, l2, some (.int x), l4, l5, l6, l7, l8, l9, l10, l11, l12, l13] (.int x :: s) h := rf_pure (i := .iload_n 3) (len := 1) (okD_ok (by decide +kernel)) rfl
theorem e253_296 : rf d 253 296 ls (.int x :: s) h = if ¬ x = 0 then rf d 253 304 ls s h else rf d 253 299 ls s h := g_if (c := .ne) (off := 8) _ (by decide +kernel) rfl cmp_d
theorem e253_299 : rf d 253 299 [l0, l1, l2, l3, l4, l5, some (.int x), l7, l8, l9, l10, l11, l12, l13] s h = rf d 253 301 [l0, l1, l2, l3, l4, l5, some (.int x), l7, l8, l9, l10, l11, l12, l13] (.int x :: s) h := rf_pure (i := .iload 6) (len := 2) (okD_ok (by decide +kernel)) rfl
theorem e253_301 : rf d 253 301 ls s h = rf d 253 335 ls s h := rf_goto ⟨okD_ok (i := .goto (34)) (len := 3) (by decide +kernel), rfl⟩
theorem e253_304 : rf d 253 304 [l0, l1, l2, some (.int x), l4, l5, l6, l7, l8, l9, l10, l11, l12, l13] s h = rf d 253 305 [l0, l1, l2, some (.int x), l4, l5, l6, l7, l8, l9, l10, l11, l12, l13] (.int x :: s) h := rf_pure (i := .iload_n 3) (len := 1) (okD_ok (by decide +kernel)) rfl
theorem e253_305 : rf d 253 305 ls s h = rf d 253 306 ls (.int 2 :: s) h := rf_pure (i := .iconst (2)) (len := 1) (okD_ok (by decide +kernel)) rfl
theorem e253_306 : rf d 253 306 ls (.int y :: .int x :: s) h = if ¬ x = y then rf d 253 314 ls s h else rf d 253 309 ls s h := g_ic (c := .ne) (off := 8) _ (by decide +kernel) rfl cmp_d
theorem e253_309 : rf d 253 309 [l0, l1, l2, l3, l4, l5, l6, l7, some (.int x), l9, l10, l11, l12, l13] s h = rf d 253 311 [l0, l1, l2, l3, l4, l5, l6, l7, some (.int x), l9, l10, l11, l12, l13] (.int x :: s) h := rf_pure (i := .iload 8) (len := 2) (okD_ok (by decide +kernel)) rfl
theorem e253_311 : rf d 253 311 ls s h = rf d 253 335 ls s h := rf_goto ⟨okD_ok (i := .goto (24)) (len := 3) (by decide +kernel), rfl⟩
theorem e253_314 : rf d 253 314 [l0, l1, l2, l3, l4, l5, l6, some (.int x), l8, l9, l10, l11, l12, l13] s h = rf d 253 316 [l0, l1, l2, l3, l4, l5, l6, some (.int x), l8, l9, l10, l11, l12, l13] (.int x :: s) h := rf_pure (i := .iload 7) (len := 2) (okD_ok (by decide +kernel)) rfl
theorem e253_316 : rf d 253 316 ls s h = rf d 253 317 ls (.int 2 :: s) h := rf_pure (i := .iconst (2)) (len := 1) (okD_ok (by decide +kernel)) rfl
theorem e253_317 : rf d 253 317 ls (.int y :: .int x :: s) h = if ¬ x = y then rf d 253 324 ls s h else rf d 253 320 ls s h := g_ic (c := .ne) (off := 7) _ (by decide +kernel) rfl cmp_d
theorem e253_320 : rf d 253 320 ls s h = rf d 253 321 ls (.int 2 :: s) h := rf_pure (i := .iconst (2)) (len := 1) (okD_ok (by decide +kernel)) rfl
theorem e253_321 : rf d 253 321 ls s h = rf d 253 335 ls s h := rf_goto ⟨okD_ok (i := .goto (14)) (len := 3) (by decide +kernel), rfl⟩
theorem e253_324 : rf d 253 324 [l0, l1, l2, l3, l4, l5, l6, some (.int x), l8, l9, l10, l11, l12, l13] s h = rf d 253 326 [l0, l1, l2, l3, l4, l5, l6, some (.int x), l8, l9, l10, l11, l12, l13] (.int x :: s) h := rf_pure (i := .iload 7) (len := 2) (okD_ok (by decide +kernel)) rfl
theorem e253_326 : rf d 253 326 ls s h = rf d 253 327 ls (.int 1 :: s) h := rf_pure (i := .iconst (1)) (len := 1) (okD_ok (by decide +kernel)) rfl
theorem e253_327 : rf d 253 327 ls (.int y :: .int x :: s) h = if ¬ x = y then rf d 253 334 ls s h else rf d 253 330 ls s h := g_ic (c := .ne) (off := 7) _ (by decide +kernel) rfl cmp_d
theorem e253_330 : rf d 253 330 ls s h = rf d 253 331 ls (.int 3 :: s) h := rf_pure (i := .iconst (3)) (len := 1) (okD_ok (by decide +kernel)) rfl
theorem e253_331 : rf d 253 331 ls s h = rf d 253 335 ls s h := rf_goto ⟨okD_ok (i := .goto (4)) (len := 3) (by decide +kernel), rfl⟩
theorem e253_334 : rf d 253 334 ls s h = rf d 253 335 ls (.int 0 :: s) h := rf_pure (i := .iconst (0)) (len := 1) (okD_ok (by decide +kernel)) rfl
theorem e253_335 : rf d 253 335 ls [.int x] h = some (.inl (some (.int x)), h) := g_ri (by decide +kernel) rt253
end S08
