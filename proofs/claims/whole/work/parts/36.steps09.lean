/-! STEPS, 9 (printed by wip/whole/gen_steps.py) -/
section S09
variable {n d a b t : Nat} {l0 l1 l2 l3 l4 l5 l6 l7 l8 l9 l10 l11 l12 l13 : Option Value} {ls : List (Option Value)} {s : List Value} {h : ip_H} {I : Nat → Nat → Int32} {L : Nat → Nat → Int64} {R : Nat → Nat → Option Nat} {nc ns : Nat} {nx : Bool} {x y j z sp dp x0 x1 x2 x3 x4 x5 : Int32} {u v u0 u1 u2 u3 : Int64} {a0 a1 a2 a3 a4 : Nat}
theorem en254 : cf d 254 [.ref a, .int x0, .int x1] h = rf d 254 0 [some (.ref a), some (.int x0), some (.int x1), none] [] h := rfl
theorem e254_0 : rf d 254 0 [some (.ref a), l1, l2, l3] s h = rf d 254 1 [some (.ref a), l1, l2, l3] (.ref a :: s) h := rf_pure (i := .aload_n 0) (len := 1) (okD_ok (by decide +kernel)) rfl
theorem e254_1 : rf d 254 1 [l0, some (.int x), l2, l3] s h = rf d 254 2 [l0, some (.int x), l2, l3] (.int x :: s) h := rf_pure (i := .iload_n 1) (len := 1) (okD_ok (by decide +kernel)) rfl
theorem e254_2 : rf d 254 2 [l0, l1, some (.int x), l3] s h = rf d 254 3 [l0, l1, some (.int x), l3] (.int x :: s) h := rf_pure (i := .iload_n 2) (len := 1) (okD_ok (by decide +kernel)) rfl
theorem e254_3 : rf d 254 3 ls (.int y :: .int x :: s) h = rf d 254 4 ls (.int (x ||| y) :: s) h := rf_pure (i := .ior) (len := 1) (okD_ok (by decide +kernel)) rfl
theorem e254_4 : rf d 254 4 [some (.ref a), l1, l2, l3] s h = rf d 254 5 [some (.ref a), l1, l2, l3] (.ref a :: s) h := rf_pure (i := .aload_n 0) (len := 1) (okD_ok (by decide +kernel)) rfl
theorem e254_5 : rf d 254 5 ls (.ref 265 :: s) (SH n, I, L, R, nc, ns, nx) = rf d 254 8 ls (.int (I 265 58) :: s) (SH n, I, L, R, nc, ns, nx) := g_I (idx := 359) (by decide +kernel) ow254 f_8_359 rfl rfl (by decide)
theorem e254_8 (hcat : ip_cat s ≤ 8) : rf (d + 1) 254 8 ls (.int x1 :: .int x0 :: .ref 265 :: s) (SH n, I, L, R, nc, ns, nx) = rf_k (d + 1) 254 8 ls s (cf d 238 [.ref 265, .int x0, .int x1] (SH n, I, L, R, nc, ns, nx)) := g_cv (idx := 377) (t := 8) [.int x1, .int x0] (by decide +kernel) ow254 ms_8_377 mt_8_377 cy238_8 rfl rfl mL238 rfl rfl (by decide) hcat
theorem e254_11 (hn : ip_nl l2 = true) : rf d 254 11 [l0, l1, l2, l3] (.int x :: s) h = rf d 254 12 [l0, l1, l2, some (.int x)] s h := g_sti (i := .istore_n 3) (len := 1) (q := 2) (p := 1) (by decide +kernel) rfl rfl hn
theorem e254_12 : rf d 254 12 [some (.ref a), l1, l2, l3] s h = rf d 254 13 [some (.ref a), l1, l2, l3] (.ref a :: s) h := rf_pure (i := .aload_n 0) (len := 1) (okD_ok (by decide +kernel)) rfl
theorem e254_13 (hR : LYR R) : rf d 254 13 ls (.ref 265 :: s) (SH n, I, L, R, nc, ns, nx) = rf d 254 16 ls (.ref 305 :: s) (SH n, I, L, R, nc, ns, nx) := g_R (idx := 133) (by decide +kernel) ow254 f_8_133 rfl rfl (by decide) (ly_265_64 hR)
theorem e254_16 : rf d 254 16 [l0, l1, l2, some (.int x)] s h = rf d 254 17 [l0, l1, l2, some (.int x)] (.int x :: s) h := rf_pure (i := .iload_n 3) (len := 1) (okD_ok (by decide +kernel)) rfl
theorem e254_17 (q : ia n a j) : rf d 254 17 ls (.int j :: .ref a :: s) (SH n, I, L, R, nc, ns, nx) = rf d 254 18 ls (.int (I a j.toNatClampNeg) :: s) (SH n, I, L, R, nc, ns, nx) := g_ial (by decide +kernel) q
theorem e254_18 : rf d 254 18 ls s h = rf d 254 19 ls (.int (-1) :: s) h := rf_pure (i := .iconst (-1)) (len := 1) (okD_ok (by decide +kernel)) rfl
theorem e254_19 : rf d 254 19 ls (.int y :: .int x :: s) h = if ¬ x = y then rf d 254 34 ls s h else rf d 254 22 ls s h := g_ic (c := .ne) (off := 15) _ (by decide +kernel) rfl cmp_d
theorem e254_22 : rf d 254 22 [some (.ref a), l1, l2, l3] s h = rf d 254 23 [some (.ref a), l1, l2, l3] (.ref a :: s) h := rf_pure (i := .aload_n 0) (len := 1) (okD_ok (by decide +kernel)) rfl
theorem e254_23 (hR : LYR R) : rf d 254 23 ls (.ref 265 :: s) (SH n, I, L, R, nc, ns, nx) = rf d 254 26 ls (.ref 305 :: s) (SH n, I, L, R, nc, ns, nx) := g_R (idx := 133) (by decide +kernel) ow254 f_8_133 rfl rfl (by decide) (ly_265_64 hR)
theorem e254_26 : rf d 254 26 [l0, l1, l2, some (.int x)] s h = rf d 254 27 [l0, l1, l2, some (.int x)] (.int x :: s) h := rf_pure (i := .iload_n 3) (len := 1) (okD_ok (by decide +kernel)) rfl
theorem e254_27 : rf d 254 27 [some (.ref a), l1, l2, l3] s h = rf d 254 28 [some (.ref a), l1, l2, l3] (.ref a :: s) h := rf_pure (i := .aload_n 0) (len := 1) (okD_ok (by decide +kernel)) rfl
theorem e254_28 : rf d 254 28 [l0, some (.int x), l2, l3] s h = rf d 254 29 [l0, some (.int x), l2, l3] (.int x :: s) h := rf_pure (i := .iload_n 1) (len := 1) (okD_ok (by decide +kernel)) rfl
theorem e254_29 : rf d 254 29 [l0, l1, some (.int x), l3] s h = rf d 254 30 [l0, l1, some (.int x), l3] (.int x :: s) h := rf_pure (i := .iload_n 2) (len := 1) (okD_ok (by decide +kernel)) rfl
theorem e254_30 (hcat : ip_cat s ≤ 8) : rf (d + 1) 254 30 ls (.int x1 :: .int x0 :: .ref 265 :: s) (SH n, I, L, R, nc, ns, nx) = rf_k (d + 1) 254 30 ls s (cf d 249 [.ref 265, .int x0, .int x1] (SH n, I, L, R, nc, ns, nx)) := g_cv (idx := 407) (t := 8) [.int x1, .int x0] (by decide +kernel) ow254 ms_8_407 mt_8_407 cy249_8 rfl rfl mL249 rfl rfl (by decide) hcat
theorem e254_33 (q : ia n a j) : rf d 254 33 ls (.int x :: .int j :: .ref a :: s) (SH n, I, L, R, nc, ns, nx) = rf d 254 34 ls s (SH n, ip_up I a j.toNatClampNeg x, L, R, nc, ns, nx) := g_ias (by decide +kernel) q
theorem e254_34 : rf d 254 34 [some (.ref a), l1, l2, l3] s h = rf d 254 35 [some (.ref a), l1, l2, l3] (.ref a :: s) h := rf_pure (i := .aload_n 0) (len := 1) (okD_ok (by decide +kernel)) rfl
theorem e254_35 (hR : LYR R) : rf d 254 35 ls (.ref 265 :: s) (SH n, I, L, R, nc, ns, nx) = rf d 254 38 ls (.ref 305 :: s) (SH n, I, L, R, nc, ns, nx) := g_R (idx := 133) (by decide +kernel) ow254 f_8_133 rfl rfl (by decide) (ly_265_64 hR)
theorem e254_38 : rf d 254 38 [l0, l1, l2, some (.int x)] s h = rf d 254 39 [l0, l1, l2, some (.int x)] (.int x :: s) h := rf_pure (i := .iload_n 3) (len := 1) (okD_ok (by decide +kernel)) rfl
theorem e254_39 (q : ia n a j) : rf d 254 39 ls (.int j :: .ref a :: s) (SH n, I, L, R, nc, ns, nx) = rf d 254 40 ls (.int (I a j.toNatClampNeg) :: s) (SH n, I, L, R, nc, ns, nx) := g_ial (by decide +kernel) q
theorem e254_40 : rf d 254 40 ls [.int x] h = some (.inl (some (.int x)), h) := g_ri (by decide +kernel) rt254
theorem en255 : cf d 255 [.ref a, .int x0, .int x1] h = rf d 255 0 [some (.ref a), some (.int x0), some (.int x1), none, none, none, none, none, none] [] h := rfl
theorem e255_0 : rf d 255 0 [some (.ref a), l1, l2, l3, l4, l5, l6, l7, l8] s h = rf d 255 1 [some (.ref a), l1, l2, l3, l4, l5, l6, l7, l8] (.ref a :: s) h := rf_pure (i := .aload_n 0) (len := 1) (okD_ok (by decide +kernel)) rfl
theorem e255_1 : rf d 255 1 [l0, some (.int x), l2, l3, l4, l5, l6, l7, l8] s h = rf d 255 2 [l0, some (.int x), l2, l3, l4, l5, l6, l7, l8] (.int x :: s) h := rf_pure (i := .iload_n 1) (len := 1) (okD_ok (by decide +kernel)) rfl
theorem e255_2 : rf d 255 2 ls s h = rf d 255 3 ls (.int 0 :: s) h := rf_pure (i := .iconst (0)) (len := 1) (okD_ok (by decide +kernel)) rfl
theorem e255_3 : rf d 255 3 ls s h = rf d 255 5 ls (.int 99 :: s) h := rf_pure (i := .bipush (99)) (len := 2) (okD_ok (by decide +kernel)) rfl
theorem e255_5 (hcat : ip_cat s ≤ 8) : rf (d + 1) 255 5 ls (.int x2 :: .int x1 :: .int x0 :: s) h = rf_k (d + 1) 255 5 ls s (cf d 217 [.int x0, .int x1, .int x2] h) := g_cs (idx := 315) [.int x2, .int x1, .int x0] (by decide +kernel) ow255 ms_8_315 mt_8_315 (by decide) rfl mL217 rfl hcat
theorem e255_8 : rf d 255 8 ls (.int x :: s) h = if ¬ x = 0 then rf d 255 15 ls s h else rf d 255 11 ls s h := g_if (c := .ne) (off := 7) _ (by decide +kernel) rfl cmp_d
theorem e255_11 : rf d 255 11 ls s h = rf d 255 12 ls (.int 1 :: s) h := rf_pure (i := .iconst (1)) (len := 1) (okD_ok (by decide +kernel)) rfl
theorem e255_12 : rf d 255 12 ls s h = rf d 255 52 ls s h := rf_goto ⟨okD_ok (i := .goto (40)) (len := 3) (by decide +kernel), rfl⟩
theorem e255_15 : rf d 255 15 [some (.ref a), l1, l2, l3, l4, l5, l6, l7, l8] s h = rf d 255 16 [some (.ref a), l1, l2, l3, l4, l5, l6, l7, l8] (.ref a :: s) h := rf_pure (i := .aload_n 0) (len := 1) (okD_ok (by decide +kernel)) rfl
theorem e255_16 (hR : LYR R) : rf d 255 16 ls (.ref 265 :: s) (SH n, I, L, R, nc, ns, nx) = rf d 255 19 ls (.ref 289 :: s) (SH n, I, L, R, nc, ns, nx) := g_R (idx := 85) (by decide +kernel) ow255 f_8_85 rfl rfl (by decide) (ly_265_39 hR)
theorem e255_19 : rf d 255 19 [some (.ref a), l1, l2, l3, l4, l5, l6, l7, l8] s h = rf d 255 20 [some (.ref a), l1, l2, l3, l4, l5, l6, l7, l8] (.ref a :: s) h := rf_pure (i := .aload_n 0) (len := 1) (okD_ok (by decide +kernel)) rfl
theorem e255_20 : rf d 255 20 ls (.ref 265 :: s) (SH n, I, L, R, nc, ns, nx) = rf d 255 23 ls (.int (I 265 38) :: s) (SH n, I, L, R, nc, ns, nx) := g_I (idx := 306) (by decide +kernel) ow255 f_8_306 rfl rfl (by decide)
theorem e255_23 (q : ia n a j) : rf d 255 23 ls (.int j :: .ref a :: s) (SH n, I, L, R, nc, ns, nx) = rf d 255 24 ls (.int (I a j.toNatClampNeg) :: s) (SH n, I, L, R, nc, ns, nx) := g_ial (by decide +kernel) q
theorem e255_24 : rf d 255 24 ls (.int x :: s) h = if ¬ x = 0 then rf d 255 34 ls s h else rf d 255 27 ls s h := g_if (c := .ne) (off := 10) _ (by decide +kernel) rfl cmp_d
theorem e255_27 : rf d 255 27 [some (.ref a), l1, l2, l3, l4, l5, l6, l7, l8] s h = rf d 255 28 [some (.ref a), l1, l2, l3, l4, l5, l6, l7, l8] (.ref a :: s) h := rf_pure (i := .aload_n 0) (len := 1) (okD_ok (by decide +kernel)) rfl
theorem e255_28 (hcat : ip_cat s ≤ 8) : rf (d + 1) 255 28 ls (.ref 265 :: s) (SH n, I, L, R, nc, ns, nx) = rf_k (d + 1) 255 28 ls s (cf d 232 [.ref 265] (SH n, I, L, R, nc, ns, nx)) := g_cv (idx := 389) (t := 8) [] (by decide +kernel) ow255 ms_8_389 mt_8_389 cy232_8 rfl rfl mL232 rfl rfl (by decide) hcat
theorem e255_31 : rf d 255 31 ls (.int x :: s) h = if ¬ x = 0 then rf d 255 38 ls s h else rf d 255 34 ls s h := g_if (c := .ne) (off := 7) _ (by decide +kernel) rfl cmp_d
theorem e255_34 : rf d 255 34 ls s h = rf d 255 35 ls (.int 2 :: s) h := rf_pure (i := .iconst (2)) (len := 1) (okD_ok (by decide +kernel)) rfl
theorem e255_35 : rf d 255 35 ls s h = rf d 255 52 ls s h := rf_goto ⟨okD_ok (i := .goto (17)) (len := 3) (by decide +kernel), rfl⟩
theorem e255_38 : rf d 255 38 [l0, l1, some (.int x), l3, l4, l5, l6, l7, l8] s h = rf d 255 39 [l0, l1, some (.int x), l3, l4, l5, l6, l7, l8] (.int x :: s) h := rf_pure (i := .iload_n 2) (len := 1) (okD_ok (by decide +kernel)) rfl
theorem e255_39 : rf d 255 39 ls s h = rf d 255 40 ls (.int 0 :: s) h := rf_pure (i := .iconst (0)) (len := 1) (okD_ok (by decide +kernel)) rfl
theorem e255_40 : rf d 255 40 ls s h = rf d 255 41 ls (.int 2 :: s) h := rf_pure (i := .iconst (2)) (len := 1) (okD_ok (by decide +kernel)) rfl
theorem e255_41 (hcat : ip_cat s ≤ 8) : rf (d + 1) 255 41 ls (.int x2 :: .int x1 :: .int x0 :: s) h = rf_k (d + 1) 255 41 ls s (cf d 217 [.int x0, .int x1, .int x2] h) := g_cs (idx := 315) [.int x2, .int x1, .int x0] (by decide +kernel) ow255 ms_8_315 mt_8_315 (by decide) rfl mL217 rfl hcat
theorem e255_44 : rf d 255 44 ls (.int x :: s) h = if ¬ x = 0 then rf d 255 51 ls s h else rf d 255 47 ls s h := g_if (c := .ne) (off := 7) _ (by decide +kernel) rfl cmp_d
theorem e255_47 : rf d 255 47 ls s h = rf d 255 48 ls (.int 3 :: s) h := rf_pure (i := .iconst (3)) (len := 1) (okD_ok (by decide +kernel)) rfl
theorem e255_48 : rf d 255 48 ls s h = rf d 255 52 ls s h := rf_goto ⟨okD_ok (i := .goto (4)) (len := 3) (by decide +kernel), rfl⟩
theorem e255_51 : rf d 255 51 ls s h = rf d 255 52 ls (.int 0 :: s) h := rf_pure (i := .iconst (0)) (len := 1) (okD_ok (by decide +kernel)) rfl
theorem e255_52 : rf d 255 52 ls (.int x :: .ref 265 :: s) (SH n, I, L, R, nc, ns, nx) = rf d 255 55 ls s (SH n, ip_up I 265 0 x, L, R, nc, ns, nx) := g_pI (idx := 142) (by decide +kernel) ow255 f_8_142 rfl (by decide +kernel) rfl (by decide)
theorem e255_55 : rf d 255 55 [some (.ref a), l1, l2, l3, l4, l5, l6, l7, l8] s h = rf d 255 56 [some (.ref a), l1, l2, l3, l4, l5, l6, l7, l8] (.ref a :: s) h := rf_pure (i := .aload_n 0) (len := 1) (okD_ok (by decide +kernel)) rfl
theorem e255_56 : rf d 255 56 ls (.ref 265 :: s) (SH n, I, L, R, nc, ns, nx) = rf d 255 59 ls (.int (I 265 0) :: s) (SH n, I, L, R, nc, ns, nx) := g_I (idx := 142) (by decide +kernel) ow255 f_8_142 rfl rfl (by decide)
theorem e255_59 : rf d 255 59 ls (.int x :: s) h = if x ≤ 0 then rf d 255 64 ls s h else rf d 255 62 ls s h := g_if (c := .le) (off := 5) _ (by decide +kernel) rfl cmp_d
theorem e255_62 : rf d 255 62 ls s h = rf d 255 63 ls (.int 0 :: s) h := rf_pure (i := .iconst (0)) (len := 1) (okD_ok (by decide +kernel)) rfl
theorem e255_63 : rf d 255 63 ls [.int x] h = some (.inl (some (.int x)), h) := g_ri (by decide +kernel) rt255
theorem e255_64 : rf d 255 64 [some (.ref a), l1, l2, l3, l4, l5, l6, l7, l8] s h = rf d 255 65 [some (.ref a), l1, l2, l3, l4, l5, l6, l7, l8] (.ref a :: s) h := rf_pure (i := .aload_n 0) (len := 1) (okD_ok (by decide +kernel)) rfl
theorem e255_65 : rf d 255 65 ls s h = rf d 255 66 ls (.int (-1) :: s) h := rf_pure (i := .iconst (-1)) (len := 1) (okD_ok (by decide +kernel)) rfl
theorem e255_66 : rf d 255 66 ls (.int x :: .ref 265 :: s) (SH n, I, L, R, nc, ns, nx) = rf d 255 69 ls s (SH n, ip_up I 265 65 x, L, R, nc, ns, nx) := g_pI (idx := 416) (by decide +kernel) ow255 f_8_416 rfl (by decide +kernel) rfl (by decide)
theorem e255_69 : rf d 255 69 [some (.ref a), l1, l2, l3, l4, l5, l6, l7, l8] s h = rf d 255 70 [some (.ref a), l1, l2, l3, l4, l5, l6, l7, l8] (.ref a :: s) h := rf_pure (i := .aload_n 0) (len := 1) (okD_ok (by decide +kernel)) rfl
theorem e255_70 : rf d 255 70 ls s h = rf d 255 71 ls (.int 0 :: s) h := rf_pure (i := .iconst (0)) (len := 1) (okD_ok (by decide +kernel)) rfl
theorem e255_71 : rf d 255 71 ls (.int x :: .ref 265 :: s) (SH n, I, L, R, nc, ns, nx) = rf d 255 74 ls s (SH n, ip_up I 265 66 x, L, R, nc, ns, nx) := g_pI (idx := 419) (by decide +kernel) ow255 f_8_419 rfl (by decide +kernel) rfl (by decide)
theorem e255_74 : rf d 255 74 [some (.ref a), l1, l2, l3, l4, l5, l6, l7, l8] s h = rf d 255 75 [some (.ref a), l1, l2, l3, l4, l5, l6, l7, l8] (.ref a :: s) h := rf_pure (i := .aload_n 0) (len := 1) (okD_ok (by decide +kernel)) rfl
theorem e255_75 : rf d 255 75 ls (.ref 265 :: s) (SH n, I, L, R, nc, ns, nx) = rf d 255 78 ls (.int (I 265 59) :: s) (SH n, I, L, R, nc, ns, nx) := g_I (idx := 362) (by decide +kernel) ow255 f_8_362 rfl rfl (by decide)
theorem e255_78 : rf d 255 78 ls (.int x :: s) h = if ¬ x = 0 then rf d 255 88 ls s h else rf d 255 81 ls s h := g_if (c := .ne) (off := 10) _ (by decide +kernel) rfl cmp_d
theorem e255_81 : rf d 255 81 [some (.ref a), l1, l2, l3, l4, l5, l6, l7, l8] s h = rf d 255 82 [some (.ref a), l1, l2, l3, l4, l5, l6, l7, l8] (.ref a :: s) h := rf_pure (i := .aload_n 0) (len := 1) (okD_ok (by decide +kernel)) rfl
theorem e255_82 : rf d 255 82 ls (.ref 265 :: s) (SH n, I, L, R, nc, ns, nx) = rf d 255 85 ls (.int (I 265 60) :: s) (SH n, I, L, R, nc, ns, nx) := g_I (idx := 368) (by decide +kernel) ow255 f_8_368 rfl rfl (by decide)
theorem e255_85 : rf d 255 85 ls s h = rf d 255 92 ls s h := rf_goto ⟨okD_ok (i := .goto (7)) (len := 3) (by decide +kernel), rfl⟩
theorem e255_88 : rf d 255 88 [some (.ref a), l1, l2, l3, l4, l5, l6, l7, l8] s h = rf d 255 89 [some (.ref a), l1, l2, l3, l4, l5, l6, l7, l8] (.ref a :: s) h := rf_pure (i := .aload_n 0) (len := 1) (okD_ok (by decide +kernel)) rfl
theorem e255_89 : rf d 255 89 ls (.ref 265 :: s) (SH n, I, L, R, nc, ns, nx) = rf d 255 92 ls (.int (I 265 61) :: s) (SH n, I, L, R, nc, ns, nx) := g_I (idx := 371) (by decide +kernel) ow255 f_8_371 rfl rfl (by decide)
theorem e255_92 (hn : ip_nl l2 = true) : rf d 255 92 [l0, l1, l2, l3, l4, l5, l6, l7, l8] (.int x :: s) h = rf d 255 93 [l0, l1, l2, some (.int x), l4, l5, l6, l7, l8] s h := g_sti (i := .istore_n 3) (len := 1) (q := 2) (p := 1) (by decide +kernel) rfl rfl hn
theorem e255_93 : rf d 255 93 ls s h = rf d 255 94 ls (.int 0 :: s) h := rf_pure (i := .iconst (0)) (len := 1) (okD_ok (by decide +kernel)) rfl
theorem e255_94 (hn : ip_nl l3 = true) : rf d 255 94 [l0, l1, l2, l3, l4, l5, l6, l7, l8] (.int x :: s) h = rf d 255 96 [l0, l1, l2, l3, some (.int x), l5, l6, l7, l8] s h := g_sti (i := .istore 4) (len := 2) (q := 3) (p := 2) (by decide +kernel) rfl rfl hn
theorem e255_96 : rf d 255 96 [l0, l1, l2, l3, some (.int x), l5, l6, l7, l8] s h = rf d 255 98 [l0, l1, l2, l3, some (.int x), l5, l6, l7, l8] (.int x :: s) h := rf_pure (i := .iload 4) (len := 2) (okD_ok (by decide +kernel)) rfl
theorem e255_98 : rf d 255 98 [some (.ref a), l1, l2, l3, l4, l5, l6, l7, l8] s h = rf d 255 99 [some (.ref a), l1, l2, l3, l4, l5, l6, l7, l8] (.ref a :: s) h := rf_pure (i := .aload_n 0) (len := 1) (okD_ok (by decide +kernel)) rfl
theorem e255_99 (hcat : ip_cat s ≤ 8) : rf (d + 1) 255 99 ls (.ref 265 :: s) (SH n, I, L, R, nc, ns, nx) = rf_k (d + 1) 255 99 ls s (cf d 187 [.ref 265] (SH n, I, L, R, nc, ns, nx)) := g_cv (idx := 309) (t := 8) [] (by decide +kernel) ow255 ms_8_309 mt_8_309 cy187_8 rfl rfl mL187 rfl rfl (by decide) hcat
theorem e255_102 : rf d 255 102 ls (.int y :: .int x :: s) h = if y < x then rf d 255 258 ls s h else rf d 255 105 ls s h := g_ic (c := .gt) (off := 156) _ (by decide +kernel) rfl cmp_d
theorem e255_105 : rf d 255 105 [some (.ref a), l1, l2, l3, l4, l5, l6, l7, l8] s h = rf d 255 106 [some (.ref a), l1, l2, l3, l4, l5, l6, l7, l8] (.ref a :: s) h := rf_pure (i := .aload_n 0) (len := 1) (okD_ok (by decide +kernel)) rfl
theorem e255_106 : rf d 255 106 [l0, l1, l2, l3, some (.int x), l5, l6, l7, l8] s h = rf d 255 108 [l0, l1, l2, l3, some (.int x), l5, l6, l7, l8] (.int x :: s) h := rf_pure (i := .iload 4) (len := 2) (okD_ok (by decide +kernel)) rfl
theorem e255_108 (hcat : ip_cat s ≤ 8) : rf (d + 1) 255 108 ls (.int x0 :: .ref 265 :: s) (SH n, I, L, R, nc, ns, nx) = rf_k (d + 1) 255 108 ls s (cf d 247 [.ref 265, .int x0] (SH n, I, L, R, nc, ns, nx)) := g_cv (idx := 404) (t := 8) [.int x0] (by decide +kernel) ow255 ms_8_404 mt_8_404 cy247_8 rfl rfl mL247 rfl rfl (by decide) hcat
theorem e255_111 : rf d 255 111 [l0, some (.int x), l2, l3, l4, l5, l6, l7, l8] s h = rf d 255 112 [l0, some (.int x), l2, l3, l4, l5, l6, l7, l8] (.int x :: s) h := rf_pure (i := .iload_n 1) (len := 1) (okD_ok (by decide +kernel)) rfl
theorem e255_112 : rf d 255 112 ls (.int y :: .int x :: s) h = if x ≤ y then rf d 255 118 ls s h else rf d 255 115 ls s h := g_ic (c := .le) (off := 6) _ (by decide +kernel) rfl cmp_d
theorem e255_115 : rf d 255 115 ls s h = rf d 255 252 ls s h := rf_goto ⟨okD_ok (i := .goto (137)) (len := 3) (by decide +kernel), rfl⟩
theorem e255_118 : rf d 255 118 [some (.ref a), l1, l2, l3, l4, l5, l6, l7, l8] s h = rf d 255 119 [some (.ref a), l1, l2, l3, l4, l5, l6, l7, l8] (.ref a :: s) h := rf_pure (i := .aload_n 0) (len := 1) (okD_ok (by decide +kernel)) rfl
theorem e255_119 : rf d 255 119 [l0, l1, l2, l3, some (.int x), l5, l6, l7, l8] s h = rf d 255 121 [l0, l1, l2, l3, some (.int x), l5, l6, l7, l8] (.int x :: s) h := rf_pure (i := .iload 4) (len := 2) (okD_ok (by decide +kernel)) rfl
theorem e255_121 : rf d 255 121 ls s h = rf d 255 122 ls (.int 0 :: s) h := rf_pure (i := .iconst (0)) (len := 1) (okD_ok (by decide +kernel)) rfl
theorem e255_122 (hcat : ip_cat s ≤ 8) : rf (d + 1) 255 122 ls (.int x1 :: .int x0 :: .ref 265 :: s) (SH n, I, L, R, nc, ns, nx) = rf_k (d + 1) 255 122 ls s (cf d 249 [.ref 265, .int x0, .int x1] (SH n, I, L, R, nc, ns, nx)) := g_cv (idx := 407) (t := 8) [.int x1, .int x0] (by decide +kernel) ow255 ms_8_407 mt_8_407 cy249_8 rfl rfl mL249 rfl rfl (by decide) hcat
theorem e255_125 (hcat : ip_cat s ≤ 8) : rf (d + 1) 255 125 ls (.int x0 :: s) h = rf_k (d + 1) 255 125 ls s (cf d 250 [.int x0] h) := g_cs (idx := 410) [.int x0] (by decide +kernel) ow255 ms_8_410 mt_8_410 (by decide) rfl mL250 rfl hcat
theorem e255_128 (hn : ip_nl l4 = true) : rf d 255 128 [l0, l1, l2, l3, l4, l5, l6, l7, l8] (.int x :: s) h = rf d 255 130 [l0, l1, l2, l3, l4, some (.int x), l6, l7, l8] s h := g_sti (i := .istore 5) (len := 2) (q := 4) (p := 2) (by decide +kernel) rfl rfl hn
theorem e255_130 : rf d 255 130 [l0, l1, l2, l3, l4, some (.int x), l6, l7, l8] s h = rf d 255 132 [l0, l1, l2, l3, l4, some (.int x), l6, l7, l8] (.int x :: s) h := rf_pure (i := .iload 5) (len := 2) (okD_ok (by decide +kernel)) rfl
theorem e255_132 : rf d 255 132 ls (.int x :: s) h = if x ≤ 0 then rf d 255 148 ls s h else rf d 255 135 ls s h := g_if (c := .le) (off := 16) _ (by decide +kernel) rfl cmp_d
theorem e255_135 : rf d 255 135 [some (.ref a), l1, l2, l3, l4, l5, l6, l7, l8] s h = rf d 255 136 [some (.ref a), l1, l2, l3, l4, l5, l6, l7, l8] (.ref a :: s) h := rf_pure (i := .aload_n 0) (len := 1) (okD_ok (by decide +kernel)) rfl
theorem e255_136 : rf d 255 136 [l0, l1, l2, l3, l4, some (.int x), l6, l7, l8] s h = rf d 255 138 [l0, l1, l2, l3, l4, some (.int x), l6, l7, l8] (.int x :: s) h := rf_pure (i := .iload 5) (len := 2) (okD_ok (by decide +kernel)) rfl
theorem e255_138 : rf d 255 138 ls s h = rf d 255 139 ls (.int 1 :: s) h := rf_pure (i := .iconst (1)) (len := 1) (okD_ok (by decide +kernel)) rfl
theorem e255_139 : rf d 255 139 [l0, l1, l2, l3, some (.int x), l5, l6, l7, l8] s h = rf d 255 141 [l0, l1, l2, l3, some (.int x), l5, l6, l7, l8] (.int x :: s) h := rf_pure (i := .iload 4) (len := 2) (okD_ok (by decide +kernel)) rfl
theorem e255_141 : rf d 255 141 ls s h = rf d 255 142 ls (.int (-1) :: s) h := rf_pure (i := .iconst (-1)) (len := 1) (okD_ok (by decide +kernel)) rfl
theorem e255_142 (hcat : ip_cat s ≤ 8) : rf (d + 1) 255 142 ls (.int x3 :: .int x2 :: .int x1 :: .int x0 :: .ref 265 :: s) (SH n, I, L, R, nc, ns, nx) = rf_k (d + 1) 255 142 ls s (cf d 256 [.ref 265, .int x0, .int x1, .int x2, .int x3] (SH n, I, L, R, nc, ns, nx)) := g_cv (idx := 431) (t := 8) [.int x3, .int x2, .int x1, .int x0] (by decide +kernel) ow255 ms_8_431 mt_8_431 cy256_8 rfl rfl mL256 rfl rfl (by decide) hcat
theorem e255_145 : rf d 255 145 ls s h = rf d 255 252 ls s h := rf_goto ⟨okD_ok (i := .goto (107)) (len := 3) (by decide +kernel), rfl⟩
theorem e255_148 : rf d 255 148 [some (.ref a), l1, l2, l3, l4, l5, l6, l7, l8] s h = rf d 255 149 [some (.ref a), l1, l2, l3, l4, l5, l6, l7, l8] (.ref a :: s) h := rf_pure (i := .aload_n 0) (len := 1) (okD_ok (by decide +kernel)) rfl
theorem e255_149 : rf d 255 149 [l0, l1, l2, l3, some (.int x), l5, l6, l7, l8] s h = rf d 255 151 [l0, l1, l2, l3, some (.int x), l5, l6, l7, l8] (.int x :: s) h := rf_pure (i := .iload 4) (len := 2) (okD_ok (by decide +kernel)) rfl
theorem e255_151 : rf d 255 151 [l0, l1, l2, l3, some (.int x), l5, l6, l7, l8] s h = rf d 255 153 [l0, l1, l2, l3, some (.int x), l5, l6, l7, l8] (.int x :: s) h := rf_pure (i := .iload 4) (len := 2) (okD_ok (by decide +kernel)) rfl
theorem e255_153 : rf d 255 153 [l0, l1, l2, some (.int x), l4, l5, l6, l7, l8] s h = rf d 255 154 [l0, l1, l2, some (.int x), l4, l5, l6, l7, l8] (.int x :: s) h := rf_pure (i := .iload_n 3) (len := 1) (okD_ok (by decide +kernel)) rfl
theorem e255_154 : rf d 255 154 ls (.int y :: .int x :: s) h = rf d 255 155 ls (.int (x &&& y) :: s) h := rf_pure (i := .iand) (len := 1) (okD_ok (by decide +kernel)) rfl
theorem e255_155 (hcat : ip_cat s ≤ 8) : rf (d + 1) 255 155 ls (.int x1 :: .int x0 :: .ref 265 :: s) (SH n, I, L, R, nc, ns, nx) = rf_k (d + 1) 255 155 ls s (cf d 258 [.ref 265, .int x0, .int x1] (SH n, I, L, R, nc, ns, nx)) := g_cv (idx := 435) (t := 8) [.int x1, .int x0] (by decide +kernel) ow255 ms_8_435 mt_8_435 cy258_8 rfl rfl mL258 rfl rfl (by decide) hcat
theorem e255_158 (hn : ip_nl l5 = true) : rf d 255 158 [l0, l1, l2, l3, l4, l5, l6, l7, l8] (.int x :: s) h = rf d 255 160 [l0, l1, l2, l3, l4, l5, some (.int x), l7, l8] s h := g_sti (i := .istore 6) (len := 2) (q := 5) (p := 2) (by decide +kernel) rfl rfl hn
theorem e255_160 : rf d 255 160 ls s h = rf d 255 161 ls (.int 0 :: s) h := rf_pure (i := .iconst (0)) (len := 1) (okD_ok (by decide +kernel)) rfl
theorem e255_161 (hn : ip_nl l6 = true) : rf d 255 161 [l0, l1, l2, l3, l4, l5, l6, l7, l8] (.int x :: s) h = rf d 255 163 [l0, l1, l2, l3, l4, l5, l6, some (.int x), l8] s h := g_sti (i := .istore 7) (len := 2) (q := 6) (p := 2) (by decide +kernel) rfl rfl hn
theorem e255_163 : rf d 255 163 [l0, l1, l2, l3, l4, l5, l6, some (.int x), l8] s h = rf d 255 165 [l0, l1, l2, l3, l4, l5, l6, some (.int x), l8] (.int x :: s) h := rf_pure (i := .iload 7) (len := 2) (okD_ok (by decide +kernel)) rfl
theorem e255_165 : rf d 255 165 [some (.ref a), l1, l2, l3, l4, l5, l6, l7, l8] s h = rf d 255 166 [some (.ref a), l1, l2, l3, l4, l5, l6, l7, l8] (.ref a :: s) h := rf_pure (i := .aload_n 0) (len := 1) (okD_ok (by decide +kernel)) rfl
theorem e255_166 (hcat : ip_cat s ≤ 8) : rf (d + 1) 255 166 ls (.ref 265 :: s) (SH n, I, L, R, nc, ns, nx) = rf_k (d + 1) 255 166 ls s (cf d 187 [.ref 265] (SH n, I, L, R, nc, ns, nx)) := g_cv (idx := 309) (t := 8) [] (by decide +kernel) ow255 ms_8_309 mt_8_309 cy187_8 rfl rfl mL187 rfl rfl (by decide) hcat
theorem e255_169 : rf d 255 169 ls (.int y :: .int x :: s) h = if y < x then rf d 255 252 ls s h else rf d 255 172 ls s h := g_ic (c := .gt) (off := 83) _ (by decide +kernel) rfl cmp_d
theorem e255_172 : rf d 255 172 [some (.ref a), l1, l2, l3, l4, l5, l6, l7, l8] s h = rf d 255 173 [some (.ref a), l1, l2, l3, l4, l5, l6, l7, l8] (.ref a :: s) h := rf_pure (i := .aload_n 0) (len := 1) (okD_ok (by decide +kernel)) rfl
theorem e255_173 : rf d 255 173 [l0, l1, l2, l3, l4, l5, l6, some (.int x), l8] s h = rf d 255 175 [l0, l1, l2, l3, l4, l5, l6, some (.int x), l8] (.int x :: s) h := rf_pure (i := .iload 7) (len := 2) (okD_ok (by decide +kernel)) rfl
theorem e255_175 (hcat : ip_cat s ≤ 8) : rf (d + 1) 255 175 ls (.int x0 :: .ref 265 :: s) (SH n, I, L, R, nc, ns, nx) = rf_k (d + 1) 255 175 ls s (cf d 247 [.ref 265, .int x0] (SH n, I, L, R, nc, ns, nx)) := g_cv (idx := 404) (t := 8) [.int x0] (by decide +kernel) ow255 ms_8_404 mt_8_404 cy247_8 rfl rfl mL247 rfl rfl (by decide) hcat
theorem e255_178 : rf d 255 178 [l0, some (.int x), l2, l3, l4, l5, l6, l7, l8] s h = rf d 255 179 [l0, some (.int x), l2, l3, l4, l5, l6, l7, l8] (.int x :: s) h := rf_pure (i := .iload_n 1) (len := 1) (okD_ok (by decide +kernel)) rfl
theorem e255_179 : rf d 255 179 ls (.int y :: .int x :: s) h = if x ≤ y then rf d 255 185 ls s h else rf d 255 182 ls s h := g_ic (c := .le) (off := 6) _ (by decide +kernel) rfl cmp_d
theorem e255_182 : rf d 255 182 ls s h = rf d 255 246 ls s h := rf_goto ⟨okD_ok (i := .goto (64)) (len := 3) (by decide +kernel), rfl⟩
theorem e255_185 : rf d 255 185 [some (.ref a), l1, l2, l3, l4, l5, l6, l7, l8] s h = rf d 255 186 [some (.ref a), l1, l2, l3, l4, l5, l6, l7, l8] (.ref a :: s) h := rf_pure (i := .aload_n 0) (len := 1) (okD_ok (by decide +kernel)) rfl
theorem e255_186 : rf d 255 186 [some (.ref a), l1, l2, l3, l4, l5, l6, l7, l8] s h = rf d 255 187 [some (.ref a), l1, l2, l3, l4, l5, l6, l7, l8] (.ref a :: s) h := rf_pure (i := .aload_n 0) (len := 1) (okD_ok (by decide +kernel)) rfl
theorem e255_187 : rf d 255 187 [l0, l1, l2, l3, l4, l5, l6, some (.int x), l8] s h = rf d 255 189 [l0, l1, l2, l3, l4, l5, l6, some (.int x), l8] (.int x :: s) h := rf_pure (i := .iload 7) (len := 2) (okD_ok (by decide +kernel)) rfl
theorem e255_189 : rf d 255 189 [l0, l1, l2, l3, l4, l5, some (.int x), l7, l8] s h = rf d 255 191 [l0, l1, l2, l3, l4, l5, some (.int x), l7, l8] (.int x :: s) h := rf_pure (i := .iload 6) (len := 2) (okD_ok (by decide +kernel)) rfl
theorem e255_191 : rf d 255 191 ls (.int y :: .int x :: s) h = rf d 255 192 ls (.int (x &&& y) :: s) h := rf_pure (i := .iand) (len := 1) (okD_ok (by decide +kernel)) rfl
theorem e255_192 : rf d 255 192 ls s h = rf d 255 193 ls (.int 2 :: s) h := rf_pure (i := .iconst (2)) (len := 1) (okD_ok (by decide +kernel)) rfl
theorem e255_193 (hcat : ip_cat s ≤ 8) : rf (d + 1) 255 193 ls (.int x1 :: .int x0 :: .ref 265 :: s) (SH n, I, L, R, nc, ns, nx) = rf_k (d + 1) 255 193 ls s (cf d 238 [.ref 265, .int x0, .int x1] (SH n, I, L, R, nc, ns, nx)) := g_cv (idx := 377) (t := 8) [.int x1, .int x0] (by decide +kernel) ow255 ms_8_377 mt_8_377 cy238_8 rfl rfl mL238 rfl rfl (by decide) hcat
theorem e255_196 (hcat : ip_cat s ≤ 8) : rf (d + 1) 255 196 ls (.int x0 :: .ref 265 :: s) (SH n, I, L, R, nc, ns, nx) = rf_k (d + 1) 255 196 ls s (cf d 239 [.ref 265, .int x0] (SH n, I, L, R, nc, ns, nx)) := g_cv (idx := 383) (t := 8) [.int x0] (by decide +kernel) ow255 ms_8_383 mt_8_383 cy239_8 rfl rfl mL239 rfl rfl (by decide) hcat
theorem e255_199 : rf d 255 199 [some (.ref a), l1, l2, l3, l4, l5, l6, l7, l8] s h = rf d 255 200 [some (.ref a), l1, l2, l3, l4, l5, l6, l7, l8] (.ref a :: s) h := rf_pure (i := .aload_n 0) (len := 1) (okD_ok (by decide +kernel)) rfl
theorem e255_200 : rf d 255 200 [some (.ref a), l1, l2, l3, l4, l5, l6, l7, l8] s h = rf d 255 201 [some (.ref a), l1, l2, l3, l4, l5, l6, l7, l8] (.ref a :: s) h := rf_pure (i := .aload_n 0) (len := 1) (okD_ok (by decide +kernel)) rfl
theorem e255_201 : rf d 255 201 ls (.ref 265 :: s) (SH n, I, L, R, nc, ns, nx) = rf d 255 204 ls (.int (I 265 57) :: s) (SH n, I, L, R, nc, ns, nx) := g_I (idx := 353) (by decide +kernel) ow255 f_8_353 rfl rfl (by decide)
theorem e255_204 : rf d 255 204 [some (.ref a), l1, l2, l3, l4, l5, l6, l7, l8] s h = rf d 255 205 [some (.ref a), l1, l2, l3, l4, l5, l6, l7, l8] (.ref a :: s) h := rf_pure (i := .aload_n 0) (len := 1) (okD_ok (by decide +kernel)) rfl
theorem e255_205 : rf d 255 205 ls (.ref 265 :: s) (SH n, I, L, R, nc, ns, nx) = rf d 255 208 ls (.int (I 265 55) :: s) (SH n, I, L, R, nc, ns, nx) := g_I (idx := 347) (by decide +kernel) ow255 f_8_347 rfl rfl (by decide)
theorem e255_208 (hcat : ip_cat s ≤ 8) : rf (d + 1) 255 208 ls (.int x1 :: .int x0 :: .ref 265 :: s) (SH n, I, L, R, nc, ns, nx) = rf_k (d + 1) 255 208 ls s (cf d 234 [.ref 265, .int x0, .int x1] (SH n, I, L, R, nc, ns, nx)) := g_cv (idx := 339) (t := 8) [.int x1, .int x0] (by decide +kernel) ow255 ms_8_339 mt_8_339 cy234_8 rfl rfl mL234 rfl rfl (by decide) hcat
theorem e255_211 (hn : ip_nl l7 = true) : rf d 255 211 [l0, l1, l2, l3, l4, l5, l6, l7, l8] (.int x :: s) h = rf d 255 213 [l0, l1, l2, l3, l4, l5, l6, l7, some (.int x)] s h := g_sti (i := .istore 8) (len := 2) (q := 7) (p := 2) (by decide +kernel) rfl rfl hn
theorem e255_213 : rf d 255 213 [some (.ref a), l1, l2, l3, l4, l5, l6, l7, l8] s h = rf d 255 214 [some (.ref a), l1, l2, l3, l4, l5, l6, l7, l8] (.ref a :: s) h := rf_pure (i := .aload_n 0) (len := 1) (okD_ok (by decide +kernel)) rfl
theorem e255_214 : rf d 255 214 [l0, l1, l2, l3, l4, l5, l6, l7, some (.int x)] s h = rf d 255 216 [l0, l1, l2, l3, l4, l5, l6, l7, some (.int x)] (.int x :: s) h := rf_pure (i := .iload 8) (len := 2) (okD_ok (by decide +kernel)) rfl
theorem e255_216 : rf d 255 216 ls s h = rf d 255 217 ls (.int (-1) :: s) h := rf_pure (i := .iconst (-1)) (len := 1) (okD_ok (by decide +kernel)) rfl
theorem e255_217 : rf d 255 217 ls (.int y :: .int x :: s) h = if ¬ x = y then rf d 255 224 ls s h else rf d 255 220 ls s h := g_ic (c := .ne) (off := 7) _ (by decide +kernel) rfl cmp_d
theorem e255_220 : rf d 255 220 ls s h = rf d 255 221 ls (.int 1 :: s) h := rf_pure (i := .iconst (1)) (len := 1) (okD_ok (by decide +kernel)) rfl
theorem e255_221 : rf d 255 221 ls s h = rf d 255 238 ls s h := rf_goto ⟨okD_ok (i := .goto (17)) (len := 3) (by decide +kernel), rfl⟩
theorem e255_224 : rf d 255 224 [l0, l1, l2, l3, l4, l5, l6, l7, some (.int x)] s h = rf d 255 226 [l0, l1, l2, l3, l4, l5, l6, l7, some (.int x)] (.int x :: s) h := rf_pure (i := .iload 8) (len := 2) (okD_ok (by decide +kernel)) rfl
theorem e255_226 : rf d 255 226 [some (.ref a), l1, l2, l3, l4, l5, l6, l7, l8] s h = rf d 255 227 [some (.ref a), l1, l2, l3, l4, l5, l6, l7, l8] (.ref a :: s) h := rf_pure (i := .aload_n 0) (len := 1) (okD_ok (by decide +kernel)) rfl
theorem e255_227 : rf d 255 227 ls (.ref 265 :: s) (SH n, I, L, R, nc, ns, nx) = rf d 255 230 ls (.int (I 265 59) :: s) (SH n, I, L, R, nc, ns, nx) := g_I (idx := 362) (by decide +kernel) ow255 f_8_362 rfl rfl (by decide)
theorem e255_230 : rf d 255 230 ls (.int y :: .int x :: s) h = if ¬ x = y then rf d 255 237 ls s h else rf d 255 233 ls s h := g_ic (c := .ne) (off := 7) _ (by decide +kernel) rfl cmp_d
theorem e255_233 : rf d 255 233 ls s h = rf d 255 234 ls (.int 2 :: s) h := rf_pure (i := .iconst (2)) (len := 1) (okD_ok (by decide +kernel)) rfl
theorem e255_234 : rf d 255 234 ls s h = rf d 255 238 ls s h := rf_goto ⟨okD_ok (i := .goto (4)) (len := 3) (by decide +kernel), rfl⟩
theorem e255_237 : rf d 255 237 ls s h = rf d 255 238 ls (.int 0 :: s) h := rf_pure (i := .iconst (0)) (len := 1) (okD_ok (by decide +kernel)) rfl
theorem e255_238 : rf d 255 238 ls s h = rf d 255 239 ls (.int 2 :: s) h := rf_pure (i := .iconst (2)) (len := 1) (okD_ok (by decide +kernel)) rfl
theorem e255_239 : rf d 255 239 [l0, l1, l2, l3, some (.int x), l5, l6, l7, l8] s h = rf d 255 241 [l0, l1, l2, l3, some (.int x), l5, l6, l7, l8] (.int x :: s) h := rf_pure (i := .iload 4) (len := 2) (okD_ok (by decide +kernel)) rfl
theorem e255_241 : rf d 255 241 [l0, l1, l2, l3, l4, l5, l6, some (.int x), l8] s h = rf d 255 243 [l0, l1, l2, l3, l4, l5, l6, some (.int x), l8] (.int x :: s) h := rf_pure (i := .iload 7) (len := 2) (okD_ok (by decide +kernel)) rfl
theorem e255_243 (hcat : ip_cat s ≤ 8) : rf (d + 1) 255 243 ls (.int x3 :: .int x2 :: .int x1 :: .int x0 :: .ref 265 :: s) (SH n, I, L, R, nc, ns, nx) = rf_k (d + 1) 255 243 ls s (cf d 256 [.ref 265, .int x0, .int x1, .int x2, .int x3] (SH n, I, L, R, nc, ns, nx)) := g_cv (idx := 431) (t := 8) [.int x3, .int x2, .int x1, .int x0] (by decide +kernel) ow255 ms_8_431 mt_8_431 cy256_8 rfl rfl mL256 rfl rfl (by decide) hcat
theorem e255_246 (hn : ip_nl l6 = true) : rf d 255 246 [l0, l1, l2, l3, l4, l5, l6, some (.int x), l8] s h = rf d 255 249 [l0, l1, l2, l3, l4, l5, l6, some (.int (x + 1)), l8] s h := g_inc (q := 6) (z := 1) (w := 1) (x := x) (by decide) (by decide +kernel) rfl rfl hn
theorem e255_249 : rf d 255 249 ls s h = rf d 255 163 ls s h := rf_goto ⟨okD_ok (i := .goto (-86)) (len := 3) (by decide +kernel), rfl⟩
theorem e255_252 (hn : ip_nl l3 = true) : rf d 255 252 [l0, l1, l2, l3, some (.int x), l5, l6, l7, l8] s h = rf d 255 255 [l0, l1, l2, l3, some (.int (x + 1)), l5, l6, l7, l8] s h := g_inc (q := 3) (z := 1) (w := 1) (x := x) (by decide) (by decide +kernel) rfl rfl hn
theorem e255_255 : rf d 255 255 ls s h = rf d 255 96 ls s h := rf_goto ⟨okD_ok (i := .goto (-159)) (len := 3) (by decide +kernel), rfl⟩
theorem e255_258 : rf d 255 258 [l0, l1, some (.int x), l3, l4, l5, l6, l7, l8] s h = rf d 255 259 [l0, l1, some (.int x), l3, l4, l5, l6, l7, l8] (.int x :: s) h := rf_pure (i := .iload_n 2) (len := 1) (okD_ok (by decide +kernel)) rfl
theorem e255_259 : rf d 255 259 ls s h = rf d 255 260 ls (.int 1 :: s) h := rf_pure (i := .iconst (1)) (len := 1) (okD_ok (by decide +kernel)) rfl
theorem e255_260 : rf d 255 260 ls (.int y :: .int x :: s) h = if ¬ x = y then rf d 255 270 ls s h else rf d 255 263 ls s h := g_ic (c := .ne) (off := 10) _ (by decide +kernel) rfl cmp_d
theorem e255_263 : rf d 255 263 [some (.ref a), l1, l2, l3, l4, l5, l6, l7, l8] s h = rf d 255 264 [some (.ref a), l1, l2, l3, l4, l5, l6, l7, l8] (.ref a :: s) h := rf_pure (i := .aload_n 0) (len := 1) (okD_ok (by decide +kernel)) rfl
theorem e255_264 : rf d 255 264 ls (.ref 265 :: s) (SH n, I, L, R, nc, ns, nx) = rf d 255 267 ls (.int (I 265 67) :: s) (SH n, I, L, R, nc, ns, nx) := g_I (idx := 422) (by decide +kernel) ow255 f_8_422 rfl rfl (by decide)
theorem e255_267 : rf d 255 267 ls s h = rf d 255 307 ls s h := rf_goto ⟨okD_ok (i := .goto (40)) (len := 3) (by decide +kernel), rfl⟩
theorem e255_270 : rf d 255 270 [l0, l1, some (.int x), l3, l4, l5, l6, l7, l8] s h = rf d 255 271 [l0, l1, some (.int x), l3, l4, l5, l6, l7, l8] (.int x :: s) h := rf_pure (i := .iload_n 2) (len := 1) (okD_ok (by decide +kernel)) rfl
theorem e255_271 : rf d 255 271 ls s h = rf d 255 272 ls (.int 2 :: s) h := rf_pure (i := .iconst (2)) (len := 1) (okD_ok (by decide +kernel)) rfl
theorem e255_272 : rf d 255 272 ls (.int y :: .int x :: s) h = if ¬ x = y then rf d 255 282 ls s h else rf d 255 275 ls s h := g_ic (c := .ne) (off := 10) _ (by decide +kernel) rfl cmp_d
theorem e255_275 : rf d 255 275 [some (.ref a), l1, l2, l3, l4, l5, l6, l7, l8] s h = rf d 255 276 [some (.ref a), l1, l2, l3, l4, l5, l6, l7, l8] (.ref a :: s) h := rf_pure (i := .aload_n 0) (len := 1) (okD_ok (by decide +kernel)) rfl
theorem e255_276 : rf d 255 276 ls (.ref 265 :: s) (SH n, I, L, R, nc, ns, nx) = rf d 255 279 ls (.int (I 265 68) :: s) (SH n, I, L, R, nc, ns, nx) := g_I (idx := 428) (by decide +kernel) ow255 f_8_428 rfl rfl (by decide)
theorem e255_279 : rf d 255 279 ls s h = rf d 255 307 ls s h := rf_goto ⟨okD_ok (i := .goto (28)) (len := 3) (by decide +kernel), rfl⟩
theorem e255_282 : rf d 255 282 [some (.ref a), l1, l2, l3, l4, l5, l6, l7, l8] s h = rf d 255 283 [some (.ref a), l1, l2, l3, l4, l5, l6, l7, l8] (.ref a :: s) h := rf_pure (i := .aload_n 0) (len := 1) (okD_ok (by decide +kernel)) rfl
theorem e255_283 : rf d 255 283 ls (.ref 265 :: s) (SH n, I, L, R, nc, ns, nx) = rf d 255 286 ls (.int (I 265 65) :: s) (SH n, I, L, R, nc, ns, nx) := g_I (idx := 416) (by decide +kernel) ow255 f_8_416 rfl rfl (by decide)
theorem e255_286 : rf d 255 286 ls s h = rf d 255 287 ls (.int 2 :: s) h := rf_pure (i := .iconst (2)) (len := 1) (okD_ok (by decide +kernel)) rfl
theorem e255_287 : rf d 255 287 ls (.int y :: .int x :: s) h = if ¬ x = y then rf d 255 294 ls s h else rf d 255 290 ls s h := g_ic (c := .ne) (off := 7) _ (by decide +kernel) rfl cmp_d
theorem e255_290 : rf d 255 290 ls s h = rf d 255 291 ls (.int 2 :: s) h := rf_pure (i := .iconst (2)) (len := 1) (okD_ok (by decide +kernel)) rfl
theorem e255_291 : rf d 255 291 ls s h = rf d 255 307 ls s h := rf_goto ⟨okD_ok (i := .goto (16)) (len := 3) (by decide +kernel), rfl⟩
theorem e255_294 : rf d 255 294 [some (.ref a), l1, l2, l3, l4, l5, l6, l7, l8] s h = rf d 255 295 [some (.ref a), l1, l2, l3, l4, l5, l6, l7, l8] (.ref a :: s) h := rf_pure (i := .aload_n 0) (len := 1) (okD_ok (by decide +kernel)) rfl
theorem e255_295 : rf d 255 295 ls (.ref 265 :: s) (SH n, I, L, R, nc, ns, nx) = rf d 255 298 ls (.int (I 265 65) :: s) (SH n, I, L, R, nc, ns, nx) := g_I (idx := 416) (by decide +kernel) ow255 f_8_416 rfl rfl (by decide)
theorem e255_298 : rf d 255 298 ls s h = rf d 255 299 ls (.int 1 :: s) h := rf_pure (i := .iconst (1)) (len := 1) (okD_ok (by decide +kernel)) rfl
theorem e255_299 : rf d 255 299 ls (.int y :: .int x :: s) h = if ¬ x = y then rf d 255 306 ls s h else rf d 255 302 ls s h := g_ic (c := .ne) (off := 7) _ (by decide +kernel) rfl cmp_d
theorem e255_302 : rf d 255 302 ls s h = rf d 255 303 ls (.int 3 :: s) h := rf_pure (i := .iconst (3)) (len := 1) (okD_ok (by decide +kernel)) rfl
theorem e255_303 : rf d 255 303 ls s h = rf d 255 307 ls s h := rf_goto ⟨okD_ok (i := .goto (4)) (len := 3) (by decide +kernel), rfl⟩
theorem e255_306 : rf d 255 306 ls s h = rf d 255 307 ls (.int 0 :: s) h := rf_pure (i := .iconst (0)) (len := 1) (okD_ok (by decide +kernel)) rfl
theorem e255_307 : rf d 255 307 ls [.int x] h = some (.inl (some (.int x)), h) := g_ri (by decide +kernel) rt255
theorem en256 : cf d 256 [.ref a, .int x0, .int x1, .int x2, .int x3] h = rf d 256 0 [some (.ref a), some (.int x0), some (.int x1), some (.int x2), some (.int x3), none] [] h := rfl
theorem e256_0 : rf d 256 0 [some (.ref a), l1, l2, l3, l4, l5] s h = rf d 256 1 [some (.ref a), l1, l2, l3, l4, l5] (.ref a :: s) h := rf_pure (i := .aload_n 0) (len := 1) (okD_ok (by decide +kernel)) rfl
theorem e256_1 : rf d 256 1 ls (.ref 265 :: s) (SH n, I, L, R, nc, ns, nx) = rf d 256 4 ls (.int (I 265 65) :: s) (SH n, I, L, R, nc, ns, nx) := g_I (idx := 416) (by decide +kernel) ow256 f_8_416 rfl rfl (by decide)
theorem e256_4 : rf d 256 4 [l0, some (.int x), l2, l3, l4, l5] s h = rf d 256 5 [l0, some (.int x), l2, l3, l4, l5] (.int x :: s) h := rf_pure (i := .iload_n 1) (len := 1) (okD_ok (by decide +kernel)) rfl
theorem e256_5 : rf d 256 5 ls (.int y :: .int x :: s) h = rf d 256 6 ls (.int (x - y) :: s) h := rf_pure (i := .isub) (len := 1) (okD_ok (by decide +kernel)) rfl
theorem e256_6 (hn : ip_nl l4 = true) : rf d 256 6 [l0, l1, l2, l3, l4, l5] (.int x :: s) h = rf d 256 8 [l0, l1, l2, l3, l4, some (.int x)] s h := g_sti (i := .istore 5) (len := 2) (q := 4) (p := 2) (by decide +kernel) rfl rfl hn
theorem e256_8 : rf d 256 8 [l0, l1, l2, l3, l4, some (.int x)] s h = rf d 256 10 [l0, l1, l2, l3, l4, some (.int x)] (.int x :: s) h := rf_pure (i := .iload 5) (len := 2) (okD_ok (by decide +kernel)) rfl
theorem e256_10 : rf d 256 10 ls (.int x :: s) h = if ¬ x = 0 then rf d 256 21 ls s h else rf d 256 13 ls s h := g_if (c := .ne) (off := 11) _ (by decide +kernel) rfl cmp_d
theorem e256_13 : rf d 256 13 [l0, l1, some (.int x), l3, l4, l5] s h = rf d 256 14 [l0, l1, some (.int x), l3, l4, l5] (.int x :: s) h := rf_pure (i := .iload_n 2) (len := 1) (okD_ok (by decide +kernel)) rfl
theorem e256_14 : rf d 256 14 [some (.ref a), l1, l2, l3, l4, l5] s h = rf d 256 15 [some (.ref a), l1, l2, l3, l4, l5] (.ref a :: s) h := rf_pure (i := .aload_n 0) (len := 1) (okD_ok (by decide +kernel)) rfl
theorem e256_15 : rf d 256 15 ls (.ref 265 :: s) (SH n, I, L, R, nc, ns, nx) = rf d 256 18 ls (.int (I 265 66) :: s) (SH n, I, L, R, nc, ns, nx) := g_I (idx := 419) (by decide +kernel) ow256 f_8_419 rfl rfl (by decide)
theorem e256_18 : rf d 256 18 ls (.int y :: .int x :: s) h = rf d 256 19 ls (.int (x - y) :: s) h := rf_pure (i := .isub) (len := 1) (okD_ok (by decide +kernel)) rfl
theorem e256_19 (hn : ip_nl l4 = true) : rf d 256 19 [l0, l1, l2, l3, l4, l5] (.int x :: s) h = rf d 256 21 [l0, l1, l2, l3, l4, some (.int x)] s h := g_sti (i := .istore 5) (len := 2) (q := 4) (p := 2) (by decide +kernel) rfl rfl hn
theorem e256_21 : rf d 256 21 [l0, l1, l2, l3, l4, some (.int x)] s h = rf d 256 23 [l0, l1, l2, l3, l4, some (.int x)] (.int x :: s) h := rf_pure (i := .iload 5) (len := 2) (okD_ok (by decide +kernel)) rfl
theorem e256_23 : rf d 256 23 ls (.int x :: s) h = if ¬ x = 0 then rf d 256 36 ls s h else rf d 256 26 ls s h := g_if (c := .ne) (off := 13) _ (by decide +kernel) rfl cmp_d
theorem e256_26 : rf d 256 26 [l0, l1, l2, some (.int x), l4, l5] s h = rf d 256 27 [l0, l1, l2, some (.int x), l4, l5] (.int x :: s) h := rf_pure (i := .iload_n 3) (len := 1) (okD_ok (by decide +kernel)) rfl
theorem e256_27 : rf d 256 27 [some (.ref a), l1, l2, l3, l4, l5] s h = rf d 256 28 [some (.ref a), l1, l2, l3, l4, l5] (.ref a :: s) h := rf_pure (i := .aload_n 0) (len := 1) (okD_ok (by decide +kernel)) rfl
theorem e256_28 : rf d 256 28 ls (.ref 265 :: s) (SH n, I, L, R, nc, ns, nx) = rf d 256 31 ls (.int (I 265 67) :: s) (SH n, I, L, R, nc, ns, nx) := g_I (idx := 422) (by decide +kernel) ow256 f_8_422 rfl rfl (by decide)
theorem e256_31 (hcat : ip_cat s ≤ 8) : rf (d + 1) 256 31 ls (.int x1 :: .int x0 :: s) h = rf_k (d + 1) 256 31 ls s (cf d 257 [.int x0, .int x1] h) := g_cs (idx := 425) [.int x1, .int x0] (by decide +kernel) ow256 ms_8_425 mt_8_425 (by decide) rfl mL257 rfl hcat
theorem e256_34 (hn : ip_nl l4 = true) : rf d 256 34 [l0, l1, l2, l3, l4, l5] (.int x :: s) h = rf d 256 36 [l0, l1, l2, l3, l4, some (.int x)] s h := g_sti (i := .istore 5) (len := 2) (q := 4) (p := 2) (by decide +kernel) rfl rfl hn
theorem e256_36 : rf d 256 36 [l0, l1, l2, l3, l4, some (.int x)] s h = rf d 256 38 [l0, l1, l2, l3, l4, some (.int x)] (.int x :: s) h := rf_pure (i := .iload 5) (len := 2) (okD_ok (by decide +kernel)) rfl
theorem e256_38 : rf d 256 38 ls (.int x :: s) h = if ¬ x = 0 then rf d 256 57 ls s h else rf d 256 41 ls s h := g_if (c := .ne) (off := 19) _ (by decide +kernel) rfl cmp_d
theorem e256_41 : rf d 256 41 [l0, l1, some (.int x), l3, l4, l5] s h = rf d 256 42 [l0, l1, some (.int x), l3, l4, l5] (.int x :: s) h := rf_pure (i := .iload_n 2) (len := 1) (okD_ok (by decide +kernel)) rfl
theorem e256_42 : rf d 256 42 ls s h = rf d 256 43 ls (.int 2 :: s) h := rf_pure (i := .iconst (2)) (len := 1) (okD_ok (by decide +kernel)) rfl
theorem e256_43 : rf d 256 43 ls (.int y :: .int x :: s) h = if ¬ x = y then rf d 256 57 ls s h else rf d 256 46 ls s h := g_ic (c := .ne) (off := 14) _ (by decide +kernel) rfl cmp_d
theorem e256_46 : rf d 256 46 [l0, l1, l2, l3, some (.int x), l5] s h = rf d 256 48 [l0, l1, l2, l3, some (.int x), l5] (.int x :: s) h := rf_pure (i := .iload 4) (len := 2) (okD_ok (by decide +kernel)) rfl
theorem e256_48 : rf d 256 48 [some (.ref a), l1, l2, l3, l4, l5] s h = rf d 256 49 [some (.ref a), l1, l2, l3, l4, l5] (.ref a :: s) h := rf_pure (i := .aload_n 0) (len := 1) (okD_ok (by decide +kernel)) rfl
theorem e256_49 : rf d 256 49 ls (.ref 265 :: s) (SH n, I, L, R, nc, ns, nx) = rf d 256 52 ls (.int (I 265 68) :: s) (SH n, I, L, R, nc, ns, nx) := g_I (idx := 428) (by decide +kernel) ow256 f_8_428 rfl rfl (by decide)
theorem e256_52 (hcat : ip_cat s ≤ 8) : rf (d + 1) 256 52 ls (.int x1 :: .int x0 :: s) h = rf_k (d + 1) 256 52 ls s (cf d 257 [.int x0, .int x1] h) := g_cs (idx := 425) [.int x1, .int x0] (by decide +kernel) ow256 ms_8_425 mt_8_425 (by decide) rfl mL257 rfl hcat
theorem e256_55 (hn : ip_nl l4 = true) : rf d 256 55 [l0, l1, l2, l3, l4, l5] (.int x :: s) h = rf d 256 57 [l0, l1, l2, l3, l4, some (.int x)] s h := g_sti (i := .istore 5) (len := 2) (q := 4) (p := 2) (by decide +kernel) rfl rfl hn
theorem e256_57 : rf d 256 57 [l0, l1, l2, l3, l4, some (.int x)] s h = rf d 256 59 [l0, l1, l2, l3, l4, some (.int x)] (.int x :: s) h := rf_pure (i := .iload 5) (len := 2) (okD_ok (by decide +kernel)) rfl
theorem e256_59 : rf d 256 59 ls (.int x :: s) h = if x < 0 then rf d 256 63 ls s h else rf d 256 62 ls s h := g_if (c := .lt) (off := 4) _ (by decide +kernel) rfl cmp_d
theorem e256_62 : rf d 256 62 ls [] h = some (.inl none, h) := g_rv (by decide +kernel) rt256
theorem e256_63 : rf d 256 63 [some (.ref a), l1, l2, l3, l4, l5] s h = rf d 256 64 [some (.ref a), l1, l2, l3, l4, l5] (.ref a :: s) h := rf_pure (i := .aload_n 0) (len := 1) (okD_ok (by decide +kernel)) rfl
theorem e256_64 : rf d 256 64 [l0, some (.int x), l2, l3, l4, l5] s h = rf d 256 65 [l0, some (.int x), l2, l3, l4, l5] (.int x :: s) h := rf_pure (i := .iload_n 1) (len := 1) (okD_ok (by decide +kernel)) rfl
theorem e256_65 : rf d 256 65 ls (.int x :: .ref 265 :: s) (SH n, I, L, R, nc, ns, nx) = rf d 256 68 ls s (SH n, ip_up I 265 65 x, L, R, nc, ns, nx) := g_pI (idx := 416) (by decide +kernel) ow256 f_8_416 rfl (by decide +kernel) rfl (by decide)
theorem e256_68 : rf d 256 68 [some (.ref a), l1, l2, l3, l4, l5] s h = rf d 256 69 [some (.ref a), l1, l2, l3, l4, l5] (.ref a :: s) h := rf_pure (i := .aload_n 0) (len := 1) (okD_ok (by decide +kernel)) rfl
theorem e256_69 : rf d 256 69 [l0, l1, some (.int x), l3, l4, l5] s h = rf d 256 70 [l0, l1, some (.int x), l3, l4, l5] (.int x :: s) h := rf_pure (i := .iload_n 2) (len := 1) (okD_ok (by decide +kernel)) rfl
theorem e256_70 : rf d 256 70 ls (.int x :: .ref 265 :: s) (SH n, I, L, R, nc, ns, nx) = rf d 256 73 ls s (SH n, ip_up I 265 66 x, L, R, nc, ns, nx) := g_pI (idx := 419) (by decide +kernel) ow256 f_8_419 rfl (by decide +kernel) rfl (by decide)
theorem e256_73 : rf d 256 73 [some (.ref a), l1, l2, l3, l4, l5] s h = rf d 256 74 [some (.ref a), l1, l2, l3, l4, l5] (.ref a :: s) h := rf_pure (i := .aload_n 0) (len := 1) (okD_ok (by decide +kernel)) rfl
theorem e256_74 : rf d 256 74 [l0, l1, l2, some (.int x), l4, l5] s h = rf d 256 75 [l0, l1, l2, some (.int x), l4, l5] (.int x :: s) h := rf_pure (i := .iload_n 3) (len := 1) (okD_ok (by decide +kernel)) rfl
theorem e256_75 : rf d 256 75 ls (.int x :: .ref 265 :: s) (SH n, I, L, R, nc, ns, nx) = rf d 256 78 ls s (SH n, ip_up I 265 67 x, L, R, nc, ns, nx) := g_pI (idx := 422) (by decide +kernel) ow256 f_8_422 rfl (by decide +kernel) rfl (by decide)
theorem e256_78 : rf d 256 78 [some (.ref a), l1, l2, l3, l4, l5] s h = rf d 256 79 [some (.ref a), l1, l2, l3, l4, l5] (.ref a :: s) h := rf_pure (i := .aload_n 0) (len := 1) (okD_ok (by decide +kernel)) rfl
theorem e256_79 : rf d 256 79 [l0, l1, l2, l3, some (.int x), l5] s h = rf d 256 81 [l0, l1, l2, l3, some (.int x), l5] (.int x :: s) h := rf_pure (i := .iload 4) (len := 2) (okD_ok (by decide +kernel)) rfl
theorem e256_81 : rf d 256 81 ls (.int x :: .ref 265 :: s) (SH n, I, L, R, nc, ns, nx) = rf d 256 84 ls s (SH n, ip_up I 265 68 x, L, R, nc, ns, nx) := g_pI (idx := 428) (by decide +kernel) ow256 f_8_428 rfl (by decide +kernel) rfl (by decide)
theorem e256_84 : rf d 256 84 ls [] h = some (.inl none, h) := g_rv (by decide +kernel) rt256
theorem en257 : cf d 257 [.int x0, .int x1] h = rf d 257 0 [some (.int x0), some (.int x1)] [] h := rfl
theorem e257_0 : rf d 257 0 [some (.int x), l1] s h = rf d 257 1 [some (.int x), l1] (.int x :: s) h := rf_pure (i := .iload_n 0) (len := 1) (okD_ok (by decide +kernel)) rfl
theorem e257_1 (hcat : ip_cat s ≤ 8) : rf (d + 1) 257 1 ls (.int x0 :: s) h = rf_k (d + 1) 257 1 ls s (cf d 226 [.int x0] h) := g_cs (idx := 333) [.int x0] (by decide +kernel) ow257 ms_8_333 mt_8_333 (by decide) rfl mL226 rfl hcat
theorem e257_4 : rf d 257 4 [l0, some (.int x)] s h = rf d 257 5 [l0, some (.int x)] (.int x :: s) h := rf_pure (i := .iload_n 1) (len := 1) (okD_ok (by decide +kernel)) rfl
theorem e257_5 (hcat : ip_cat s ≤ 8) : rf (d + 1) 257 5 ls (.int x0 :: s) h = rf_k (d + 1) 257 5 ls s (cf d 226 [.int x0] h) := g_cs (idx := 333) [.int x0] (by decide +kernel) ow257 ms_8_333 mt_8_333 (by decide) rfl mL226 rfl hcat
theorem e257_8 : rf d 257 8 ls (.int y :: .int x :: s) h = if x = y then rf d 257 23 ls s h else rf d 257 11 ls s h := g_ic (c := .eq) (off := 15) _ (by decide +kernel) rfl cmp_d
theorem e257_11 : rf d 257 11 [some (.int x), l1] s h = rf d 257 12 [some (.int x), l1] (.int x :: s) h := rf_pure (i := .iload_n 0) (len := 1) (okD_ok (by decide +kernel)) rfl
theorem e257_12 (hcat : ip_cat s ≤ 8) : rf (d + 1) 257 12 ls (.int x0 :: s) h = rf_k (d + 1) 257 12 ls s (cf d 226 [.int x0] h) := g_cs (idx := 333) [.int x0] (by decide +kernel) ow257 ms_8_333 mt_8_333 (by decide) rfl mL226 rfl hcat
theorem e257_15 : rf d 257 15 [l0, some (.int x)] s h = rf d 257 16 [l0, some (.int x)] (.int x :: s) h := rf_pure (i := .iload_n 1) (len := 1) (okD_ok (by decide +kernel)) rfl
theorem e257_16 (hcat : ip_cat s ≤ 8) : rf (d + 1) 257 16 ls (.int x0 :: s) h = rf_k (d + 1) 257 16 ls s (cf d 226 [.int x0] h) := g_cs (idx := 333) [.int x0] (by decide +kernel) ow257 ms_8_333 mt_8_333 (by decide) rfl mL226 rfl hcat
theorem e257_19 : rf d 257 19 ls (.int y :: .int x :: s) h = rf d 257 20 ls (.int (x - y) :: s) h := rf_pure (i := .isub) (len := 1) (okD_ok (by decide +kernel)) rfl
theorem e257_20 : rf d 257 20 ls s h = rf d 257 26 ls s h := rf_goto ⟨okD_ok (i := .goto (6)) (len := 3) (by decide +kernel), rfl⟩
theorem e257_23 : rf d 257 23 [some (.int x), l1] s h = rf d 257 24 [some (.int x), l1] (.int x :: s) h := rf_pure (i := .iload_n 0) (len := 1) (okD_ok (by decide +kernel)) rfl
theorem e257_24 : rf d 257 24 [l0, some (.int x)] s h = rf d 257 25 [l0, some (.int x)] (.int x :: s) h := rf_pure (i := .iload_n 1) (len := 1) (okD_ok (by decide +kernel)) rfl
theorem e257_25 : rf d 257 25 ls (.int y :: .int x :: s) h = rf d 257 26 ls (.int (x - y) :: s) h := rf_pure (i := .isub) (len := 1) (okD_ok (by decide +kernel)) rfl
theorem e257_26 : rf d 257 26 ls [.int x] h = some (.inl (some (.int x)), h) := g_ri (by decide +kernel) rt257
theorem en258 : cf d 258 [.ref a, .int x0, .int x1] h = rf d 258 0 [some (.ref a), some (.int x0), some (.int x1), none, none, none, none, none] [] h := rfl
theorem e258_0 : rf d 258 0 ls s h = rf d 258 1 ls (.int 0 :: s) h := rf_pure (i := .iconst (0)) (len := 1) (okD_ok (by decide +kernel)) rfl
theorem e258_1 (hn : ip_nl l2 = true) : rf d 258 1 [l0, l1, l2, l3, l4, l5, l6, l7] (.int x :: s) h = rf d 258 2 [l0, l1, l2, some (.int x), l4, l5, l6, l7] s h := g_sti (i := .istore_n 3) (len := 1) (q := 2) (p := 1) (by decide +kernel) rfl rfl hn
theorem e258_2 : rf d 258 2 ls s h = rf d 258 3 ls (.int 0 :: s) h := rf_pure (i := .iconst (0)) (len := 1) (okD_ok (by decide +kernel)) rfl
theorem e258_3 (hn : ip_nl l3 = true) : rf d 258 3 [l0, l1, l2, l3, l4, l5, l6, l7] (.int x :: s) h = rf d 258 5 [l0, l1, l2, l3, some (.int x), l5, l6, l7] s h := g_sti (i := .istore 4) (len := 2) (q := 3) (p := 2) (by decide +kernel) rfl rfl hn
theorem e258_5 : rf d 258 5 [l0, l1, l2, l3, some (.int x), l5, l6, l7] s h = rf d 258 7 [l0, l1, l2, l3, some (.int x), l5, l6, l7] (.int x :: s) h := rf_pure (i := .iload 4) (len := 2) (okD_ok (by decide +kernel)) rfl
theorem e258_7 : rf d 258 7 [some (.ref a), l1, l2, l3, l4, l5, l6, l7] s h = rf d 258 8 [some (.ref a), l1, l2, l3, l4, l5, l6, l7] (.ref a :: s) h := rf_pure (i := .aload_n 0) (len := 1) (okD_ok (by decide +kernel)) rfl
theorem e258_8 : rf d 258 8 ls (.ref 265 :: s) (SH n, I, L, R, nc, ns, nx) = rf d 258 11 ls (.int (I 265 17) :: s) (SH n, I, L, R, nc, ns, nx) := g_I (idx := 291) (by decide +kernel) ow258 f_8_291 rfl rfl (by decide)
theorem e258_11 : rf d 258 11 ls (.int y :: .int x :: s) h = if y ≤ x then rf d 258 177 ls s h else rf d 258 14 ls s h := g_ic (c := .ge) (off := 166) _ (by decide +kernel) rfl cmp_d
theorem e258_14 : rf d 258 14 [some (.ref a), l1, l2, l3, l4, l5, l6, l7] s h = rf d 258 15 [some (.ref a), l1, l2, l3, l4, l5, l6, l7] (.ref a :: s) h := rf_pure (i := .aload_n 0) (len := 1) (okD_ok (by decide +kernel)) rfl
theorem e258_15 : rf d 258 15 [some (.ref a), l1, l2, l3, l4, l5, l6, l7] s h = rf d 258 16 [some (.ref a), l1, l2, l3, l4, l5, l6, l7] (.ref a :: s) h := rf_pure (i := .aload_n 0) (len := 1) (okD_ok (by decide +kernel)) rfl
theorem e258_16 : rf d 258 16 ls (.ref 265 :: s) (SH n, I, L, R, nc, ns, nx) = rf d 258 19 ls (.int (I 265 38) :: s) (SH n, I, L, R, nc, ns, nx) := g_I (idx := 306) (by decide +kernel) ow258 f_8_306 rfl rfl (by decide)
theorem e258_19 : rf d 258 19 [l0, l1, l2, l3, some (.int x), l5, l6, l7] s h = rf d 258 21 [l0, l1, l2, l3, some (.int x), l5, l6, l7] (.int x :: s) h := rf_pure (i := .iload 4) (len := 2) (okD_ok (by decide +kernel)) rfl
theorem e258_21 : rf d 258 21 [some (.ref a), l1, l2, l3, l4, l5, l6, l7] s h = rf d 258 22 [some (.ref a), l1, l2, l3, l4, l5, l6, l7] (.ref a :: s) h := rf_pure (i := .aload_n 0) (len := 1) (okD_ok (by decide +kernel)) rfl
theorem e258_22 : rf d 258 22 ls (.ref 265 :: s) (SH n, I, L, R, nc, ns, nx) = rf d 258 25 ls (.int (I 265 59) :: s) (SH n, I, L, R, nc, ns, nx) := g_I (idx := 362) (by decide +kernel) ow258 f_8_362 rfl rfl (by decide)
theorem e258_25 (hcat : ip_cat s ≤ 8) : rf (d + 1) 258 25 ls (.int x2 :: .int x1 :: .int x0 :: .ref 265 :: s) (SH n, I, L, R, nc, ns, nx) = rf_k (d + 1) 258 25 ls s (cf d 228 [.ref 265, .int x0, .int x1, .int x2] (SH n, I, L, R, nc, ns, nx)) := g_cv (idx := 336) (t := 8) [.int x2, .int x1, .int x0] (by decide +kernel) ow258 ms_8_336 mt_8_336 cy228_8 rfl rfl mL228 rfl rfl (by decide) hcat
theorem e258_28 : rf d 258 28 ls (.int x :: s) h = if ¬ x = 0 then rf d 258 34 ls s h else rf d 258 31 ls s h := g_if (c := .ne) (off := 6) _ (by decide +kernel) rfl cmp_d
theorem e258_31 : rf d 258 31 ls s h = rf d 258 171 ls s h := rf_goto ⟨okD_ok (i := .goto (140)) (len := 3) (by decide +kernel), rfl⟩
theorem e258_34 : rf d 258 34 [some (.ref a), l1, l2, l3, l4, l5, l6, l7] s h = rf d 258 35 [some (.ref a), l1, l2, l3, l4, l5, l6, l7] (.ref a :: s) h := rf_pure (i := .aload_n 0) (len := 1) (okD_ok (by decide +kernel)) rfl
theorem e258_35 (hR : LYR R) : rf d 258 35 ls (.ref 265 :: s) (SH n, I, L, R, nc, ns, nx) = rf d 258 38 ls (.ref 302 :: s) (SH n, I, L, R, nc, ns, nx) := g_R (idx := 124) (by decide +kernel) ow258 f_8_124 rfl rfl (by decide) (ly_265_52 hR)
theorem e258_38 : rf d 258 38 ls s h = rf d 258 40 ls (.int 8 :: s) h := rf_pure (i := .bipush (8)) (len := 2) (okD_ok (by decide +kernel)) rfl
theorem e258_40 : rf d 258 40 [some (.ref a), l1, l2, l3, l4, l5, l6, l7] s h = rf d 258 41 [some (.ref a), l1, l2, l3, l4, l5, l6, l7] (.ref a :: s) h := rf_pure (i := .aload_n 0) (len := 1) (okD_ok (by decide +kernel)) rfl
theorem e258_41 : rf d 258 41 ls (.ref 265 :: s) (SH n, I, L, R, nc, ns, nx) = rf d 258 44 ls (.int (I 265 38) :: s) (SH n, I, L, R, nc, ns, nx) := g_I (idx := 306) (by decide +kernel) ow258 f_8_306 rfl rfl (by decide)
theorem e258_44 : rf d 258 44 ls (.int y :: .int x :: s) h = rf d 258 45 ls (.int (x * y) :: s) h := rf_pure (i := .imul) (len := 1) (okD_ok (by decide +kernel)) rfl
theorem e258_45 : rf d 258 45 [l0, l1, l2, l3, some (.int x), l5, l6, l7] s h = rf d 258 47 [l0, l1, l2, l3, some (.int x), l5, l6, l7] (.int x :: s) h := rf_pure (i := .iload 4) (len := 2) (okD_ok (by decide +kernel)) rfl
theorem e258_47 : rf d 258 47 ls (.int y :: .int x :: s) h = rf d 258 48 ls (.int (x + y) :: s) h := rf_pure (i := .iadd) (len := 1) (okD_ok (by decide +kernel)) rfl
theorem e258_48 (q : ia n a j) : rf d 258 48 ls (.int j :: .ref a :: s) (SH n, I, L, R, nc, ns, nx) = rf d 258 49 ls (.int (I a j.toNatClampNeg) :: s) (SH n, I, L, R, nc, ns, nx) := g_ial (by decide +kernel) q
theorem e258_49 (hn : ip_nl l4 = true) : rf d 258 49 [l0, l1, l2, l3, l4, l5, l6, l7] (.int x :: s) h = rf d 258 51 [l0, l1, l2, l3, l4, some (.int x), l6, l7] s h := g_sti (i := .istore 5) (len := 2) (q := 4) (p := 2) (by decide +kernel) rfl rfl hn
theorem e258_51 : rf d 258 51 [some (.ref a), l1, l2, l3, l4, l5, l6, l7] s h = rf d 258 52 [some (.ref a), l1, l2, l3, l4, l5, l6, l7] (.ref a :: s) h := rf_pure (i := .aload_n 0) (len := 1) (okD_ok (by decide +kernel)) rfl
theorem e258_52 (hR : LYR R) : rf d 258 52 ls (.ref 265 :: s) (SH n, I, L, R, nc, ns, nx) = rf d 258 55 ls (.ref 294 :: s) (SH n, I, L, R, nc, ns, nx) := g_R (idx := 100) (by decide +kernel) ow258 f_8_100 rfl rfl (by decide) (ly_265_44 hR)
theorem e258_55 : rf d 258 55 [some (.ref a), l1, l2, l3, l4, l5, l6, l7] s h = rf d 258 56 [some (.ref a), l1, l2, l3, l4, l5, l6, l7] (.ref a :: s) h := rf_pure (i := .aload_n 0) (len := 1) (okD_ok (by decide +kernel)) rfl
theorem e258_56 : rf d 258 56 ls (.ref 265 :: s) (SH n, I, L, R, nc, ns, nx) = rf d 258 59 ls (.int (I 265 38) :: s) (SH n, I, L, R, nc, ns, nx) := g_I (idx := 306) (by decide +kernel) ow258 f_8_306 rfl rfl (by decide)
theorem e258_59 (q : ia n a j) : rf d 258 59 ls (.int j :: .ref a :: s) (SH n, I, L, R, nc, ns, nx) = rf d 258 60 ls (.int (I a j.toNatClampNeg) :: s) (SH n, I, L, R, nc, ns, nx) := g_ial (by decide +kernel) q
theorem e258_60 : rf d 258 60 [l0, l1, l2, l3, some (.int x), l5, l6, l7] s h = rf d 258 62 [l0, l1, l2, l3, some (.int x), l5, l6, l7] (.int x :: s) h := rf_pure (i := .iload 4) (len := 2) (okD_ok (by decide +kernel)) rfl
theorem e258_62 (hcat : ip_cat s ≤ 8) : rf (d + 1) 258 62 ls (.int x1 :: .int x0 :: s) h = rf_k (d + 1) 258 62 ls s (cf d 186 [.int x0, .int x1] h) := g_cs (idx := 234) [.int x1, .int x0] (by decide +kernel) ow258 ms_8_234 mt_8_234 (by decide) rfl mL186 rfl hcat
theorem e258_65 : rf d 258 65 ls (.int x :: s) h = if x = 0 then rf d 258 96 ls s h else rf d 258 68 ls s h := g_if (c := .eq) (off := 31) _ (by decide +kernel) rfl cmp_d
theorem e258_68 : rf d 258 68 [some (.ref a), l1, l2, l3, l4, l5, l6, l7] s h = rf d 258 69 [some (.ref a), l1, l2, l3, l4, l5, l6, l7] (.ref a :: s) h := rf_pure (i := .aload_n 0) (len := 1) (okD_ok (by decide +kernel)) rfl
theorem e258_69 (hR : LYR R) : rf d 258 69 ls (.ref 265 :: s) (SH n, I, L, R, nc, ns, nx) = rf d 258 72 ls (.ref 295 :: s) (SH n, I, L, R, nc, ns, nx) := g_R (idx := 103) (by decide +kernel) ow258 f_8_103 rfl rfl (by decide) (ly_265_45 hR)
theorem e258_72 : rf d 258 72 [some (.ref a), l1, l2, l3, l4, l5, l6, l7] s h = rf d 258 73 [some (.ref a), l1, l2, l3, l4, l5, l6, l7] (.ref a :: s) h := rf_pure (i := .aload_n 0) (len := 1) (okD_ok (by decide +kernel)) rfl
theorem e258_73 : rf d 258 73 ls (.ref 265 :: s) (SH n, I, L, R, nc, ns, nx) = rf d 258 76 ls (.int (I 265 38) :: s) (SH n, I, L, R, nc, ns, nx) := g_I (idx := 306) (by decide +kernel) ow258 f_8_306 rfl rfl (by decide)
theorem e258_76 (q : ia n a j) : rf d 258 76 ls (.int j :: .ref a :: s) (SH n, I, L, R, nc, ns, nx) = rf d 258 77 ls (.int (I a j.toNatClampNeg) :: s) (SH n, I, L, R, nc, ns, nx) := g_ial (by decide +kernel) q
theorem e258_77 : rf d 258 77 [l0, l1, some (.int x), l3, l4, l5, l6, l7] s h = rf d 258 78 [l0, l1, some (.int x), l3, l4, l5, l6, l7] (.int x :: s) h := rf_pure (i := .iload_n 2) (len := 1) (okD_ok (by decide +kernel)) rfl
theorem e258_78 : rf d 258 78 ls s h = rf d 258 79 ls (.int (-1) :: s) h := rf_pure (i := .iconst (-1)) (len := 1) (okD_ok (by decide +kernel)) rfl
theorem e258_79 : rf d 258 79 ls (.int y :: .int x :: s) h = rf d 258 80 ls (.int (x ^^^ y) :: s) h := rf_pure (i := .ixor) (len := 1) (okD_ok (by decide +kernel)) rfl
theorem e258_80 : rf d 258 80 ls (.int y :: .int x :: s) h = rf d 258 81 ls (.int (x &&& y) :: s) h := rf_pure (i := .iand) (len := 1) (okD_ok (by decide +kernel)) rfl
theorem e258_81 : rf d 258 81 [l0, l1, l2, l3, some (.int x), l5, l6, l7] s h = rf d 258 83 [l0, l1, l2, l3, some (.int x), l5, l6, l7] (.int x :: s) h := rf_pure (i := .iload 4) (len := 2) (okD_ok (by decide +kernel)) rfl
theorem e258_83 (hcat : ip_cat s ≤ 8) : rf (d + 1) 258 83 ls (.int x1 :: .int x0 :: s) h = rf_k (d + 1) 258 83 ls s (cf d 186 [.int x0, .int x1] h) := g_cs (idx := 234) [.int x1, .int x0] (by decide +kernel) ow258 ms_8_234 mt_8_234 (by decide) rfl mL186 rfl hcat
theorem e258_86 : rf d 258 86 ls (.int x :: s) h = if ¬ x = 0 then rf d 258 96 ls s h else rf d 258 89 ls s h := g_if (c := .ne) (off := 10) _ (by decide +kernel) rfl cmp_d
theorem e258_89 : rf d 258 89 [l0, l1, l2, l3, l4, some (.int x), l6, l7] s h = rf d 258 91 [l0, l1, l2, l3, l4, some (.int x), l6, l7] (.int x :: s) h := rf_pure (i := .iload 5) (len := 2) (okD_ok (by decide +kernel)) rfl
theorem e258_91 : rf d 258 91 ls s h = rf d 258 93 ls (.int 9 :: s) h := rf_pure (i := .bipush (9)) (len := 2) (okD_ok (by decide +kernel)) rfl
theorem e258_93 : rf d 258 93 ls (.int y :: .int x :: s) h = if ¬ x = y then rf d 258 100 ls s h else rf d 258 96 ls s h := g_ic (c := .ne) (off := 7) _ (by decide +kernel) rfl cmp_d
theorem e258_96 : rf d 258 96 ls s h = rf d 258 97 ls (.int 1 :: s) h := rf_pure (i := .iconst (1)) (len := 1) (okD_ok (by decide +kernel)) rfl
theorem e258_97 : rf d 258 97 ls s h = rf d 258 101 ls s h := rf_goto ⟨okD_ok (i := .goto (4)) (len := 3) (by decide +kernel), rfl⟩
theorem e258_100 : rf d 258 100 ls s h = rf d 258 101 ls (.int 0 :: s) h := rf_pure (i := .iconst (0)) (len := 1) (okD_ok (by decide +kernel)) rfl
theorem e258_101 (hn : ip_nl l5 = true) : rf d 258 101 [l0, l1, l2, l3, l4, l5, l6, l7] (.int x :: s) h = rf d 258 103 [l0, l1, l2, l3, l4, l5, some (.int x), l7] s h := g_sti (i := .istore 6) (len := 2) (q := 5) (p := 2) (by decide +kernel) rfl rfl hn
theorem e258_103 : rf d 258 103 [some (.ref a), l1, l2, l3, l4, l5, l6, l7] s h = rf d 258 104 [some (.ref a), l1, l2, l3, l4, l5, l6, l7] (.ref a :: s) h := rf_pure (i := .aload_n 0) (len := 1) (okD_ok (by decide +kernel)) rfl
theorem e258_104 (hR : LYR R) : rf d 258 104 ls (.ref 265 :: s) (SH n, I, L, R, nc, ns, nx) = rf d 258 107 ls (.ref 301 :: s) (SH n, I, L, R, nc, ns, nx) := g_R (idx := 121) (by decide +kernel) ow258 f_8_121 rfl rfl (by decide) (ly_265_51 hR)
theorem e258_107 : rf d 258 107 ls s h = rf d 258 108 ls (.int 2 :: s) h := rf_pure (i := .iconst (2)) (len := 1) (okD_ok (by decide +kernel)) rfl
theorem e258_108 : rf d 258 108 [some (.ref a), l1, l2, l3, l4, l5, l6, l7] s h = rf d 258 109 [some (.ref a), l1, l2, l3, l4, l5, l6, l7] (.ref a :: s) h := rf_pure (i := .aload_n 0) (len := 1) (okD_ok (by decide +kernel)) rfl
theorem e258_109 : rf d 258 109 ls (.ref 265 :: s) (SH n, I, L, R, nc, ns, nx) = rf d 258 112 ls (.int (I 265 38) :: s) (SH n, I, L, R, nc, ns, nx) := g_I (idx := 306) (by decide +kernel) ow258 f_8_306 rfl rfl (by decide)
theorem e258_112 : rf d 258 112 ls (.int y :: .int x :: s) h = rf d 258 113 ls (.int (x * y) :: s) h := rf_pure (i := .imul) (len := 1) (okD_ok (by decide +kernel)) rfl
theorem e258_113 : rf d 258 113 [some (.ref a), l1, l2, l3, l4, l5, l6, l7] s h = rf d 258 114 [some (.ref a), l1, l2, l3, l4, l5, l6, l7] (.ref a :: s) h := rf_pure (i := .aload_n 0) (len := 1) (okD_ok (by decide +kernel)) rfl
theorem e258_114 : rf d 258 114 ls (.ref 265 :: s) (SH n, I, L, R, nc, ns, nx) = rf d 258 117 ls (.int (I 265 59) :: s) (SH n, I, L, R, nc, ns, nx) := g_I (idx := 362) (by decide +kernel) ow258 f_8_362 rfl rfl (by decide)
theorem e258_117 : rf d 258 117 ls (.int y :: .int x :: s) h = rf d 258 118 ls (.int (x + y) :: s) h := rf_pure (i := .iadd) (len := 1) (okD_ok (by decide +kernel)) rfl
theorem e258_118 (q : ia n a j) : rf d 258 118 ls (.int j :: .ref a :: s) (SH n, I, L, R, nc, ns, nx) = rf d 258 119 ls (.int (I a j.toNatClampNeg) :: s) (SH n, I, L, R, nc, ns, nx) := g_ial (by decide +kernel) q
theorem e258_119 : rf d 258 119 [l0, l1, l2, l3, some (.int x), l5, l6, l7] s h = rf d 258 121 [l0, l1, l2, l3, some (.int x), l5, l6, l7] (.int x :: s) h := rf_pure (i := .iload 4) (len := 2) (okD_ok (by decide +kernel)) rfl
theorem e258_121 (hcat : ip_cat s ≤ 8) : rf (d + 1) 258 121 ls (.int x1 :: .int x0 :: s) h = rf_k (d + 1) 258 121 ls s (cf d 186 [.int x0, .int x1] h) := g_cs (idx := 234) [.int x1, .int x0] (by decide +kernel) ow258 ms_8_234 mt_8_234 (by decide) rfl mL186 rfl hcat
theorem e258_124 : rf d 258 124 ls (.int x :: s) h = if x = 0 then rf d 258 136 ls s h else rf d 258 127 ls s h := g_if (c := .eq) (off := 12) _ (by decide +kernel) rfl cmp_d
theorem e258_127 : rf d 258 127 [l0, some (.int x), l2, l3, l4, l5, l6, l7] s h = rf d 258 128 [l0, some (.int x), l2, l3, l4, l5, l6, l7] (.int x :: s) h := rf_pure (i := .iload_n 1) (len := 1) (okD_ok (by decide +kernel)) rfl
theorem e258_128 : rf d 258 128 [l0, l1, l2, l3, some (.int x), l5, l6, l7] s h = rf d 258 130 [l0, l1, l2, l3, some (.int x), l5, l6, l7] (.int x :: s) h := rf_pure (i := .iload 4) (len := 2) (okD_ok (by decide +kernel)) rfl
theorem e258_130 (hcat : ip_cat s ≤ 8) : rf (d + 1) 258 130 ls (.int x1 :: .int x0 :: s) h = rf_k (d + 1) 258 130 ls s (cf d 186 [.int x0, .int x1] h) := g_cs (idx := 234) [.int x1, .int x0] (by decide +kernel) ow258 ms_8_234 mt_8_234 (by decide) rfl mL186 rfl hcat
theorem e258_133 : rf d 258 133 ls (.int x :: s) h = if ¬ x = 0 then rf d 258 143 ls s h else rf d 258 136 ls s h := g_if (c := .ne) (off := 10) _ (by decide +kernel) rfl cmp_d
theorem e258_136 : rf d 258 136 [l0, l1, l2, l3, l4, some (.int x), l6, l7] s h = rf d 258 138 [l0, l1, l2, l3, l4, some (.int x), l6, l7] (.int x :: s) h := rf_pure (i := .iload 5) (len := 2) (okD_ok (by decide +kernel)) rfl
theorem e258_138 : rf d 258 138 ls s h = rf d 258 140 ls (.int 8 :: s) h := rf_pure (i := .bipush (8)) (len := 2) (okD_ok (by decide +kernel)) rfl
theorem e258_140 : rf d 258 140 ls (.int y :: .int x :: s) h = if x < y then rf d 258 147 ls s h else rf d 258 143 ls s h := g_ic (c := .lt) (off := 7) _ (by decide +kernel) rfl cmp_d
theorem e258_143 : rf d 258 143 ls s h = rf d 258 144 ls (.int 1 :: s) h := rf_pure (i := .iconst (1)) (len := 1) (okD_ok (by decide +kernel)) rfl
theorem e258_144 : rf d 258 144 ls s h = rf d 258 148 ls s h := rf_goto ⟨okD_ok (i := .goto (4)) (len := 3) (by decide +kernel), rfl⟩
theorem e258_147 : rf d 258 147 ls s h = rf d 258 148 ls (.int 0 :: s) h := rf_pure (i := .iconst (0)) (len := 1) (okD_ok (by decide +kernel)) rfl
theorem e258_148 (hn : ip_nl l6 = true) : rf d 258 148 [l0, l1, l2, l3, l4, l5, l6, l7] (.int x :: s) h = rf d 258 150 [l0, l1, l2, l3, l4, l5, l6, some (.int x)] s h := g_sti (i := .istore 7) (len := 2) (q := 6) (p := 2) (by decide +kernel) rfl rfl hn
theorem e258_150 : rf d 258 150 [l0, l1, l2, some (.int x), l4, l5, l6, l7] s h = rf d 258 151 [l0, l1, l2, some (.int x), l4, l5, l6, l7] (.int x :: s) h := rf_pure (i := .iload_n 3) (len := 1) (okD_ok (by decide +kernel)) rfl
theorem e258_151 : rf d 258 151 [l0, l1, l2, l3, l4, l5, some (.int x), l7] s h = rf d 258 153 [l0, l1, l2, l3, l4, l5, some (.int x), l7] (.int x :: s) h := rf_pure (i := .iload 6) (len := 2) (okD_ok (by decide +kernel)) rfl
theorem e258_153 : rf d 258 153 ls (.int x :: s) h = if x = 0 then rf d 258 168 ls s h else rf d 258 156 ls s h := g_if (c := .eq) (off := 15) _ (by decide +kernel) rfl cmp_d
theorem e258_156 : rf d 258 156 [l0, l1, l2, l3, l4, l5, l6, some (.int x)] s h = rf d 258 158 [l0, l1, l2, l3, l4, l5, l6, some (.int x)] (.int x :: s) h := rf_pure (i := .iload 7) (len := 2) (okD_ok (by decide +kernel)) rfl
theorem e258_158 : rf d 258 158 ls (.int x :: s) h = if x = 0 then rf d 258 168 ls s h else rf d 258 161 ls s h := g_if (c := .eq) (off := 10) _ (by decide +kernel) rfl cmp_d
theorem e258_161 : rf d 258 161 ls s h = rf d 258 162 ls (.int 1 :: s) h := rf_pure (i := .iconst (1)) (len := 1) (okD_ok (by decide +kernel)) rfl
theorem e258_162 : rf d 258 162 [l0, l1, l2, l3, some (.int x), l5, l6, l7] s h = rf d 258 164 [l0, l1, l2, l3, some (.int x), l5, l6, l7] (.int x :: s) h := rf_pure (i := .iload 4) (len := 2) (okD_ok (by decide +kernel)) rfl
theorem e258_164 : rf d 258 164 ls (.int y :: .int x :: s) h = rf d 258 165 ls (.int (x <<< (y &&& 31)) :: s) h := rf_pure (i := .ishl) (len := 1) (okD_ok (by decide +kernel)) rfl
theorem e258_165 : rf d 258 165 ls s h = rf d 258 169 ls s h := rf_goto ⟨okD_ok (i := .goto (4)) (len := 3) (by decide +kernel), rfl⟩
theorem e258_168 : rf d 258 168 ls s h = rf d 258 169 ls (.int 0 :: s) h := rf_pure (i := .iconst (0)) (len := 1) (okD_ok (by decide +kernel)) rfl
theorem e258_169 : rf d 258 169 ls (.int y :: .int x :: s) h = rf d 258 170 ls (.int (x ||| y) :: s) h := rf_pure (i := .ior) (len := 1) (okD_ok (by decide +kernel)) rfl
theorem e258_170 (hn : ip_nl l2 = true) : rf d 258 170 [l0, l1, l2, l3, l4, l5, l6, l7] (.int x :: s) h = rf d 258 171 [l0, l1, l2, some (.int x), l4, l5, l6, l7] s h := g_sti (i := .istore_n 3) (len := 1) (q := 2) (p := 1) (by decide +kernel) rfl rfl hn
theorem e258_171 (hn : ip_nl l3 = true) : rf d 258 171 [l0, l1, l2, l3, some (.int x), l5, l6, l7] s h = rf d 258 174 [l0, l1, l2, l3, some (.int (x + 1)), l5, l6, l7] s h := g_inc (q := 3) (z := 1) (w := 1) (x := x) (by decide) (by decide +kernel) rfl rfl hn
theorem e258_174 : rf d 258 174 ls s h = rf d 258 5 ls s h := rf_goto ⟨okD_ok (i := .goto (-169)) (len := 3) (by decide +kernel), rfl⟩
theorem e258_177 : rf d 258 177 [l0, l1, l2, some (.int x), l4, l5, l6, l7] s h = rf d 258 178 [l0, l1, l2, some (.int x), l4, l5, l6, l7] (.int x :: s) h := rf_pure (i := .iload_n 3) (len := 1) (okD_ok (by decide +kernel)) rfl
theorem e258_178 : rf d 258 178 ls [.int x] h = some (.inl (some (.int x)), h) := g_ri (by decide +kernel) rt258
theorem en259 : cf d 259 [.ref a, .int x0, .int x1] h = rf d 259 0 [some (.ref a), some (.int x0), some (.int x1), none] [] h := rfl
theorem e259_0 : rf d 259 0 [some (.ref a), l1, l2, l3] s h = rf d 259 1 [some (.ref a), l1, l2, l3] (.ref a :: s) h := rf_pure (i := .aload_n 0) (len := 1) (okD_ok (by decide +kernel)) rfl
theorem e259_1 : rf d 259 1 [some (.ref a), l1, l2, l3] s h = rf d 259 2 [some (.ref a), l1, l2, l3] (.ref a :: s) h := rf_pure (i := .aload_n 0) (len := 1) (okD_ok (by decide +kernel)) rfl
theorem e259_2 : rf d 259 2 [l0, some (.int x), l2, l3] s h = rf d 259 3 [l0, some (.int x), l2, l3] (.int x :: s) h := rf_pure (i := .iload_n 1) (len := 1) (okD_ok (by decide +kernel)) rfl
theorem e259_3 (hcat : ip_cat s ≤ 8) : rf (d + 1) 259 3 ls (.int x0 :: .ref 265 :: s) (SH n, I, L, R, nc, ns, nx) = rf_k (d + 1) 259 3 ls s (cf d 244 [.ref 265, .int x0] (SH n, I, L, R, nc, ns, nx)) := g_cv (idx := 401) (t := 8) [.int x0] (by decide +kernel) ow259 ms_8_401 mt_8_401 cy244_8 rfl rfl mL244 rfl rfl (by decide) hcat
theorem e259_6 : rf d 259 6 ls (.int x :: s) h = if x = 0 then rf d 259 21 ls s h else rf d 259 9 ls s h := g_if (c := .eq) (off := 15) _ (by decide +kernel) rfl cmp_d
theorem e259_9 : rf d 259 9 [some (.ref a), l1, l2, l3] s h = rf d 259 10 [some (.ref a), l1, l2, l3] (.ref a :: s) h := rf_pure (i := .aload_n 0) (len := 1) (okD_ok (by decide +kernel)) rfl
theorem e259_10 : rf d 259 10 [l0, l1, some (.int x), l3] s h = rf d 259 11 [l0, l1, some (.int x), l3] (.int x :: s) h := rf_pure (i := .iload_n 2) (len := 1) (okD_ok (by decide +kernel)) rfl
theorem e259_11 (hcat : ip_cat s ≤ 8) : rf (d + 1) 259 11 ls (.int x0 :: .ref 265 :: s) (SH n, I, L, R, nc, ns, nx) = rf_k (d + 1) 259 11 ls s (cf d 244 [.ref 265, .int x0] (SH n, I, L, R, nc, ns, nx)) := g_cv (idx := 401) (t := 8) [.int x0] (by decide +kernel) ow259 ms_8_401 mt_8_401 cy244_8 rfl rfl mL244 rfl rfl (by decide) hcat
theorem e259_14 : rf d 259 14 ls (.int x :: s) h = if x = 0 then rf d 259 21 ls s h else rf d 259 17 ls s h := g_if (c := .eq) (off := 7) _ (by decide +kernel) rfl cmp_d
theorem e259_17 : rf d 259 17 ls s h = rf d 259 18 ls (.int 0 :: s) h := rf_pure (i := .iconst (0)) (len := 1) (okD_ok (by decide +kernel)) rfl
theorem e259_18 : rf d 259 18 ls s h = rf d 259 22 ls s h := rf_goto ⟨okD_ok (i := .goto (4)) (len := 3) (by decide +kernel), rfl⟩
theorem e259_21 : rf d 259 21 ls s h = rf d 259 22 ls (.int 1 :: s) h := rf_pure (i := .iconst (1)) (len := 1) (okD_ok (by decide +kernel)) rfl
theorem e259_22 : rf d 259 22 ls (.int x :: .ref 265 :: s) (SH n, I, L, R, nc, ns, nx) = rf d 259 25 ls s (SH n, ip_up I 265 0 x, L, R, nc, ns, nx) := g_pI (idx := 142) (by decide +kernel) ow259 f_8_142 rfl (by decide +kernel) rfl (by decide)
theorem e259_25 : rf d 259 25 [some (.ref a), l1, l2, l3] s h = rf d 259 26 [some (.ref a), l1, l2, l3] (.ref a :: s) h := rf_pure (i := .aload_n 0) (len := 1) (okD_ok (by decide +kernel)) rfl
theorem e259_26 : rf d 259 26 ls (.ref 265 :: s) (SH n, I, L, R, nc, ns, nx) = rf d 259 29 ls (.int (I 265 0) :: s) (SH n, I, L, R, nc, ns, nx) := g_I (idx := 142) (by decide +kernel) ow259 f_8_142 rfl rfl (by decide)
theorem e259_29 : rf d 259 29 ls (.int x :: s) h = if x ≤ 0 then rf d 259 34 ls s h else rf d 259 32 ls s h := g_if (c := .le) (off := 5) _ (by decide +kernel) rfl cmp_d
theorem e259_32 : rf d 259 32 ls s h = rf d 259 33 ls (.int 0 :: s) h := rf_pure (i := .iconst (0)) (len := 1) (okD_ok (by decide +kernel)) rfl
theorem e259_33 : rf d 259 33 ls [.int x] h = some (.inl (some (.int x)), h) := g_ri (by decide +kernel) rt259
theorem e259_34 : rf d 259 34 [some (.ref a), l1, l2, l3] s h = rf d 259 35 [some (.ref a), l1, l2, l3] (.ref a :: s) h := rf_pure (i := .aload_n 0) (len := 1) (okD_ok (by decide +kernel)) rfl
theorem e259_35 (hR : LYR R) : rf d 259 35 ls (.ref 265 :: s) (SH n, I, L, R, nc, ns, nx) = rf d 259 38 ls (.ref 293 :: s) (SH n, I, L, R, nc, ns, nx) := g_R (idx := 97) (by decide +kernel) ow259 f_8_97 rfl rfl (by decide) (ly_265_43 hR)
theorem e259_38 : rf d 259 38 [l0, some (.int x), l2, l3] s h = rf d 259 39 [l0, some (.int x), l2, l3] (.int x :: s) h := rf_pure (i := .iload_n 1) (len := 1) (okD_ok (by decide +kernel)) rfl
theorem e259_39 (q : ia n a j) : rf d 259 39 ls (.int j :: .ref a :: s) (SH n, I, L, R, nc, ns, nx) = rf d 259 40 ls (.int (I a j.toNatClampNeg) :: s) (SH n, I, L, R, nc, ns, nx) := g_ial (by decide +kernel) q
theorem e259_40 : rf d 259 40 ls s h = rf d 259 41 ls (.int (-1) :: s) h := rf_pure (i := .iconst (-1)) (len := 1) (okD_ok (by decide +kernel)) rfl
theorem e259_41 : rf d 259 41 ls (.int y :: .int x :: s) h = rf d 259 42 ls (.int (x ^^^ y) :: s) h := rf_pure (i := .ixor) (len := 1) (okD_ok (by decide +kernel)) rfl
theorem e259_42 : rf d 259 42 [some (.ref a), l1, l2, l3] s h = rf d 259 43 [some (.ref a), l1, l2, l3] (.ref a :: s) h := rf_pure (i := .aload_n 0) (len := 1) (okD_ok (by decide +kernel)) rfl
theorem e259_43 (hR : LYR R) : rf d 259 43 ls (.ref 265 :: s) (SH n, I, L, R, nc, ns, nx) = rf d 259 46 ls (.ref 293 :: s) (SH n, I, L, R, nc, ns, nx) := g_R (idx := 97) (by decide +kernel) ow259 f_8_97 rfl rfl (by decide) (ly_265_43 hR)
theorem e259_46 : rf d 259 46 [l0, l1, some (.int x), l3] s h = rf d 259 47 [l0, l1, some (.int x), l3] (.int x :: s) h := rf_pure (i := .iload_n 2) (len := 1) (okD_ok (by decide +kernel)) rfl
theorem e259_47 (q : ia n a j) : rf d 259 47 ls (.int j :: .ref a :: s) (SH n, I, L, R, nc, ns, nx) = rf d 259 48 ls (.int (I a j.toNatClampNeg) :: s) (SH n, I, L, R, nc, ns, nx) := g_ial (by decide +kernel) q
theorem e259_48 : rf d 259 48 ls s h = rf d 259 49 ls (.int (-1) :: s) h := rf_pure (i := .iconst (-1)) (len := 1) (okD_ok (by decide +kernel)) rfl
theorem e259_49 : rf d 259 49 ls (.int y :: .int x :: s) h = rf d 259 50 ls (.int (x ^^^ y) :: s) h := rf_pure (i := .ixor) (len := 1) (okD_ok (by decide +kernel)) rfl
theorem e259_50 : rf d 259 50 ls (.int y :: .int x :: s) h = rf d 259 51 ls (.int (x &&& y) :: s) h := rf_pure (i := .iand) (len := 1) (okD_ok (by decide +kernel)) rfl
theorem e259_51 (hn : ip_nl l2 = true) : rf d 259 51 [l0, l1, l2, l3] (.int x :: s) h = rf d 259 52 [l0, l1, l2, some (.int x)] s h := g_sti (i := .istore_n 3) (len := 1) (q := 2) (p := 1) (by decide +kernel) rfl rfl hn
theorem e259_52 : rf d 259 52 [some (.ref a), l1, l2, l3] s h = rf d 259 53 [some (.ref a), l1, l2, l3] (.ref a :: s) h := rf_pure (i := .aload_n 0) (len := 1) (okD_ok (by decide +kernel)) rfl
theorem e259_53 (hR : LYR R) : rf d 259 53 ls (.ref 265 :: s) (SH n, I, L, R, nc, ns, nx) = rf d 259 56 ls (.ref 293 :: s) (SH n, I, L, R, nc, ns, nx) := g_R (idx := 97) (by decide +kernel) ow259 f_8_97 rfl rfl (by decide) (ly_265_43 hR)
theorem e259_56 : rf d 259 56 [l0, some (.int x), l2, l3] s h = rf d 259 57 [l0, some (.int x), l2, l3] (.int x :: s) h := rf_pure (i := .iload_n 1) (len := 1) (okD_ok (by decide +kernel)) rfl
theorem e259_57 (q : ia n a j) : rf d 259 57 ls (.int j :: .ref a :: s) (SH n, I, L, R, nc, ns, nx) = rf d 259 58 ls (.int (I a j.toNatClampNeg) :: s) (SH n, I, L, R, nc, ns, nx) := g_ial (by decide +kernel) q
theorem e259_58 : rf d 259 58 [some (.ref a), l1, l2, l3] s h = rf d 259 59 [some (.ref a), l1, l2, l3] (.ref a :: s) h := rf_pure (i := .aload_n 0) (len := 1) (okD_ok (by decide +kernel)) rfl
theorem e259_59 (hR : LYR R) : rf d 259 59 ls (.ref 265 :: s) (SH n, I, L, R, nc, ns, nx) = rf d 259 62 ls (.ref 293 :: s) (SH n, I, L, R, nc, ns, nx) := g_R (idx := 97) (by decide +kernel) ow259 f_8_97 rfl rfl (by decide) (ly_265_43 hR)
theorem e259_62 : rf d 259 62 [l0, l1, some (.int x), l3] s h = rf d 259 63 [l0, l1, some (.int x), l3] (.int x :: s) h := rf_pure (i := .iload_n 2) (len := 1) (okD_ok (by decide +kernel)) rfl
theorem e259_63 (q : ia n a j) : rf d 259 63 ls (.int j :: .ref a :: s) (SH n, I, L, R, nc, ns, nx) = rf d 259 64 ls (.int (I a j.toNatClampNeg) :: s) (SH n, I, L, R, nc, ns, nx) := g_ial (by decide +kernel) q
theorem e259_64 : rf d 259 64 ls (.int y :: .int x :: s) h = rf d 259 65 ls (.int (x ^^^ y) :: s) h := rf_pure (i := .ixor) (len := 1) (okD_ok (by decide +kernel)) rfl
theorem e259_65 : rf d 259 65 [l0, l1, l2, some (.int x)] s h = rf d 259 66 [l0, l1, l2, some (.int x)] (.int x :: s) h := rf_pure (i := .iload_n 3) (len := 1) (okD_ok (by decide +kernel)) rfl
theorem e259_66 : rf d 259 66 [some (.ref a), l1, l2, l3] s h = rf d 259 67 [some (.ref a), l1, l2, l3] (.ref a :: s) h := rf_pure (i := .aload_n 0) (len := 1) (okD_ok (by decide +kernel)) rfl
theorem e259_67 (hR : LYR R) : rf d 259 67 ls (.ref 265 :: s) (SH n, I, L, R, nc, ns, nx) = rf d 259 70 ls (.ref 296 :: s) (SH n, I, L, R, nc, ns, nx) := g_R (idx := 106) (by decide +kernel) ow259 f_8_106 rfl rfl (by decide) (ly_265_46 hR)
theorem e259_70 : rf d 259 70 [l0, some (.int x), l2, l3] s h = rf d 259 71 [l0, some (.int x), l2, l3] (.int x :: s) h := rf_pure (i := .iload_n 1) (len := 1) (okD_ok (by decide +kernel)) rfl
theorem e259_71 (q : ia n a j) : rf d 259 71 ls (.int j :: .ref a :: s) (SH n, I, L, R, nc, ns, nx) = rf d 259 72 ls (.int (I a j.toNatClampNeg) :: s) (SH n, I, L, R, nc, ns, nx) := g_ial (by decide +kernel) q
theorem e259_72 : rf d 259 72 [some (.ref a), l1, l2, l3] s h = rf d 259 73 [some (.ref a), l1, l2, l3] (.ref a :: s) h := rf_pure (i := .aload_n 0) (len := 1) (okD_ok (by decide +kernel)) rfl
theorem e259_73 (hR : LYR R) : rf d 259 73 ls (.ref 265 :: s) (SH n, I, L, R, nc, ns, nx) = rf d 259 76 ls (.ref 296 :: s) (SH n, I, L, R, nc, ns, nx) := g_R (idx := 106) (by decide +kernel) ow259 f_8_106 rfl rfl (by decide) (ly_265_46 hR)
theorem e259_76 : rf d 259 76 [l0, l1, some (.int x), l3] s h = rf d 259 77 [l0, l1, some (.int x), l3] (.int x :: s) h := rf_pure (i := .iload_n 2) (len := 1) (okD_ok (by decide +kernel)) rfl
theorem e259_77 (q : ia n a j) : rf d 259 77 ls (.int j :: .ref a :: s) (SH n, I, L, R, nc, ns, nx) = rf d 259 78 ls (.int (I a j.toNatClampNeg) :: s) (SH n, I, L, R, nc, ns, nx) := g_ial (by decide +kernel) q
theorem e259_78 : rf d 259 78 ls (.int y :: .int x :: s) h = rf d 259 79 ls (.int (x ^^^ y) :: s) h := rf_pure (i := .ixor) (len := 1) (okD_ok (by decide +kernel)) rfl
theorem e259_79 : rf d 259 79 ls (.int y :: .int x :: s) h = rf d 259 80 ls (.int (x &&& y) :: s) h := rf_pure (i := .iand) (len := 1) (okD_ok (by decide +kernel)) rfl
theorem e259_80 : rf d 259 80 ls (.int y :: .int x :: s) h = rf d 259 81 ls (.int (x ||| y) :: s) h := rf_pure (i := .ior) (len := 1) (okD_ok (by decide +kernel)) rfl
theorem e259_81 : rf d 259 81 [some (.ref a), l1, l2, l3] s h = rf d 259 82 [some (.ref a), l1, l2, l3] (.ref a :: s) h := rf_pure (i := .aload_n 0) (len := 1) (okD_ok (by decide +kernel)) rfl
theorem e259_82 (hcat : ip_cat s ≤ 8) : rf (d + 1) 259 82 ls (.ref 265 :: s) (SH n, I, L, R, nc, ns, nx) = rf_k (d + 1) 259 82 ls s (cf d 187 [.ref 265] (SH n, I, L, R, nc, ns, nx)) := g_cv (idx := 309) (t := 8) [] (by decide +kernel) ow259 ms_8_309 mt_8_309 cy187_8 rfl rfl mL187 rfl rfl (by decide) hcat
theorem e259_85 : rf d 259 85 ls (.int y :: .int x :: s) h = rf d 259 86 ls (.int (x &&& y) :: s) h := rf_pure (i := .iand) (len := 1) (okD_ok (by decide +kernel)) rfl
theorem e259_86 : rf d 259 86 ls [.int x] h = some (.inl (some (.int x)), h) := g_ri (by decide +kernel) rt259
theorem en260 : cf d 260 [.ref a, .int x0] h = rf d 260 0 [some (.ref a), some (.int x0), none] [] h := rfl
theorem e260_0 : rf d 260 0 [some (.ref a), l1, l2] s h = rf d 260 1 [some (.ref a), l1, l2] (.ref a :: s) h := rf_pure (i := .aload_n 0) (len := 1) (okD_ok (by decide +kernel)) rfl
theorem e260_1 : rf d 260 1 [some (.ref a), l1, l2] s h = rf d 260 2 [some (.ref a), l1, l2] (.ref a :: s) h := rf_pure (i := .aload_n 0) (len := 1) (okD_ok (by decide +kernel)) rfl
theorem e260_2 : rf d 260 2 [l0, some (.int x), l2] s h = rf d 260 3 [l0, some (.int x), l2] (.int x :: s) h := rf_pure (i := .iload_n 1) (len := 1) (okD_ok (by decide +kernel)) rfl
theorem e260_3 (hcat : ip_cat s ≤ 8) : rf (d + 1) 260 3 ls (.int x0 :: .ref 265 :: s) (SH n, I, L, R, nc, ns, nx) = rf_k (d + 1) 260 3 ls s (cf d 244 [.ref 265, .int x0] (SH n, I, L, R, nc, ns, nx)) := g_cv (idx := 401) (t := 8) [.int x0] (by decide +kernel) ow260 ms_8_401 mt_8_401 cy244_8 rfl rfl mL244 rfl rfl (by decide) hcat
theorem e260_6 : rf d 260 6 ls (.int x :: s) h = if x = 0 then rf d 260 13 ls s h else rf d 260 9 ls s h := g_if (c := .eq) (off := 7) _ (by decide +kernel) rfl cmp_d
theorem e260_9 : rf d 260 9 ls s h = rf d 260 10 ls (.int 0 :: s) h := rf_pure (i := .iconst (0)) (len := 1) (okD_ok (by decide +kernel)) rfl
theorem e260_10 : rf d 260 10 ls s h = rf d 260 14 ls s h := rf_goto ⟨okD_ok (i := .goto (4)) (len := 3) (by decide +kernel), rfl⟩
theorem e260_13 : rf d 260 13 ls s h = rf d 260 14 ls (.int 1 :: s) h := rf_pure (i := .iconst (1)) (len := 1) (okD_ok (by decide +kernel)) rfl
theorem e260_14 : rf d 260 14 ls (.int x :: .ref 265 :: s) (SH n, I, L, R, nc, ns, nx) = rf d 260 17 ls s (SH n, ip_up I 265 0 x, L, R, nc, ns, nx) := g_pI (idx := 142) (by decide +kernel) ow260 f_8_142 rfl (by decide +kernel) rfl (by decide)
theorem e260_17 : rf d 260 17 [some (.ref a), l1, l2] s h = rf d 260 18 [some (.ref a), l1, l2] (.ref a :: s) h := rf_pure (i := .aload_n 0) (len := 1) (okD_ok (by decide +kernel)) rfl
theorem e260_18 : rf d 260 18 ls (.ref 265 :: s) (SH n, I, L, R, nc, ns, nx) = rf d 260 21 ls (.int (I 265 0) :: s) (SH n, I, L, R, nc, ns, nx) := g_I (idx := 142) (by decide +kernel) ow260 f_8_142 rfl rfl (by decide)
theorem e260_21 : rf d 260 21 ls (.int x :: s) h = if 0 < x then rf d 260 37 ls s h else rf d 260 24 ls s h := g_if (c := .gt) (off := 16) _ (by decide +kernel) rfl cmp_d
theorem e260_24 : rf d 260 24 [some (.ref a), l1, l2] s h = rf d 260 25 [some (.ref a), l1, l2] (.ref a :: s) h := rf_pure (i := .aload_n 0) (len := 1) (okD_ok (by decide +kernel)) rfl
theorem e260_25 (hR : LYR R) : rf d 260 25 ls (.ref 265 :: s) (SH n, I, L, R, nc, ns, nx) = rf d 260 28 ls (.ref 289 :: s) (SH n, I, L, R, nc, ns, nx) := g_R (idx := 85) (by decide +kernel) ow260 f_8_85 rfl rfl (by decide) (ly_265_39 hR)
theorem e260_28 : rf d 260 28 [l0, some (.int x), l2] s h = rf d 260 29 [l0, some (.int x), l2] (.int x :: s) h := rf_pure (i := .iload_n 1) (len := 1) (okD_ok (by decide +kernel)) rfl
theorem e260_29 (q : ia n a j) : rf d 260 29 ls (.int j :: .ref a :: s) (SH n, I, L, R, nc, ns, nx) = rf d 260 30 ls (.int (I a j.toNatClampNeg) :: s) (SH n, I, L, R, nc, ns, nx) := g_ial (by decide +kernel) q
theorem e260_30 : rf d 260 30 ls (.int x :: s) h = if ¬ x = 0 then rf d 260 37 ls s h else rf d 260 33 ls s h := g_if (c := .ne) (off := 7) _ (by decide +kernel) rfl cmp_d
theorem e260_33 : rf d 260 33 [l0, some (.int x), l2] s h = rf d 260 34 [l0, some (.int x), l2] (.int x :: s) h := rf_pure (i := .iload_n 1) (len := 1) (okD_ok (by decide +kernel)) rfl
theorem e260_34 : rf d 260 34 ls (.int x :: s) h = if ¬ x = 0 then rf d 260 39 ls s h else rf d 260 37 ls s h := g_if (c := .ne) (off := 5) _ (by decide +kernel) rfl cmp_d
theorem e260_37 : rf d 260 37 ls s h = rf d 260 38 ls (.int 0 :: s) h := rf_pure (i := .iconst (0)) (len := 1) (okD_ok (by decide +kernel)) rfl
theorem e260_38 : rf d 260 38 ls [.int x] h = some (.inl (some (.int x)), h) := g_ri (by decide +kernel) rt260
theorem e260_39 : rf d 260 39 [some (.ref a), l1, l2] s h = rf d 260 40 [some (.ref a), l1, l2] (.ref a :: s) h := rf_pure (i := .aload_n 0) (len := 1) (okD_ok (by decide +kernel)) rfl
theorem e260_40 (hR : LYR R) : rf d 260 40 ls (.ref 265 :: s) (SH n, I, L, R, nc, ns, nx) = rf d 260 43 ls (.ref 290 :: s) (SH n, I, L, R, nc, ns, nx) := g_R (idx := 88) (by decide +kernel) ow260 f_8_88 rfl rfl (by decide) (ly_265_40 hR)
theorem e260_43 : rf d 260 43 [l0, some (.int x), l2] s h = rf d 260 44 [l0, some (.int x), l2] (.int x :: s) h := rf_pure (i := .iload_n 1) (len := 1) (okD_ok (by decide +kernel)) rfl
theorem e260_44 (q : ia n a j) : rf d 260 44 ls (.int j :: .ref a :: s) (SH n, I, L, R, nc, ns, nx) = rf d 260 45 ls (.int (I a j.toNatClampNeg) :: s) (SH n, I, L, R, nc, ns, nx) := g_ial (by decide +kernel) q
theorem e260_45 (hn : ip_nl l1 = true) : rf d 260 45 [l0, l1, l2] (.int x :: s) h = rf d 260 46 [l0, l1, some (.int x)] s h := g_sti (i := .istore_n 2) (len := 1) (q := 1) (p := 1) (by decide +kernel) rfl rfl hn
theorem e260_46 : rf d 260 46 [some (.ref a), l1, l2] s h = rf d 260 47 [some (.ref a), l1, l2] (.ref a :: s) h := rf_pure (i := .aload_n 0) (len := 1) (okD_ok (by decide +kernel)) rfl
theorem e260_47 (hR : LYR R) : rf d 260 47 ls (.ref 265 :: s) (SH n, I, L, R, nc, ns, nx) = rf d 260 50 ls (.ref 289 :: s) (SH n, I, L, R, nc, ns, nx) := g_R (idx := 85) (by decide +kernel) ow260 f_8_85 rfl rfl (by decide) (ly_265_39 hR)
theorem e260_50 : rf d 260 50 [l0, l1, some (.int x)] s h = rf d 260 51 [l0, l1, some (.int x)] (.int x :: s) h := rf_pure (i := .iload_n 2) (len := 1) (okD_ok (by decide +kernel)) rfl
theorem e260_51 (q : ia n a j) : rf d 260 51 ls (.int j :: .ref a :: s) (SH n, I, L, R, nc, ns, nx) = rf d 260 52 ls (.int (I a j.toNatClampNeg) :: s) (SH n, I, L, R, nc, ns, nx) := g_ial (by decide +kernel) q
theorem e260_52 : rf d 260 52 ls (.int x :: s) h = if x = 0 then rf d 260 65 ls s h else rf d 260 55 ls s h := g_if (c := .eq) (off := 13) _ (by decide +kernel) rfl cmp_d
theorem e260_55 : rf d 260 55 [some (.ref a), l1, l2] s h = rf d 260 56 [some (.ref a), l1, l2] (.ref a :: s) h := rf_pure (i := .aload_n 0) (len := 1) (okD_ok (by decide +kernel)) rfl
theorem e260_56 (hR : LYR R) : rf d 260 56 ls (.ref 265 :: s) (SH n, I, L, R, nc, ns, nx) = rf d 260 59 ls (.ref 290 :: s) (SH n, I, L, R, nc, ns, nx) := g_R (idx := 88) (by decide +kernel) ow260 f_8_88 rfl rfl (by decide) (ly_265_40 hR)
theorem e260_59 : rf d 260 59 [l0, l1, some (.int x)] s h = rf d 260 60 [l0, l1, some (.int x)] (.int x :: s) h := rf_pure (i := .iload_n 2) (len := 1) (okD_ok (by decide +kernel)) rfl
theorem e260_60 (q : ia n a j) : rf d 260 60 ls (.int j :: .ref a :: s) (SH n, I, L, R, nc, ns, nx) = rf d 260 61 ls (.int (I a j.toNatClampNeg) :: s) (SH n, I, L, R, nc, ns, nx) := g_ial (by decide +kernel) q
theorem e260_61 (hn : ip_nl l1 = true) : rf d 260 61 [l0, l1, l2] (.int x :: s) h = rf d 260 62 [l0, l1, some (.int x)] s h := g_sti (i := .istore_n 2) (len := 1) (q := 1) (p := 1) (by decide +kernel) rfl rfl hn
theorem e260_62 : rf d 260 62 ls s h = rf d 260 46 ls s h := rf_goto ⟨okD_ok (i := .goto (-16)) (len := 3) (by decide +kernel), rfl⟩
theorem e260_65 : rf d 260 65 [some (.ref a), l1, l2] s h = rf d 260 66 [some (.ref a), l1, l2] (.ref a :: s) h := rf_pure (i := .aload_n 0) (len := 1) (okD_ok (by decide +kernel)) rfl
theorem e260_66 (hR : LYR R) : rf d 260 66 ls (.ref 265 :: s) (SH n, I, L, R, nc, ns, nx) = rf d 260 69 ls (.ref 292 :: s) (SH n, I, L, R, nc, ns, nx) := g_R (idx := 94) (by decide +kernel) ow260 f_8_94 rfl rfl (by decide) (ly_265_42 hR)
theorem e260_69 : rf d 260 69 [l0, some (.int x), l2] s h = rf d 260 70 [l0, some (.int x), l2] (.int x :: s) h := rf_pure (i := .iload_n 1) (len := 1) (okD_ok (by decide +kernel)) rfl
theorem e260_70 (q : ia n a j) : rf d 260 70 ls (.int j :: .ref a :: s) (SH n, I, L, R, nc, ns, nx) = rf d 260 71 ls (.int (I a j.toNatClampNeg) :: s) (SH n, I, L, R, nc, ns, nx) := g_ial (by decide +kernel) q
theorem e260_71 : rf d 260 71 [some (.ref a), l1, l2] s h = rf d 260 72 [some (.ref a), l1, l2] (.ref a :: s) h := rf_pure (i := .aload_n 0) (len := 1) (okD_ok (by decide +kernel)) rfl
theorem e260_72 (hR : LYR R) : rf d 260 72 ls (.ref 265 :: s) (SH n, I, L, R, nc, ns, nx) = rf d 260 75 ls (.ref 292 :: s) (SH n, I, L, R, nc, ns, nx) := g_R (idx := 94) (by decide +kernel) ow260 f_8_94 rfl rfl (by decide) (ly_265_42 hR)
theorem e260_75 : rf d 260 75 [l0, l1, some (.int x)] s h = rf d 260 76 [l0, l1, some (.int x)] (.int x :: s) h := rf_pure (i := .iload_n 2) (len := 1) (okD_ok (by decide +kernel)) rfl
theorem e260_76 (q : ia n a j) : rf d 260 76 ls (.int j :: .ref a :: s) (SH n, I, L, R, nc, ns, nx) = rf d 260 77 ls (.int (I a j.toNatClampNeg) :: s) (SH n, I, L, R, nc, ns, nx) := g_ial (by decide +kernel) q
theorem e260_77 : rf d 260 77 ls s h = rf d 260 78 ls (.int (-1) :: s) h := rf_pure (i := .iconst (-1)) (len := 1) (okD_ok (by decide +kernel)) rfl
theorem e260_78 : rf d 260 78 ls (.int y :: .int x :: s) h = rf d 260 79 ls (.int (x ^^^ y) :: s) h := rf_pure (i := .ixor) (len := 1) (okD_ok (by decide +kernel)) rfl
theorem e260_79 : rf d 260 79 ls (.int y :: .int x :: s) h = rf d 260 80 ls (.int (x &&& y) :: s) h := rf_pure (i := .iand) (len := 1) (okD_ok (by decide +kernel)) rfl
theorem e260_80 : rf d 260 80 ls [.int x] h = some (.inl (some (.int x)), h) := g_ri (by decide +kernel) rt260
theorem en261 : cf d 261 [.ref a, .int x0] h = rf d 261 0 [some (.ref a), some (.int x0), none, none] [] h := rfl
theorem e261_0 : rf d 261 0 [some (.ref a), l1, l2, l3] s h = rf d 261 1 [some (.ref a), l1, l2, l3] (.ref a :: s) h := rf_pure (i := .aload_n 0) (len := 1) (okD_ok (by decide +kernel)) rfl
theorem e261_1 : rf d 261 1 ls s h = rf d 261 2 ls (.int 0 :: s) h := rf_pure (i := .iconst (0)) (len := 1) (okD_ok (by decide +kernel)) rfl
theorem e261_2 : rf d 261 2 ls (.int x :: .ref 265 :: s) (SH n, I, L, R, nc, ns, nx) = rf d 261 5 ls s (SH n, ip_up I 265 0 x, L, R, nc, ns, nx) := g_pI (idx := 142) (by decide +kernel) ow261 f_8_142 rfl (by decide +kernel) rfl (by decide)
theorem e261_5 : rf d 261 5 [l0, some (.int x), l2, l3] s h = rf d 261 6 [l0, some (.int x), l2, l3] (.int x :: s) h := rf_pure (i := .iload_n 1) (len := 1) (okD_ok (by decide +kernel)) rfl
theorem e261_6 (hn : ip_nl l1 = true) : rf d 261 6 [l0, l1, l2, l3] (.int x :: s) h = rf d 261 7 [l0, l1, some (.int x), l3] s h := g_sti (i := .istore_n 2) (len := 1) (q := 1) (p := 1) (by decide +kernel) rfl rfl hn
theorem e261_7 : rf d 261 7 ls s h = rf d 261 8 ls (.int 0 :: s) h := rf_pure (i := .iconst (0)) (len := 1) (okD_ok (by decide +kernel)) rfl
theorem e261_8 (hn : ip_nl l2 = true) : rf d 261 8 [l0, l1, l2, l3] (.int x :: s) h = rf d 261 9 [l0, l1, l2, some (.int x)] s h := g_sti (i := .istore_n 3) (len := 1) (q := 2) (p := 1) (by decide +kernel) rfl rfl hn
theorem e261_9 : rf d 261 9 [l0, l1, l2, some (.int x)] s h = rf d 261 10 [l0, l1, l2, some (.int x)] (.int x :: s) h := rf_pure (i := .iload_n 3) (len := 1) (okD_ok (by decide +kernel)) rfl
theorem e261_10 : rf d 261 10 [some (.ref a), l1, l2, l3] s h = rf d 261 11 [some (.ref a), l1, l2, l3] (.ref a :: s) h := rf_pure (i := .aload_n 0) (len := 1) (okD_ok (by decide +kernel)) rfl
theorem e261_11 : rf d 261 11 ls (.ref 265 :: s) (SH n, I, L, R, nc, ns, nx) = rf d 261 14 ls (.int (I 265 37) :: s) (SH n, I, L, R, nc, ns, nx) := g_I (idx := 303) (by decide +kernel) ow261 f_8_303 rfl rfl (by decide)
theorem e261_14 : rf d 261 14 ls (.int y :: .int x :: s) h = if y ≤ x then rf d 261 49 ls s h else rf d 261 17 ls s h := g_ic (c := .ge) (off := 35) _ (by decide +kernel) rfl cmp_d
theorem e261_17 : rf d 261 17 [l0, some (.int x), l2, l3] s h = rf d 261 18 [l0, some (.int x), l2, l3] (.int x :: s) h := rf_pure (i := .iload_n 1) (len := 1) (okD_ok (by decide +kernel)) rfl
theorem e261_18 : rf d 261 18 ls (.int x :: s) h = if x < 0 then rf d 261 49 ls s h else rf d 261 21 ls s h := g_if (c := .lt) (off := 31) _ (by decide +kernel) rfl cmp_d
theorem e261_21 : rf d 261 21 [some (.ref a), l1, l2, l3] s h = rf d 261 22 [some (.ref a), l1, l2, l3] (.ref a :: s) h := rf_pure (i := .aload_n 0) (len := 1) (okD_ok (by decide +kernel)) rfl
theorem e261_22 : rf d 261 22 [l0, l1, l2, some (.int x)] s h = rf d 261 23 [l0, l1, l2, some (.int x)] (.int x :: s) h := rf_pure (i := .iload_n 3) (len := 1) (okD_ok (by decide +kernel)) rfl
theorem e261_23 : rf d 261 23 ls s h = rf d 261 24 ls (.int 0 :: s) h := rf_pure (i := .iconst (0)) (len := 1) (okD_ok (by decide +kernel)) rfl
theorem e261_24 (hcat : ip_cat s ≤ 8) : rf (d + 1) 261 24 ls (.int x1 :: .int x0 :: .ref 265 :: s) (SH n, I, L, R, nc, ns, nx) = rf_k (d + 1) 261 24 ls s (cf d 262 [.ref 265, .int x0, .int x1] (SH n, I, L, R, nc, ns, nx)) := g_cv (idx := 438) (t := 8) [.int x1, .int x0] (by decide +kernel) ow261 ms_8_438 mt_8_438 cy262_8 rfl rfl mL262 rfl rfl (by decide) hcat
theorem e261_27 : rf d 261 27 ls s h = rf d 261 28 ls (.int (-1) :: s) h := rf_pure (i := .iconst (-1)) (len := 1) (okD_ok (by decide +kernel)) rfl
theorem e261_28 : rf d 261 28 ls (.int y :: .int x :: s) h = if x = y then rf d 261 34 ls s h else rf d 261 31 ls s h := g_ic (c := .eq) (off := 6) _ (by decide +kernel) rfl cmp_d
theorem e261_31 : rf d 261 31 ls s h = rf d 261 43 ls s h := rf_goto ⟨okD_ok (i := .goto (12)) (len := 3) (by decide +kernel), rfl⟩
theorem e261_34 : rf d 261 34 [l0, l1, some (.int x), l3] s h = rf d 261 35 [l0, l1, some (.int x), l3] (.int x :: s) h := rf_pure (i := .iload_n 2) (len := 1) (okD_ok (by decide +kernel)) rfl
theorem e261_35 : rf d 261 35 ls (.int x :: s) h = if ¬ x = 0 then rf d 261 40 ls s h else rf d 261 38 ls s h := g_if (c := .ne) (off := 5) _ (by decide +kernel) rfl cmp_d
theorem e261_38 : rf d 261 38 [l0, l1, l2, some (.int x)] s h = rf d 261 39 [l0, l1, l2, some (.int x)] (.int x :: s) h := rf_pure (i := .iload_n 3) (len := 1) (okD_ok (by decide +kernel)) rfl
theorem e261_39 : rf d 261 39 ls [.int x] h = some (.inl (some (.int x)), h) := g_ri (by decide +kernel) rt261
theorem e261_40 (hn : ip_nl l1 = true) : rf d 261 40 [l0, l1, some (.int x), l3] s h = rf d 261 43 [l0, l1, some (.int (x + (-1))), l3] s h := g_inc (q := 1) (z := -1) (w := (-1)) (x := x) (by decide) (by decide +kernel) rfl rfl hn
theorem e261_43 (hn : ip_nl l2 = true) : rf d 261 43 [l0, l1, l2, some (.int x)] s h = rf d 261 46 [l0, l1, l2, some (.int (x + 1))] s h := g_inc (q := 2) (z := 1) (w := 1) (x := x) (by decide) (by decide +kernel) rfl rfl hn
theorem e261_46 : rf d 261 46 ls s h = rf d 261 9 ls s h := rf_goto ⟨okD_ok (i := .goto (-37)) (len := 3) (by decide +kernel), rfl⟩
theorem e261_49 : rf d 261 49 ls s h = rf d 261 50 ls (.int (-1) :: s) h := rf_pure (i := .iconst (-1)) (len := 1) (okD_ok (by decide +kernel)) rfl
theorem e261_50 : rf d 261 50 ls [.int x] h = some (.inl (some (.int x)), h) := g_ri (by decide +kernel) rt261
theorem en262 : cf d 262 [.ref a, .int x0, .int x1] h = rf d 262 0 [some (.ref a), some (.int x0), some (.int x1), none] [] h := rfl
theorem e262_0 : rf d 262 0 [l0, l1, some (.int x), l3] s h = rf d 262 1 [l0, l1, some (.int x), l3] (.int x :: s) h := rf_pure (i := .iload_n 2) (len := 1) (okD_ok (by decide +kernel)) rfl
theorem e262_1 : rf d 262 1 ls s h = rf d 262 2 ls (.int 1 :: s) h := rf_pure (i := .iconst (1)) (len := 1) (okD_ok (by decide +kernel)) rfl
theorem e262_2 : rf d 262 2 ls (.int y :: .int x :: s) h = rf d 262 3 ls (.int (x + y) :: s) h := rf_pure (i := .iadd) (len := 1) (okD_ok (by decide +kernel)) rfl
theorem e262_3 (hn : ip_nl l2 = true) : rf d 262 3 [l0, l1, l2, l3] (.int x :: s) h = rf d 262 4 [l0, l1, l2, some (.int x)] s h := g_sti (i := .istore_n 3) (len := 1) (q := 2) (p := 1) (by decide +kernel) rfl rfl hn
theorem e262_4 : rf d 262 4 [l0, l1, l2, some (.int x)] s h = rf d 262 5 [l0, l1, l2, some (.int x)] (.int x :: s) h := rf_pure (i := .iload_n 3) (len := 1) (okD_ok (by decide +kernel)) rfl
theorem e262_5 : rf d 262 5 [some (.ref a), l1, l2, l3] s h = rf d 262 6 [some (.ref a), l1, l2, l3] (.ref a :: s) h := rf_pure (i := .aload_n 0) (len := 1) (okD_ok (by decide +kernel)) rfl
theorem e262_6 : rf d 262 6 ls (.ref 265 :: s) (SH n, I, L, R, nc, ns, nx) = rf d 262 9 ls (.int (I 265 37) :: s) (SH n, I, L, R, nc, ns, nx) := g_I (idx := 303) (by decide +kernel) ow262 f_8_303 rfl rfl (by decide)
theorem e262_9 : rf d 262 9 ls (.int y :: .int x :: s) h = if y ≤ x then rf d 262 30 ls s h else rf d 262 12 ls s h := g_ic (c := .ge) (off := 21) _ (by decide +kernel) rfl cmp_d
theorem e262_12 : rf d 262 12 [some (.ref a), l1, l2, l3] s h = rf d 262 13 [some (.ref a), l1, l2, l3] (.ref a :: s) h := rf_pure (i := .aload_n 0) (len := 1) (okD_ok (by decide +kernel)) rfl
theorem e262_13 (hR : LYR R) : rf d 262 13 ls (.ref 265 :: s) (SH n, I, L, R, nc, ns, nx) = rf d 262 16 ls (.ref 290 :: s) (SH n, I, L, R, nc, ns, nx) := g_R (idx := 88) (by decide +kernel) ow262 f_8_88 rfl rfl (by decide) (ly_265_40 hR)
theorem e262_16 : rf d 262 16 [l0, l1, l2, some (.int x)] s h = rf d 262 17 [l0, l1, l2, some (.int x)] (.int x :: s) h := rf_pure (i := .iload_n 3) (len := 1) (okD_ok (by decide +kernel)) rfl
theorem e262_17 (q : ia n a j) : rf d 262 17 ls (.int j :: .ref a :: s) (SH n, I, L, R, nc, ns, nx) = rf d 262 18 ls (.int (I a j.toNatClampNeg) :: s) (SH n, I, L, R, nc, ns, nx) := g_ial (by decide +kernel) q
theorem e262_18 : rf d 262 18 [l0, some (.int x), l2, l3] s h = rf d 262 19 [l0, some (.int x), l2, l3] (.int x :: s) h := rf_pure (i := .iload_n 1) (len := 1) (okD_ok (by decide +kernel)) rfl
theorem e262_19 : rf d 262 19 ls (.int y :: .int x :: s) h = if ¬ x = y then rf d 262 24 ls s h else rf d 262 22 ls s h := g_ic (c := .ne) (off := 5) _ (by decide +kernel) rfl cmp_d
theorem e262_22 : rf d 262 22 [l0, l1, l2, some (.int x)] s h = rf d 262 23 [l0, l1, l2, some (.int x)] (.int x :: s) h := rf_pure (i := .iload_n 3) (len := 1) (okD_ok (by decide +kernel)) rfl
theorem e262_23 : rf d 262 23 ls [.int x] h = some (.inl (some (.int x)), h) := g_ri (by decide +kernel) rt262
theorem e262_24 (hn : ip_nl l2 = true) : rf d 262 24 [l0, l1, l2, some (.int x)] s h = rf d 262 27 [l0, l1, l2, some (.int (x + 1))] s h := g_inc (q := 2) (z := 1) (w := 1) (x := x) (by decide) (by decide +kernel) rfl rfl hn
theorem e262_27 : rf d 262 27 ls s h = rf d 262 4 ls s h := rf_goto ⟨okD_ok (i := .goto (-23)) (len := 3) (by decide +kernel), rfl⟩
theorem e262_30 : rf d 262 30 ls s h = rf d 262 31 ls (.int (-1) :: s) h := rf_pure (i := .iconst (-1)) (len := 1) (okD_ok (by decide +kernel)) rfl
theorem e262_31 : rf d 262 31 ls [.int x] h = some (.inl (some (.int x)), h) := g_ri (by decide +kernel) rt262
theorem en263 : cf d 263 [.ref a, .int x0] h = rf d 263 0 [some (.ref a), some (.int x0), none, none, none] [] h := rfl
theorem e263_0 : rf d 263 0 [some (.ref a), l1, l2, l3, l4] s h = rf d 263 1 [some (.ref a), l1, l2, l3, l4] (.ref a :: s) h := rf_pure (i := .aload_n 0) (len := 1) (okD_ok (by decide +kernel)) rfl
theorem e263_1 : rf d 263 1 ls s h = rf d 263 2 ls (.int 0 :: s) h := rf_pure (i := .iconst (0)) (len := 1) (okD_ok (by decide +kernel)) rfl
theorem e263_2 : rf d 263 2 ls (.int x :: .ref 265 :: s) (SH n, I, L, R, nc, ns, nx) = rf d 263 5 ls s (SH n, ip_up I 265 0 x, L, R, nc, ns, nx) := g_pI (idx := 142) (by decide +kernel) ow263 f_8_142 rfl (by decide +kernel) rfl (by decide)
theorem e263_5 : rf d 263 5 [some (.ref a), l1, l2, l3, l4] s h = rf d 263 6 [some (.ref a), l1, l2, l3, l4] (.ref a :: s) h := rf_pure (i := .aload_n 0) (len := 1) (okD_ok (by decide +kernel)) rfl
theorem e263_6 : rf d 263 6 [some (.ref a), l1, l2, l3, l4] s h = rf d 263 7 [some (.ref a), l1, l2, l3, l4] (.ref a :: s) h := rf_pure (i := .aload_n 0) (len := 1) (okD_ok (by decide +kernel)) rfl
theorem e263_7 (hR : LYR R) : rf d 263 7 ls (.ref 265 :: s) (SH n, I, L, R, nc, ns, nx) = rf d 263 10 ls (.ref 296 :: s) (SH n, I, L, R, nc, ns, nx) := g_R (idx := 106) (by decide +kernel) ow263 f_8_106 rfl rfl (by decide) (ly_265_46 hR)
theorem e263_10 : rf d 263 10 [some (.ref a), l1, l2, l3, l4] s h = rf d 263 11 [some (.ref a), l1, l2, l3, l4] (.ref a :: s) h := rf_pure (i := .aload_n 0) (len := 1) (okD_ok (by decide +kernel)) rfl
theorem e263_11 : rf d 263 11 ls (.ref 265 :: s) (SH n, I, L, R, nc, ns, nx) = rf d 263 14 ls (.int (I 265 38) :: s) (SH n, I, L, R, nc, ns, nx) := g_I (idx := 306) (by decide +kernel) ow263 f_8_306 rfl rfl (by decide)
theorem e263_14 (q : ia n a j) : rf d 263 14 ls (.int j :: .ref a :: s) (SH n, I, L, R, nc, ns, nx) = rf d 263 15 ls (.int (I a j.toNatClampNeg) :: s) (SH n, I, L, R, nc, ns, nx) := g_ial (by decide +kernel) q
theorem e263_15 : rf d 263 15 [some (.ref a), l1, l2, l3, l4] s h = rf d 263 16 [some (.ref a), l1, l2, l3, l4] (.ref a :: s) h := rf_pure (i := .aload_n 0) (len := 1) (okD_ok (by decide +kernel)) rfl
theorem e263_16 (hR : LYR R) : rf d 263 16 ls (.ref 265 :: s) (SH n, I, L, R, nc, ns, nx) = rf d 263 19 ls (.ref 293 :: s) (SH n, I, L, R, nc, ns, nx) := g_R (idx := 97) (by decide +kernel) ow263 f_8_97 rfl rfl (by decide) (ly_265_43 hR)
theorem e263_19 : rf d 263 19 [some (.ref a), l1, l2, l3, l4] s h = rf d 263 20 [some (.ref a), l1, l2, l3, l4] (.ref a :: s) h := rf_pure (i := .aload_n 0) (len := 1) (okD_ok (by decide +kernel)) rfl
theorem e263_20 : rf d 263 20 ls (.ref 265 :: s) (SH n, I, L, R, nc, ns, nx) = rf d 263 23 ls (.int (I 265 38) :: s) (SH n, I, L, R, nc, ns, nx) := g_I (idx := 306) (by decide +kernel) ow263 f_8_306 rfl rfl (by decide)
theorem e263_23 (q : ia n a j) : rf d 263 23 ls (.int j :: .ref a :: s) (SH n, I, L, R, nc, ns, nx) = rf d 263 24 ls (.int (I a j.toNatClampNeg) :: s) (SH n, I, L, R, nc, ns, nx) := g_ial (by decide +kernel) q
theorem e263_24 (hcat : ip_cat s ≤ 8) : rf (d + 1) 263 24 ls (.int x1 :: .int x0 :: .ref 265 :: s) (SH n, I, L, R, nc, ns, nx) = rf_k (d + 1) 263 24 ls s (cf d 234 [.ref 265, .int x0, .int x1] (SH n, I, L, R, nc, ns, nx)) := g_cv (idx := 339) (t := 8) [.int x1, .int x0] (by decide +kernel) ow263 ms_8_339 mt_8_339 cy234_8 rfl rfl mL234 rfl rfl (by decide) hcat
theorem e263_27 (hn : ip_nl l1 = true) : rf d 263 27 [l0, l1, l2, l3, l4] (.int x :: s) h = rf d 263 28 [l0, l1, some (.int x), l3, l4] s h := g_sti (i := .istore_n 2) (len := 1) (q := 1) (p := 1) (by decide +kernel) rfl rfl hn
theorem e263_28 : rf d 263 28 ls s h = rf d 263 29 ls (.int (-1) :: s) h := rf_pure (i := .iconst (-1)) (len := 1) (okD_ok (by decide +kernel)) rfl
theorem e263_29 (hn : ip_nl l2 = true) : rf d 263 29 [l0, l1, l2, l3, l4] (.int x :: s) h = rf d 263 30 [l0, l1, l2, some (.int x), l4] s h := g_sti (i := .istore_n 3) (len := 1) (q := 2) (p := 1) (by decide +kernel) rfl rfl hn
theorem e263_30 : rf d 263 30 ls s h = rf d 263 31 ls (.int 1 :: s) h := rf_pure (i := .iconst (1)) (len := 1) (okD_ok (by decide +kernel)) rfl
theorem e263_31 (hn : ip_nl l3 = true) : rf d 263 31 [l0, l1, l2, l3, l4] (.int x :: s) h = rf d 263 33 [l0, l1, l2, l3, some (.int x)] s h := g_sti (i := .istore 4) (len := 2) (q := 3) (p := 2) (by decide +kernel) rfl rfl hn
theorem e263_33 : rf d 263 33 [l0, l1, l2, l3, some (.int x)] s h = rf d 263 35 [l0, l1, l2, l3, some (.int x)] (.int x :: s) h := rf_pure (i := .iload 4) (len := 2) (okD_ok (by decide +kernel)) rfl
theorem e263_35 : rf d 263 35 [some (.ref a), l1, l2, l3, l4] s h = rf d 263 36 [some (.ref a), l1, l2, l3, l4] (.ref a :: s) h := rf_pure (i := .aload_n 0) (len := 1) (okD_ok (by decide +kernel)) rfl
theorem e263_36 (hcat : ip_cat s ≤ 8) : rf (d + 1) 263 36 ls (.ref 265 :: s) (SH n, I, L, R, nc, ns, nx) = rf_k (d + 1) 263 36 ls s (cf d 187 [.ref 265] (SH n, I, L, R, nc, ns, nx)) := g_cv (idx := 309) (t := 8) [] (by decide +kernel) ow263 ms_8_309 mt_8_309 cy187_8 rfl rfl mL187 rfl rfl (by decide) hcat
theorem e263_39 : rf d 263 39 ls (.int y :: .int x :: s) h = if y < x then rf d 263 122 ls s h else rf d 263 42 ls s h := g_ic (c := .gt) (off := 83) _ (by decide +kernel) rfl cmp_d
theorem e263_42 : rf d 263 42 [l0, l1, some (.int x), l3, l4] s h = rf d 263 43 [l0, l1, some (.int x), l3, l4] (.int x :: s) h := rf_pure (i := .iload_n 2) (len := 1) (okD_ok (by decide +kernel)) rfl
theorem e263_43 : rf d 263 43 ls s h = rf d 263 44 ls (.int (-1) :: s) h := rf_pure (i := .iconst (-1)) (len := 1) (okD_ok (by decide +kernel)) rfl
theorem e263_44 : rf d 263 44 ls (.int y :: .int x :: s) h = if x = y then rf d 263 122 ls s h else rf d 263 47 ls s h := g_ic (c := .eq) (off := 78) _ (by decide +kernel) rfl cmp_d
theorem e263_47 : rf d 263 47 [l0, l1, l2, l3, some (.int x)] s h = rf d 263 49 [l0, l1, l2, l3, some (.int x)] (.int x :: s) h := rf_pure (i := .iload 4) (len := 2) (okD_ok (by decide +kernel)) rfl
theorem e263_49 : rf d 263 49 [some (.ref a), l1, l2, l3, l4] s h = rf d 263 50 [some (.ref a), l1, l2, l3, l4] (.ref a :: s) h := rf_pure (i := .aload_n 0) (len := 1) (okD_ok (by decide +kernel)) rfl
theorem e263_50 (hR : LYR R) : rf d 263 50 ls (.ref 265 :: s) (SH n, I, L, R, nc, ns, nx) = rf d 263 53 ls (.ref 293 :: s) (SH n, I, L, R, nc, ns, nx) := g_R (idx := 97) (by decide +kernel) ow263 f_8_97 rfl rfl (by decide) (ly_265_43 hR)
theorem e263_53 : rf d 263 53 [some (.ref a), l1, l2, l3, l4] s h = rf d 263 54 [some (.ref a), l1, l2, l3, l4] (.ref a :: s) h := rf_pure (i := .aload_n 0) (len := 1) (okD_ok (by decide +kernel)) rfl
theorem e263_54 : rf d 263 54 ls (.ref 265 :: s) (SH n, I, L, R, nc, ns, nx) = rf d 263 57 ls (.int (I 265 38) :: s) (SH n, I, L, R, nc, ns, nx) := g_I (idx := 306) (by decide +kernel) ow263 f_8_306 rfl rfl (by decide)
theorem e263_57 (q : ia n a j) : rf d 263 57 ls (.int j :: .ref a :: s) (SH n, I, L, R, nc, ns, nx) = rf d 263 58 ls (.int (I a j.toNatClampNeg) :: s) (SH n, I, L, R, nc, ns, nx) := g_ial (by decide +kernel) q
theorem e263_58 : rf d 263 58 ls (.int y :: .int x :: s) h = rf d 263 59 ls (.int (x &&& y) :: s) h := rf_pure (i := .iand) (len := 1) (okD_ok (by decide +kernel)) rfl
theorem e263_59 : rf d 263 59 ls (.int x :: s) h = if ¬ x = 0 then rf d 263 116 ls s h else rf d 263 62 ls s h := g_if (c := .ne) (off := 57) _ (by decide +kernel) rfl cmp_d
theorem e263_62 : rf d 263 62 [l0, l1, l2, some (.int x), l4] s h = rf d 263 63 [l0, l1, l2, some (.int x), l4] (.int x :: s) h := rf_pure (i := .iload_n 3) (len := 1) (okD_ok (by decide +kernel)) rfl
theorem e263_63 : rf d 263 63 ls s h = rf d 263 64 ls (.int (-1) :: s) h := rf_pure (i := .iconst (-1)) (len := 1) (okD_ok (by decide +kernel)) rfl
theorem e263_64 : rf d 263 64 ls (.int y :: .int x :: s) h = if x = y then rf d 263 82 ls s h else rf d 263 67 ls s h := g_ic (c := .eq) (off := 18) _ (by decide +kernel) rfl cmp_d
theorem e263_67 : rf d 263 67 [l0, l1, l2, l3, some (.int x)] s h = rf d 263 69 [l0, l1, l2, l3, some (.int x)] (.int x :: s) h := rf_pure (i := .iload 4) (len := 2) (okD_ok (by decide +kernel)) rfl
theorem e263_69 (hcat : ip_cat s ≤ 8) : rf (d + 1) 263 69 ls (.int x0 :: s) h = rf_k (d + 1) 263 69 ls s (cf d 226 [.int x0] h) := g_cs (idx := 333) [.int x0] (by decide +kernel) ow263 ms_8_333 mt_8_333 (by decide) rfl mL226 rfl hcat
theorem e263_72 : rf d 263 72 [l0, l1, l2, some (.int x), l4] s h = rf d 263 73 [l0, l1, l2, some (.int x), l4] (.int x :: s) h := rf_pure (i := .iload_n 3) (len := 1) (okD_ok (by decide +kernel)) rfl
theorem e263_73 (hcat : ip_cat s ≤ 8) : rf (d + 1) 263 73 ls (.int x0 :: s) h = rf_k (d + 1) 263 73 ls s (cf d 226 [.int x0] h) := g_cs (idx := 333) [.int x0] (by decide +kernel) ow263 ms_8_333 mt_8_333 (by decide) rfl mL226 rfl hcat
theorem e263_76 : rf d 263 76 ls (.int y :: .int x :: s) h = if x < y then rf d 263 82 ls s h else rf d 263 79 ls s h := g_ic (c := .lt) (off := 6) _ (by decide +kernel) rfl cmp_d
theorem e263_79 : rf d 263 79 ls s h = rf d 263 116 ls s h := rf_goto ⟨okD_ok (i := .goto (37)) (len := 3) (by decide +kernel), rfl⟩
theorem e263_82 : rf d 263 82 [some (.ref a), l1, l2, l3, l4] s h = rf d 263 83 [some (.ref a), l1, l2, l3, l4] (.ref a :: s) h := rf_pure (i := .aload_n 0) (len := 1) (okD_ok (by decide +kernel)) rfl
theorem e263_83 : rf d 263 83 [some (.ref a), l1, l2, l3, l4] s h = rf d 263 84 [some (.ref a), l1, l2, l3, l4] (.ref a :: s) h := rf_pure (i := .aload_n 0) (len := 1) (okD_ok (by decide +kernel)) rfl
theorem e263_84 (hR : LYR R) : rf d 263 84 ls (.ref 265 :: s) (SH n, I, L, R, nc, ns, nx) = rf d 263 87 ls (.ref 296 :: s) (SH n, I, L, R, nc, ns, nx) := g_R (idx := 106) (by decide +kernel) ow263 f_8_106 rfl rfl (by decide) (ly_265_46 hR)
theorem e263_87 : rf d 263 87 [some (.ref a), l1, l2, l3, l4] s h = rf d 263 88 [some (.ref a), l1, l2, l3, l4] (.ref a :: s) h := rf_pure (i := .aload_n 0) (len := 1) (okD_ok (by decide +kernel)) rfl
theorem e263_88 : rf d 263 88 ls (.ref 265 :: s) (SH n, I, L, R, nc, ns, nx) = rf d 263 91 ls (.int (I 265 38) :: s) (SH n, I, L, R, nc, ns, nx) := g_I (idx := 306) (by decide +kernel) ow263 f_8_306 rfl rfl (by decide)
theorem e263_91 (q : ia n a j) : rf d 263 91 ls (.int j :: .ref a :: s) (SH n, I, L, R, nc, ns, nx) = rf d 263 92 ls (.int (I a j.toNatClampNeg) :: s) (SH n, I, L, R, nc, ns, nx) := g_ial (by decide +kernel) q
theorem e263_92 : rf d 263 92 [l0, l1, l2, l3, some (.int x)] s h = rf d 263 94 [l0, l1, l2, l3, some (.int x)] (.int x :: s) h := rf_pure (i := .iload 4) (len := 2) (okD_ok (by decide +kernel)) rfl
theorem e263_94 : rf d 263 94 ls (.int y :: .int x :: s) h = rf d 263 95 ls (.int (x ^^^ y) :: s) h := rf_pure (i := .ixor) (len := 1) (okD_ok (by decide +kernel)) rfl
theorem e263_95 : rf d 263 95 [some (.ref a), l1, l2, l3, l4] s h = rf d 263 96 [some (.ref a), l1, l2, l3, l4] (.ref a :: s) h := rf_pure (i := .aload_n 0) (len := 1) (okD_ok (by decide +kernel)) rfl
theorem e263_96 (hR : LYR R) : rf d 263 96 ls (.ref 265 :: s) (SH n, I, L, R, nc, ns, nx) = rf d 263 99 ls (.ref 293 :: s) (SH n, I, L, R, nc, ns, nx) := g_R (idx := 97) (by decide +kernel) ow263 f_8_97 rfl rfl (by decide) (ly_265_43 hR)
theorem e263_99 : rf d 263 99 [some (.ref a), l1, l2, l3, l4] s h = rf d 263 100 [some (.ref a), l1, l2, l3, l4] (.ref a :: s) h := rf_pure (i := .aload_n 0) (len := 1) (okD_ok (by decide +kernel)) rfl
theorem e263_100 : rf d 263 100 ls (.ref 265 :: s) (SH n, I, L, R, nc, ns, nx) = rf d 263 103 ls (.int (I 265 38) :: s) (SH n, I, L, R, nc, ns, nx) := g_I (idx := 306) (by decide +kernel) ow263 f_8_306 rfl rfl (by decide)
theorem e263_103 (q : ia n a j) : rf d 263 103 ls (.int j :: .ref a :: s) (SH n, I, L, R, nc, ns, nx) = rf d 263 104 ls (.int (I a j.toNatClampNeg) :: s) (SH n, I, L, R, nc, ns, nx) := g_ial (by decide +kernel) q
theorem e263_104 (hcat : ip_cat s ≤ 8) : rf (d + 1) 263 104 ls (.int x1 :: .int x0 :: .ref 265 :: s) (SH n, I, L, R, nc, ns, nx) = rf_k (d + 1) 263 104 ls s (cf d 234 [.ref 265, .int x0, .int x1] (SH n, I, L, R, nc, ns, nx)) := g_cv (idx := 339) (t := 8) [.int x1, .int x0] (by decide +kernel) ow263 ms_8_339 mt_8_339 cy234_8 rfl rfl mL234 rfl rfl (by decide) hcat
theorem e263_107 : rf d 263 107 ls s h = rf d 263 108 ls (.int 1 :: s) h := rf_pure (i := .iconst (1)) (len := 1) (okD_ok (by decide +kernel)) rfl
theorem e263_108 : rf d 263 108 [l0, l1, some (.int x), l3, l4] s h = rf d 263 109 [l0, l1, some (.int x), l3, l4] (.int x :: s) h := rf_pure (i := .iload_n 2) (len := 1) (okD_ok (by decide +kernel)) rfl
theorem e263_109 : rf d 263 109 ls (.int y :: .int x :: s) h = rf d 263 110 ls (.int (x - y) :: s) h := rf_pure (i := .isub) (len := 1) (okD_ok (by decide +kernel)) rfl
theorem e263_110 : rf d 263 110 ls (.int y :: .int x :: s) h = if ¬ x = y then rf d 263 116 ls s h else rf d 263 113 ls s h := g_ic (c := .ne) (off := 6) _ (by decide +kernel) rfl cmp_d
theorem e263_113 : rf d 263 113 [l0, l1, l2, l3, some (.int x)] s h = rf d 263 115 [l0, l1, l2, l3, some (.int x)] (.int x :: s) h := rf_pure (i := .iload 4) (len := 2) (okD_ok (by decide +kernel)) rfl
theorem e263_115 (hn : ip_nl l2 = true) : rf d 263 115 [l0, l1, l2, l3, l4] (.int x :: s) h = rf d 263 116 [l0, l1, l2, some (.int x), l4] s h := g_sti (i := .istore_n 3) (len := 1) (q := 2) (p := 1) (by decide +kernel) rfl rfl hn
theorem e263_116 (hn : ip_nl l3 = true) : rf d 263 116 [l0, l1, l2, l3, some (.int x)] s h = rf d 263 119 [l0, l1, l2, l3, some (.int (x + 1))] s h := g_inc (q := 3) (z := 1) (w := 1) (x := x) (by decide) (by decide +kernel) rfl rfl hn
theorem e263_119 : rf d 263 119 ls s h = rf d 263 33 ls s h := rf_goto ⟨okD_ok (i := .goto (-86)) (len := 3) (by decide +kernel), rfl⟩
theorem e263_122 : rf d 263 122 [l0, l1, l2, some (.int x), l4] s h = rf d 263 123 [l0, l1, l2, some (.int x), l4] (.int x :: s) h := rf_pure (i := .iload_n 3) (len := 1) (okD_ok (by decide +kernel)) rfl
theorem e263_123 : rf d 263 123 ls s h = rf d 263 124 ls (.int (-1) :: s) h := rf_pure (i := .iconst (-1)) (len := 1) (okD_ok (by decide +kernel)) rfl
theorem e263_124 : rf d 263 124 ls (.int y :: .int x :: s) h = if x = y then rf d 263 131 ls s h else rf d 263 127 ls s h := g_ic (c := .eq) (off := 7) _ (by decide +kernel) rfl cmp_d
theorem e263_127 : rf d 263 127 [l0, some (.int x), l2, l3, l4] s h = rf d 263 128 [l0, some (.int x), l2, l3, l4] (.int x :: s) h := rf_pure (i := .iload_n 1) (len := 1) (okD_ok (by decide +kernel)) rfl
theorem e263_128 : rf d 263 128 ls (.int x :: s) h = if x = 0 then rf d 263 135 ls s h else rf d 263 131 ls s h := g_if (c := .eq) (off := 7) _ (by decide +kernel) rfl cmp_d
theorem e263_131 : rf d 263 131 [l0, l1, l2, some (.int x), l4] s h = rf d 263 132 [l0, l1, l2, some (.int x), l4] (.int x :: s) h := rf_pure (i := .iload_n 3) (len := 1) (okD_ok (by decide +kernel)) rfl
theorem e263_132 : rf d 263 132 ls s h = rf d 263 139 ls s h := rf_goto ⟨okD_ok (i := .goto (7)) (len := 3) (by decide +kernel), rfl⟩
theorem e263_135 : rf d 263 135 [l0, l1, l2, some (.int x), l4] s h = rf d 263 136 [l0, l1, l2, some (.int x), l4] (.int x :: s) h := rf_pure (i := .iload_n 3) (len := 1) (okD_ok (by decide +kernel)) rfl
theorem e263_136 (hcat : ip_cat s ≤ 8) : rf (d + 1) 263 136 ls (.int x0 :: s) h = rf_k (d + 1) 263 136 ls s (cf d 226 [.int x0] h) := g_cs (idx := 333) [.int x0] (by decide +kernel) ow263 ms_8_333 mt_8_333 (by decide) rfl mL226 rfl hcat
theorem e263_139 : rf d 263 139 ls [.int x] h = some (.inl (some (.int x)), h) := g_ri (by decide +kernel) rt263
theorem en264 : cf d 264 [.ref a, .int x0] h = rf d 264 0 [some (.ref a), some (.int x0), none, none] [] h := rfl
theorem e264_0 : rf d 264 0 [some (.ref a), l1, l2, l3] s h = rf d 264 1 [some (.ref a), l1, l2, l3] (.ref a :: s) h := rf_pure (i := .aload_n 0) (len := 1) (okD_ok (by decide +kernel)) rfl
theorem e264_1 : rf d 264 1 [some (.ref a), l1, l2, l3] s h = rf d 264 2 [some (.ref a), l1, l2, l3] (.ref a :: s) h := rf_pure (i := .aload_n 0) (len := 1) (okD_ok (by decide +kernel)) rfl
theorem e264_2 (hcat : ip_cat s ≤ 8) : rf (d + 1) 264 2 ls (.ref 265 :: s) (SH n, I, L, R, nc, ns, nx) = rf_k (d + 1) 264 2 ls s (cf d 232 [.ref 265] (SH n, I, L, R, nc, ns, nx)) := g_cv (idx := 389) (t := 8) [] (by decide +kernel) ow264 ms_8_389 mt_8_389 cy232_8 rfl rfl mL232 rfl rfl (by decide) hcat
theorem e264_5 : rf d 264 5 ls (.int x :: s) h = if ¬ x = 0 then rf d 264 12 ls s h else rf d 264 8 ls s h := g_if (c := .ne) (off := 7) _ (by decide +kernel) rfl cmp_d
theorem e264_8 : rf d 264 8 ls s h = rf d 264 9 ls (.int 1 :: s) h := rf_pure (i := .iconst (1)) (len := 1) (okD_ok (by decide +kernel)) rfl
theorem e264_9 : rf d 264 9 ls s h = rf d 264 26 ls s h := rf_goto ⟨okD_ok (i := .goto (17)) (len := 3) (by decide +kernel), rfl⟩
theorem e264_12 : rf d 264 12 [l0, some (.int x), l2, l3] s h = rf d 264 13 [l0, some (.int x), l2, l3] (.int x :: s) h := rf_pure (i := .iload_n 1) (len := 1) (okD_ok (by decide +kernel)) rfl
theorem e264_13 : rf d 264 13 ls s h = rf d 264 14 ls (.int 0 :: s) h := rf_pure (i := .iconst (0)) (len := 1) (okD_ok (by decide +kernel)) rfl
theorem e264_14 : rf d 264 14 ls s h = rf d 264 15 ls (.int 3 :: s) h := rf_pure (i := .iconst (3)) (len := 1) (okD_ok (by decide +kernel)) rfl
theorem e264_15 (hcat : ip_cat s ≤ 8) : rf (d + 1) 264 15 ls (.int x2 :: .int x1 :: .int x0 :: s) h = rf_k (d + 1) 264 15 ls s (cf d 217 [.int x0, .int x1, .int x2] h) := g_cs (idx := 315) [.int x2, .int x1, .int x0] (by decide +kernel) ow264 ms_8_315 mt_8_315 (by decide) rfl mL217 rfl hcat
theorem e264_18 : rf d 264 18 ls (.int x :: s) h = if ¬ x = 0 then rf d 264 25 ls s h else rf d 264 21 ls s h := g_if (c := .ne) (off := 7) _ (by decide +kernel) rfl cmp_d
theorem e264_21 : rf d 264 21 ls s h = rf d 264 22 ls (.int 2 :: s) h := rf_pure (i := .iconst (2)) (len := 1) (okD_ok (by decide +kernel)) rfl
theorem e264_22 : rf d 264 22 ls s h = rf d 264 26 ls s h := rf_goto ⟨okD_ok (i := .goto (4)) (len := 3) (by decide +kernel), rfl⟩
theorem e264_25 : rf d 264 25 ls s h = rf d 264 26 ls (.int 0 :: s) h := rf_pure (i := .iconst (0)) (len := 1) (okD_ok (by decide +kernel)) rfl
theorem e264_26 : rf d 264 26 ls (.int x :: .ref 265 :: s) (SH n, I, L, R, nc, ns, nx) = rf d 264 29 ls s (SH n, ip_up I 265 0 x, L, R, nc, ns, nx) := g_pI (idx := 142) (by decide +kernel) ow264 f_8_142 rfl (by decide +kernel) rfl (by decide)
theorem e264_29 : rf d 264 29 [some (.ref a), l1, l2, l3] s h = rf d 264 30 [some (.ref a), l1, l2, l3] (.ref a :: s) h := rf_pure (i := .aload_n 0) (len := 1) (okD_ok (by decide +kernel)) rfl
theorem e264_30 : rf d 264 30 ls (.ref 265 :: s) (SH n, I, L, R, nc, ns, nx) = rf d 264 33 ls (.int (I 265 0) :: s) (SH n, I, L, R, nc, ns, nx) := g_I (idx := 142) (by decide +kernel) ow264 f_8_142 rfl rfl (by decide)
theorem e264_33 : rf d 264 33 ls (.int x :: s) h = if x ≤ 0 then rf d 264 38 ls s h else rf d 264 36 ls s h := g_if (c := .le) (off := 5) _ (by decide +kernel) rfl cmp_d
theorem e264_36 : rf d 264 36 ls s h = rf d 264 37 ls (.int 0 :: s) h := rf_pure (i := .iconst (0)) (len := 1) (okD_ok (by decide +kernel)) rfl
theorem e264_37 : rf d 264 37 ls [.int x] h = some (.inl (some (.int x)), h) := g_ri (by decide +kernel) rt264
theorem e264_38 : rf d 264 38 ls s h = rf d 264 39 ls (.int 0 :: s) h := rf_pure (i := .iconst (0)) (len := 1) (okD_ok (by decide +kernel)) rfl
theorem e264_39 (hn : ip_nl l1 = true) : rf d 264 39 [l0, l1, l2, l3] (.int x :: s) h = rf d 264 40 [l0, l1, some (.int x), l3] s h := g_sti (i := .istore_n 2) (len := 1) (q := 1) (p := 1) (by decide +kernel) rfl rfl hn
theorem e264_40 : rf d 264 40 ls s h = rf d 264 41 ls (.int 0 :: s) h := rf_pure (i := .iconst (0)) (len := 1) (okD_ok (by decide +kernel)) rfl
theorem e264_41 (hn : ip_nl l2 = true) : rf d 264 41 [l0, l1, l2, l3] (.int x :: s) h = rf d 264 42 [l0, l1, l2, some (.int x)] s h := g_sti (i := .istore_n 3) (len := 1) (q := 2) (p := 1) (by decide +kernel) rfl rfl hn
theorem e264_42 : rf d 264 42 [l0, l1, l2, some (.int x)] s h = rf d 264 43 [l0, l1, l2, some (.int x)] (.int x :: s) h := rf_pure (i := .iload_n 3) (len := 1) (okD_ok (by decide +kernel)) rfl
theorem e264_43 : rf d 264 43 [some (.ref a), l1, l2, l3] s h = rf d 264 44 [some (.ref a), l1, l2, l3] (.ref a :: s) h := rf_pure (i := .aload_n 0) (len := 1) (okD_ok (by decide +kernel)) rfl
theorem e264_44 (hcat : ip_cat s ≤ 8) : rf (d + 1) 264 44 ls (.ref 265 :: s) (SH n, I, L, R, nc, ns, nx) = rf_k (d + 1) 264 44 ls s (cf d 187 [.ref 265] (SH n, I, L, R, nc, ns, nx)) := g_cv (idx := 309) (t := 8) [] (by decide +kernel) ow264 ms_8_309 mt_8_309 cy187_8 rfl rfl mL187 rfl rfl (by decide) hcat
theorem e264_47 : rf d 264 47 ls (.int y :: .int x :: s) h = if y < x then rf d 264 74 ls s h else rf d 264 50 ls s h := g_ic (c := .gt) (off := 27) _ (by decide +kernel) rfl cmp_d
theorem e264_50 : rf d 264 50 [l0, l1, some (.int x), l3] s h = rf d 264 51 [l0, l1, some (.int x), l3] (.int x :: s) h := rf_pure (i := .iload_n 2) (len := 1) (okD_ok (by decide +kernel)) rfl
theorem e264_51 : rf d 264 51 [some (.ref a), l1, l2, l3] s h = rf d 264 52 [some (.ref a), l1, l2, l3] (.ref a :: s) h := rf_pure (i := .aload_n 0) (len := 1) (okD_ok (by decide +kernel)) rfl
theorem e264_52 : rf d 264 52 [l0, l1, l2, some (.int x)] s h = rf d 264 53 [l0, l1, l2, some (.int x)] (.int x :: s) h := rf_pure (i := .iload_n 3) (len := 1) (okD_ok (by decide +kernel)) rfl
theorem e264_53 : rf d 264 53 ls s h = rf d 264 54 ls (.int 0 :: s) h := rf_pure (i := .iconst (0)) (len := 1) (okD_ok (by decide +kernel)) rfl
theorem e264_54 (hcat : ip_cat s ≤ 8) : rf (d + 1) 264 54 ls (.int x1 :: .int x0 :: .ref 265 :: s) (SH n, I, L, R, nc, ns, nx) = rf_k (d + 1) 264 54 ls s (cf d 249 [.ref 265, .int x0, .int x1] (SH n, I, L, R, nc, ns, nx)) := g_cv (idx := 407) (t := 8) [.int x1, .int x0] (by decide +kernel) ow264 ms_8_407 mt_8_407 cy249_8 rfl rfl mL249 rfl rfl (by decide) hcat
theorem e264_57 : rf d 264 57 [l0, some (.int x), l2, l3] s h = rf d 264 58 [l0, some (.int x), l2, l3] (.int x :: s) h := rf_pure (i := .iload_n 1) (len := 1) (okD_ok (by decide +kernel)) rfl
theorem e264_58 : rf d 264 58 ls (.int y :: .int x :: s) h = if ¬ x = y then rf d 264 65 ls s h else rf d 264 61 ls s h := g_ic (c := .ne) (off := 7) _ (by decide +kernel) rfl cmp_d
theorem e264_61 : rf d 264 61 ls s h = rf d 264 62 ls (.int 1 :: s) h := rf_pure (i := .iconst (1)) (len := 1) (okD_ok (by decide +kernel)) rfl
theorem e264_62 : rf d 264 62 ls s h = rf d 264 66 ls s h := rf_goto ⟨okD_ok (i := .goto (4)) (len := 3) (by decide +kernel), rfl⟩
theorem e264_65 : rf d 264 65 ls s h = rf d 264 66 ls (.int 0 :: s) h := rf_pure (i := .iconst (0)) (len := 1) (okD_ok (by decide +kernel)) rfl
theorem e264_66 : rf d 264 66 ls (.int y :: .int x :: s) h = rf d 264 67 ls (.int (x + y) :: s) h := rf_pure (i := .iadd) (len := 1) (okD_ok (by decide +kernel)) rfl
theorem e264_67 (hn : ip_nl l1 = true) : rf d 264 67 [l0, l1, l2, l3] (.int x :: s) h = rf d 264 68 [l0, l1, some (.int x), l3] s h := g_sti (i := .istore_n 2) (len := 1) (q := 1) (p := 1) (by decide +kernel) rfl rfl hn
theorem e264_68 (hn : ip_nl l2 = true) : rf d 264 68 [l0, l1, l2, some (.int x)] s h = rf d 264 71 [l0, l1, l2, some (.int (x + 1))] s h := g_inc (q := 2) (z := 1) (w := 1) (x := x) (by decide) (by decide +kernel) rfl rfl hn
theorem e264_71 : rf d 264 71 ls s h = rf d 264 42 ls s h := rf_goto ⟨okD_ok (i := .goto (-29)) (len := 3) (by decide +kernel), rfl⟩
theorem e264_74 : rf d 264 74 [l0, l1, some (.int x), l3] s h = rf d 264 75 [l0, l1, some (.int x), l3] (.int x :: s) h := rf_pure (i := .iload_n 2) (len := 1) (okD_ok (by decide +kernel)) rfl
theorem e264_75 : rf d 264 75 ls [.int x] h = some (.inl (some (.int x)), h) := g_ri (by decide +kernel) rt264
theorem en265 : cf d 265 [.ref a, .int x0, .int x1] h = rf d 265 0 [some (.ref a), some (.int x0), some (.int x1)] [] h := rfl
theorem e265_0 : rf d 265 0 [some (.ref a), l1, l2] s h = rf d 265 1 [some (.ref a), l1, l2] (.ref a :: s) h := rf_pure (i := .aload_n 0) (len := 1) (okD_ok (by decide +kernel)) rfl
theorem e265_1 : rf d 265 1 [some (.ref a), l1, l2] s h = rf d 265 2 [some (.ref a), l1, l2] (.ref a :: s) h := rf_pure (i := .aload_n 0) (len := 1) (okD_ok (by decide +kernel)) rfl
theorem e265_2 : rf d 265 2 [l0, some (.int x), l2] s h = rf d 265 3 [l0, some (.int x), l2] (.int x :: s) h := rf_pure (i := .iload_n 1) (len := 1) (okD_ok (by decide +kernel)) rfl
theorem e265_3 (hcat : ip_cat s ≤ 8) : rf (d + 1) 265 3 ls (.int x0 :: .ref 265 :: s) (SH n, I, L, R, nc, ns, nx) = rf_k (d + 1) 265 3 ls s (cf d 244 [.ref 265, .int x0] (SH n, I, L, R, nc, ns, nx)) := g_cv (idx := 401) (t := 8) [.int x0] (by decide +kernel) ow265 ms_8_401 mt_8_401 cy244_8 rfl rfl mL244 rfl rfl (by decide) hcat
theorem e265_6 : rf d 265 6 ls (.int x :: s) h = if ¬ x = 0 then rf d 265 13 ls s h else rf d 265 9 ls s h := g_if (c := .ne) (off := 7) _ (by decide +kernel) rfl cmp_d
theorem e265_9 : rf d 265 9 ls s h = rf d 265 10 ls (.int 1 :: s) h := rf_pure (i := .iconst (1)) (len := 1) (okD_ok (by decide +kernel)) rfl
theorem e265_10 : rf d 265 10 ls s h = rf d 265 28 ls s h := rf_goto ⟨okD_ok (i := .goto (18)) (len := 3) (by decide +kernel), rfl⟩
theorem e265_13 : rf d 265 13 [l0, l1, some (.int x)] s h = rf d 265 14 [l0, l1, some (.int x)] (.int x :: s) h := rf_pure (i := .iload_n 2) (len := 1) (okD_ok (by decide +kernel)) rfl
theorem e265_14 : rf d 265 14 ls s h = rf d 265 15 ls (.int 0 :: s) h := rf_pure (i := .iconst (0)) (len := 1) (okD_ok (by decide +kernel)) rfl
theorem e265_15 : rf d 265 15 ls s h = rf d 265 17 ls (.int 14 :: s) h := rf_pure (i := .bipush (14)) (len := 2) (okD_ok (by decide +kernel)) rfl
theorem e265_17 (hcat : ip_cat s ≤ 8) : rf (d + 1) 265 17 ls (.int x2 :: .int x1 :: .int x0 :: s) h = rf_k (d + 1) 265 17 ls s (cf d 217 [.int x0, .int x1, .int x2] h) := g_cs (idx := 315) [.int x2, .int x1, .int x0] (by decide +kernel) ow265 ms_8_315 mt_8_315 (by decide) rfl mL217 rfl hcat
theorem e265_20 : rf d 265 20 ls (.int x :: s) h = if ¬ x = 0 then rf d 265 27 ls s h else rf d 265 23 ls s h := g_if (c := .ne) (off := 7) _ (by decide +kernel) rfl cmp_d
theorem e265_23 : rf d 265 23 ls s h = rf d 265 24 ls (.int 2 :: s) h := rf_pure (i := .iconst (2)) (len := 1) (okD_ok (by decide +kernel)) rfl
theorem e265_24 : rf d 265 24 ls s h = rf d 265 28 ls s h := rf_goto ⟨okD_ok (i := .goto (4)) (len := 3) (by decide +kernel), rfl⟩
theorem e265_27 : rf d 265 27 ls s h = rf d 265 28 ls (.int 0 :: s) h := rf_pure (i := .iconst (0)) (len := 1) (okD_ok (by decide +kernel)) rfl
theorem e265_28 : rf d 265 28 ls (.int x :: .ref 265 :: s) (SH n, I, L, R, nc, ns, nx) = rf d 265 31 ls s (SH n, ip_up I 265 0 x, L, R, nc, ns, nx) := g_pI (idx := 142) (by decide +kernel) ow265 f_8_142 rfl (by decide +kernel) rfl (by decide)
theorem e265_31 : rf d 265 31 [some (.ref a), l1, l2] s h = rf d 265 32 [some (.ref a), l1, l2] (.ref a :: s) h := rf_pure (i := .aload_n 0) (len := 1) (okD_ok (by decide +kernel)) rfl
theorem e265_32 : rf d 265 32 ls (.ref 265 :: s) (SH n, I, L, R, nc, ns, nx) = rf d 265 35 ls (.int (I 265 0) :: s) (SH n, I, L, R, nc, ns, nx) := g_I (idx := 142) (by decide +kernel) ow265 f_8_142 rfl rfl (by decide)
theorem e265_35 : rf d 265 35 ls (.int x :: s) h = if x ≤ 0 then rf d 265 40 ls s h else rf d 265 38 ls s h := g_if (c := .le) (off := 5) _ (by decide +kernel) rfl cmp_d
theorem e265_38 : rf d 265 38 ls s h = rf d 265 39 ls (.int 0 :: s) h := rf_pure (i := .iconst (0)) (len := 1) (okD_ok (by decide +kernel)) rfl
theorem e265_39 : rf d 265 39 ls [.int x] h = some (.inl (some (.int x)), h) := g_ri (by decide +kernel) rt265
theorem e265_40 : rf d 265 40 [l0, l1, some (.int x)] s h = rf d 265 41 [l0, l1, some (.int x)] (.int x :: s) h := rf_pure (i := .iload_n 2) (len := 1) (okD_ok (by decide +kernel)) rfl
theorem e265_112 : rf d 265 112 [some (.ref a), l1, l2] s h = rf d 265 113 [some (.ref a), l1, l2] (.ref a :: s) h := rf_pure (i := .aload_n 0) (len := 1) (okD_ok (by decide +kernel)) rfl
theorem e265_113 (hR : LYR R) : rf d 265 113 ls (.ref 265 :: s) (SH n, I, L, R, nc, ns, nx) = rf d 265 116 ls (.ref 289 :: s) (SH n, I, L, R, nc, ns, nx) := g_R (idx := 85) (by decide +kernel) ow265 f_8_85 rfl rfl (by decide) (ly_265_39 hR)
theorem e265_116 : rf d 265 116 [l0, some (.int x), l2] s h = rf d 265 117 [l0, some (.int x), l2] (.int x :: s) h := rf_pure (i := .iload_n 1) (len := 1) (okD_ok (by decide +kernel)) rfl
theorem e265_117 (q : ia n a j) : rf d 265 117 ls (.int j :: .ref a :: s) (SH n, I, L, R, nc, ns, nx) = rf d 265 118 ls (.int (I a j.toNatClampNeg) :: s) (SH n, I, L, R, nc, ns, nx) := g_ial (by decide +kernel) q
theorem e265_118 : rf d 265 118 ls [.int x] h = some (.inl (some (.int x)), h) := g_ri (by decide +kernel) rt265
theorem e265_119 : rf d 265 119 [some (.ref a), l1, l2] s h = rf d 265 120 [some (.ref a), l1, l2] (.ref a :: s) h := rf_pure (i := .aload_n 0) (len := 1) (okD_ok (by decide +kernel)) rfl
theorem e265_120 (hR : LYR R) : rf d 265 120 ls (.ref 265 :: s) (SH n, I, L, R, nc, ns, nx) = rf d 265 123 ls (.ref 290 :: s) (SH n, I, L, R, nc, ns, nx) := g_R (idx := 88) (by decide +kernel) ow265 f_8_88 rfl rfl (by decide) (ly_265_40 hR)
theorem e265_123 : rf d 265 123 [l0, some (.int x), l2] s h = rf d 265 124 [l0, some (.int x), l2] (.int x :: s) h := rf_pure (i := .iload_n 1) (len := 1) (okD_ok (by decide +kernel)) rfl
theorem e265_124 (q : ia n a j) : rf d 265 124 ls (.int j :: .ref a :: s) (SH n, I, L, R, nc, ns, nx) = rf d 265 125 ls (.int (I a j.toNatClampNeg) :: s) (SH n, I, L, R, nc, ns, nx) := g_ial (by decide +kernel) q
theorem e265_125 : rf d 265 125 ls [.int x] h = some (.inl (some (.int x)), h) := g_ri (by decide +kernel) rt265
theorem e265_126 : rf d 265 126 [some (.ref a), l1, l2] s h = rf d 265 127 [some (.ref a), l1, l2] (.ref a :: s) h := rf_pure (i := .aload_n 0) (len := 1) (okD_ok (by decide +kernel)) rfl
theorem e265_127 (hR : LYR R) : rf d 265 127 ls (.ref 265 :: s) (SH n, I, L, R, nc, ns, nx) = rf d 265 130 ls (.ref 291 :: s) (SH n, I, L, R, nc, ns, nx) := g_R (idx := 91) (by decide +kernel) ow265 f_8_91 rfl rfl (by decide) (ly_265_41 hR)
theorem e265_130 : rf d 265 130 [l0, some (.int x), l2] s h = rf d 265 131 [l0, some (.int x), l2] (.int x :: s) h := rf_pure (i := .iload_n 1) (len := 1) (okD_ok (by decide +kernel)) rfl
theorem e265_131 (q : ia n a j) : rf d 265 131 ls (.int j :: .ref a :: s) (SH n, I, L, R, nc, ns, nx) = rf d 265 132 ls (.int (I a j.toNatClampNeg) :: s) (SH n, I, L, R, nc, ns, nx) := g_ial (by decide +kernel) q
theorem e265_132 : rf d 265 132 ls [.int x] h = some (.inl (some (.int x)), h) := g_ri (by decide +kernel) rt265
theorem e265_133 : rf d 265 133 [some (.ref a), l1, l2] s h = rf d 265 134 [some (.ref a), l1, l2] (.ref a :: s) h := rf_pure (i := .aload_n 0) (len := 1) (okD_ok (by decide +kernel)) rfl
theorem e265_134 (hR : LYR R) : rf d 265 134 ls (.ref 265 :: s) (SH n, I, L, R, nc, ns, nx) = rf d 265 137 ls (.ref 292 :: s) (SH n, I, L, R, nc, ns, nx) := g_R (idx := 94) (by decide +kernel) ow265 f_8_94 rfl rfl (by decide) (ly_265_42 hR)
theorem e265_137 : rf d 265 137 [l0, some (.int x), l2] s h = rf d 265 138 [l0, some (.int x), l2] (.int x :: s) h := rf_pure (i := .iload_n 1) (len := 1) (okD_ok (by decide +kernel)) rfl
theorem e265_138 (q : ia n a j) : rf d 265 138 ls (.int j :: .ref a :: s) (SH n, I, L, R, nc, ns, nx) = rf d 265 139 ls (.int (I a j.toNatClampNeg) :: s) (SH n, I, L, R, nc, ns, nx) := g_ial (by decide +kernel) q
theorem e265_139 : rf d 265 139 ls [.int x] h = some (.inl (some (.int x)), h) := g_ri (by decide +kernel) rt265
theorem e265_140 : rf d 265 140 [some (.ref a), l1, l2] s h = rf d 265 141 [some (.ref a), l1, l2] (.ref a :: s) h := rf_pure (i := .aload_n 0) (len := 1) (okD_ok (by decide +kernel)) rfl
theorem e265_141 (hR : LYR R) : rf d 265 141 ls (.ref 265 :: s) (SH n, I, L, R, nc, ns, nx) = rf d 265 144 ls (.ref 293 :: s) (SH n, I, L, R, nc, ns, nx) := g_R (idx := 97) (by decide +kernel) ow265 f_8_97 rfl rfl (by decide) (ly_265_43 hR)
theorem e265_144 : rf d 265 144 [l0, some (.int x), l2] s h = rf d 265 145 [l0, some (.int x), l2] (.int x :: s) h := rf_pure (i := .iload_n 1) (len := 1) (okD_ok (by decide +kernel)) rfl
theorem e265_145 (q : ia n a j) : rf d 265 145 ls (.int j :: .ref a :: s) (SH n, I, L, R, nc, ns, nx) = rf d 265 146 ls (.int (I a j.toNatClampNeg) :: s) (SH n, I, L, R, nc, ns, nx) := g_ial (by decide +kernel) q
theorem e265_146 : rf d 265 146 ls [.int x] h = some (.inl (some (.int x)), h) := g_ri (by decide +kernel) rt265
theorem e265_147 : rf d 265 147 [some (.ref a), l1, l2] s h = rf d 265 148 [some (.ref a), l1, l2] (.ref a :: s) h := rf_pure (i := .aload_n 0) (len := 1) (okD_ok (by decide +kernel)) rfl
theorem e265_148 (hR : LYR R) : rf d 265 148 ls (.ref 265 :: s) (SH n, I, L, R, nc, ns, nx) = rf d 265 151 ls (.ref 294 :: s) (SH n, I, L, R, nc, ns, nx) := g_R (idx := 100) (by decide +kernel) ow265 f_8_100 rfl rfl (by decide) (ly_265_44 hR)
theorem e265_151 : rf d 265 151 [l0, some (.int x), l2] s h = rf d 265 152 [l0, some (.int x), l2] (.int x :: s) h := rf_pure (i := .iload_n 1) (len := 1) (okD_ok (by decide +kernel)) rfl
theorem e265_152 (q : ia n a j) : rf d 265 152 ls (.int j :: .ref a :: s) (SH n, I, L, R, nc, ns, nx) = rf d 265 153 ls (.int (I a j.toNatClampNeg) :: s) (SH n, I, L, R, nc, ns, nx) := g_ial (by decide +kernel) q
theorem e265_153 : rf d 265 153 ls [.int x] h = some (.inl (some (.int x)), h) := g_ri (by decide +kernel) rt265
theorem e265_154 : rf d 265 154 [some (.ref a), l1, l2] s h = rf d 265 155 [some (.ref a), l1, l2] (.ref a :: s) h := rf_pure (i := .aload_n 0) (len := 1) (okD_ok (by decide +kernel)) rfl
theorem e265_155 (hR : LYR R) : rf d 265 155 ls (.ref 265 :: s) (SH n, I, L, R, nc, ns, nx) = rf d 265 158 ls (.ref 295 :: s) (SH n, I, L, R, nc, ns, nx) := g_R (idx := 103) (by decide +kernel) ow265 f_8_103 rfl rfl (by decide) (ly_265_45 hR)
theorem e265_158 : rf d 265 158 [l0, some (.int x), l2] s h = rf d 265 159 [l0, some (.int x), l2] (.int x :: s) h := rf_pure (i := .iload_n 1) (len := 1) (okD_ok (by decide +kernel)) rfl
theorem e265_159 (q : ia n a j) : rf d 265 159 ls (.int j :: .ref a :: s) (SH n, I, L, R, nc, ns, nx) = rf d 265 160 ls (.int (I a j.toNatClampNeg) :: s) (SH n, I, L, R, nc, ns, nx) := g_ial (by decide +kernel) q
theorem e265_160 : rf d 265 160 ls [.int x] h = some (.inl (some (.int x)), h) := g_ri (by decide +kernel) rt265
theorem e265_161 : rf d 265 161 [some (.ref a), l1, l2] s h = rf d 265 162 [some (.ref a), l1, l2] (.ref a :: s) h := rf_pure (i := .aload_n 0) (len := 1) (okD_ok (by decide +kernel)) rfl
theorem e265_162 : rf d 265 162 [some (.ref a), l1, l2] s h = rf d 265 163 [some (.ref a), l1, l2] (.ref a :: s) h := rf_pure (i := .aload_n 0) (len := 1) (okD_ok (by decide +kernel)) rfl
theorem e265_163 (hR : LYR R) : rf d 265 163 ls (.ref 265 :: s) (SH n, I, L, R, nc, ns, nx) = rf d 265 166 ls (.ref 296 :: s) (SH n, I, L, R, nc, ns, nx) := g_R (idx := 106) (by decide +kernel) ow265 f_8_106 rfl rfl (by decide) (ly_265_46 hR)
theorem e265_166 : rf d 265 166 [l0, some (.int x), l2] s h = rf d 265 167 [l0, some (.int x), l2] (.int x :: s) h := rf_pure (i := .iload_n 1) (len := 1) (okD_ok (by decide +kernel)) rfl
theorem e265_167 (q : ia n a j) : rf d 265 167 ls (.int j :: .ref a :: s) (SH n, I, L, R, nc, ns, nx) = rf d 265 168 ls (.int (I a j.toNatClampNeg) :: s) (SH n, I, L, R, nc, ns, nx) := g_ial (by decide +kernel) q
theorem e265_168 : rf d 265 168 [some (.ref a), l1, l2] s h = rf d 265 169 [some (.ref a), l1, l2] (.ref a :: s) h := rf_pure (i := .aload_n 0) (len := 1) (okD_ok (by decide +kernel)) rfl
theorem e265_169 (hR : LYR R) : rf d 265 169 ls (.ref 265 :: s) (SH n, I, L, R, nc, ns, nx) = rf d 265 172 ls (.ref 293 :: s) (SH n, I, L, R, nc, ns, nx) := g_R (idx := 97) (by decide +kernel) ow265 f_8_97 rfl rfl (by decide) (ly_265_43 hR)
theorem e265_172 : rf d 265 172 [l0, some (.int x), l2] s h = rf d 265 173 [l0, some (.int x), l2] (.int x :: s) h := rf_pure (i := .iload_n 1) (len := 1) (okD_ok (by decide +kernel)) rfl
theorem e265_173 (q : ia n a j) : rf d 265 173 ls (.int j :: .ref a :: s) (SH n, I, L, R, nc, ns, nx) = rf d 265 174 ls (.int (I a j.toNatClampNeg) :: s) (SH n, I, L, R, nc, ns, nx) := g_ial (by decide +kernel) q
theorem e265_174 (hcat : ip_cat s ≤ 8) : rf (d + 1) 265 174 ls (.int x1 :: .int x0 :: .ref 265 :: s) (SH n, I, L, R, nc, ns, nx) = rf_k (d + 1) 265 174 ls s (cf d 234 [.ref 265, .int x0, .int x1] (SH n, I, L, R, nc, ns, nx)) := g_cv (idx := 339) (t := 8) [.int x1, .int x0] (by decide +kernel) ow265 ms_8_339 mt_8_339 cy234_8 rfl rfl mL234 rfl rfl (by decide) hcat
theorem e265_177 : rf d 265 177 ls [.int x] h = some (.inl (some (.int x)), h) := g_ri (by decide +kernel) rt265
theorem e265_178 : rf d 265 178 [some (.ref a), l1, l2] s h = rf d 265 179 [some (.ref a), l1, l2] (.ref a :: s) h := rf_pure (i := .aload_n 0) (len := 1) (okD_ok (by decide +kernel)) rfl
theorem e265_179 (hR : LYR R) : rf d 265 179 ls (.ref 265 :: s) (SH n, I, L, R, nc, ns, nx) = rf d 265 182 ls (.ref 297 :: s) (SH n, I, L, R, nc, ns, nx) := g_R (idx := 109) (by decide +kernel) ow265 f_8_109 rfl rfl (by decide) (ly_265_47 hR)
theorem e265_182 : rf d 265 182 [l0, some (.int x), l2] s h = rf d 265 183 [l0, some (.int x), l2] (.int x :: s) h := rf_pure (i := .iload_n 1) (len := 1) (okD_ok (by decide +kernel)) rfl
theorem e265_183 (q : ia n a j) : rf d 265 183 ls (.int j :: .ref a :: s) (SH n, I, L, R, nc, ns, nx) = rf d 265 184 ls (.int (I a j.toNatClampNeg) :: s) (SH n, I, L, R, nc, ns, nx) := g_ial (by decide +kernel) q
theorem e265_184 : rf d 265 184 ls [.int x] h = some (.inl (some (.int x)), h) := g_ri (by decide +kernel) rt265
theorem e265_185 : rf d 265 185 [some (.ref a), l1, l2] s h = rf d 265 186 [some (.ref a), l1, l2] (.ref a :: s) h := rf_pure (i := .aload_n 0) (len := 1) (okD_ok (by decide +kernel)) rfl
theorem e265_186 (hR : LYR R) : rf d 265 186 ls (.ref 265 :: s) (SH n, I, L, R, nc, ns, nx) = rf d 265 189 ls (.ref 298 :: s) (SH n, I, L, R, nc, ns, nx) := g_R (idx := 112) (by decide +kernel) ow265 f_8_112 rfl rfl (by decide) (ly_265_48 hR)
theorem e265_189 : rf d 265 189 [l0, some (.int x), l2] s h = rf d 265 190 [l0, some (.int x), l2] (.int x :: s) h := rf_pure (i := .iload_n 1) (len := 1) (okD_ok (by decide +kernel)) rfl
theorem e265_190 (q : ia n a j) : rf d 265 190 ls (.int j :: .ref a :: s) (SH n, I, L, R, nc, ns, nx) = rf d 265 191 ls (.int (I a j.toNatClampNeg) :: s) (SH n, I, L, R, nc, ns, nx) := g_ial (by decide +kernel) q
theorem e265_191 : rf d 265 191 ls [.int x] h = some (.inl (some (.int x)), h) := g_ri (by decide +kernel) rt265
theorem e265_192 : rf d 265 192 [some (.ref a), l1, l2] s h = rf d 265 193 [some (.ref a), l1, l2] (.ref a :: s) h := rf_pure (i := .aload_n 0) (len := 1) (okD_ok (by decide +kernel)) rfl
theorem e265_193 (hR : LYR R) : rf d 265 193 ls (.ref 265 :: s) (SH n, I, L, R, nc, ns, nx) = rf d 265 196 ls (.ref 300 :: s) (SH n, I, L, R, nc, ns, nx) := g_R (idx := 118) (by decide +kernel) ow265 f_8_118 rfl rfl (by decide) (ly_265_50 hR)
theorem e265_196 : rf d 265 196 ls s h = rf d 265 197 ls (.int 2 :: s) h := rf_pure (i := .iconst (2)) (len := 1) (okD_ok (by decide +kernel)) rfl
theorem e265_197 : rf d 265 197 [l0, some (.int x), l2] s h = rf d 265 198 [l0, some (.int x), l2] (.int x :: s) h := rf_pure (i := .iload_n 1) (len := 1) (okD_ok (by decide +kernel)) rfl
theorem e265_198 : rf d 265 198 ls (.int y :: .int x :: s) h = rf d 265 199 ls (.int (x * y) :: s) h := rf_pure (i := .imul) (len := 1) (okD_ok (by decide +kernel)) rfl
theorem e265_199 (q : ia n a j) : rf d 265 199 ls (.int j :: .ref a :: s) (SH n, I, L, R, nc, ns, nx) = rf d 265 200 ls (.int (I a j.toNatClampNeg) :: s) (SH n, I, L, R, nc, ns, nx) := g_ial (by decide +kernel) q
theorem e265_200 : rf d 265 200 ls [.int x] h = some (.inl (some (.int x)), h) := g_ri (by decide +kernel) rt265
theorem e265_201 : rf d 265 201 [some (.ref a), l1, l2] s h = rf d 265 202 [some (.ref a), l1, l2] (.ref a :: s) h := rf_pure (i := .aload_n 0) (len := 1) (okD_ok (by decide +kernel)) rfl
theorem e265_202 (hR : LYR R) : rf d 265 202 ls (.ref 265 :: s) (SH n, I, L, R, nc, ns, nx) = rf d 265 205 ls (.ref 300 :: s) (SH n, I, L, R, nc, ns, nx) := g_R (idx := 118) (by decide +kernel) ow265 f_8_118 rfl rfl (by decide) (ly_265_50 hR)
theorem e265_205 : rf d 265 205 ls s h = rf d 265 206 ls (.int 2 :: s) h := rf_pure (i := .iconst (2)) (len := 1) (okD_ok (by decide +kernel)) rfl
theorem e265_206 : rf d 265 206 [l0, some (.int x), l2] s h = rf d 265 207 [l0, some (.int x), l2] (.int x :: s) h := rf_pure (i := .iload_n 1) (len := 1) (okD_ok (by decide +kernel)) rfl
theorem e265_207 : rf d 265 207 ls (.int y :: .int x :: s) h = rf d 265 208 ls (.int (x * y) :: s) h := rf_pure (i := .imul) (len := 1) (okD_ok (by decide +kernel)) rfl
theorem e265_208 : rf d 265 208 ls s h = rf d 265 209 ls (.int 1 :: s) h := rf_pure (i := .iconst (1)) (len := 1) (okD_ok (by decide +kernel)) rfl
theorem e265_209 : rf d 265 209 ls (.int y :: .int x :: s) h = rf d 265 210 ls (.int (x + y) :: s) h := rf_pure (i := .iadd) (len := 1) (okD_ok (by decide +kernel)) rfl
theorem e265_210 (q : ia n a j) : rf d 265 210 ls (.int j :: .ref a :: s) (SH n, I, L, R, nc, ns, nx) = rf d 265 211 ls (.int (I a j.toNatClampNeg) :: s) (SH n, I, L, R, nc, ns, nx) := g_ial (by decide +kernel) q
theorem e265_211 : rf d 265 211 ls [.int x] h = some (.inl (some (.int x)), h) := g_ri (by decide +kernel) rt265
theorem e265_212 : rf d 265 212 [some (.ref a), l1, l2] s h = rf d 265 213 [some (.ref a), l1, l2] (.ref a :: s) h := rf_pure (i := .aload_n 0) (len := 1) (okD_ok (by decide +kernel)) rfl
theorem e265_213 (hR : LYR R) : rf d 265 213 ls (.ref 265 :: s) (SH n, I, L, R, nc, ns, nx) = rf d 265 216 ls (.ref 301 :: s) (SH n, I, L, R, nc, ns, nx) := g_R (idx := 121) (by decide +kernel) ow265 f_8_121 rfl rfl (by decide) (ly_265_51 hR)
theorem e265_216 : rf d 265 216 ls s h = rf d 265 217 ls (.int 2 :: s) h := rf_pure (i := .iconst (2)) (len := 1) (okD_ok (by decide +kernel)) rfl
theorem e265_217 : rf d 265 217 [l0, some (.int x), l2] s h = rf d 265 218 [l0, some (.int x), l2] (.int x :: s) h := rf_pure (i := .iload_n 1) (len := 1) (okD_ok (by decide +kernel)) rfl
theorem e265_218 : rf d 265 218 ls (.int y :: .int x :: s) h = rf d 265 219 ls (.int (x * y) :: s) h := rf_pure (i := .imul) (len := 1) (okD_ok (by decide +kernel)) rfl
theorem e265_219 (q : ia n a j) : rf d 265 219 ls (.int j :: .ref a :: s) (SH n, I, L, R, nc, ns, nx) = rf d 265 220 ls (.int (I a j.toNatClampNeg) :: s) (SH n, I, L, R, nc, ns, nx) := g_ial (by decide +kernel) q
theorem e265_220 : rf d 265 220 ls [.int x] h = some (.inl (some (.int x)), h) := g_ri (by decide +kernel) rt265
theorem e265_221 : rf d 265 221 [some (.ref a), l1, l2] s h = rf d 265 222 [some (.ref a), l1, l2] (.ref a :: s) h := rf_pure (i := .aload_n 0) (len := 1) (okD_ok (by decide +kernel)) rfl
theorem e265_222 (hR : LYR R) : rf d 265 222 ls (.ref 265 :: s) (SH n, I, L, R, nc, ns, nx) = rf d 265 225 ls (.ref 301 :: s) (SH n, I, L, R, nc, ns, nx) := g_R (idx := 121) (by decide +kernel) ow265 f_8_121 rfl rfl (by decide) (ly_265_51 hR)
theorem e265_225 : rf d 265 225 ls s h = rf d 265 226 ls (.int 2 :: s) h := rf_pure (i := .iconst (2)) (len := 1) (okD_ok (by decide +kernel)) rfl
theorem e265_226 : rf d 265 226 [l0, some (.int x), l2] s h = rf d 265 227 [l0, some (.int x), l2] (.int x :: s) h := rf_pure (i := .iload_n 1) (len := 1) (okD_ok (by decide +kernel)) rfl
theorem e265_227 : rf d 265 227 ls (.int y :: .int x :: s) h = rf d 265 228 ls (.int (x * y) :: s) h := rf_pure (i := .imul) (len := 1) (okD_ok (by decide +kernel)) rfl
theorem e265_228 : rf d 265 228 ls s h = rf d 265 229 ls (.int 1 :: s) h := rf_pure (i := .iconst (1)) (len := 1) (okD_ok (by decide +kernel)) rfl
theorem e265_229 : rf d 265 229 ls (.int y :: .int x :: s) h = rf d 265 230 ls (.int (x + y) :: s) h := rf_pure (i := .iadd) (len := 1) (okD_ok (by decide +kernel)) rfl
theorem e265_230 (q : ia n a j) : rf d 265 230 ls (.int j :: .ref a :: s) (SH n, I, L, R, nc, ns, nx) = rf d 265 231 ls (.int (I a j.toNatClampNeg) :: s) (SH n, I, L, R, nc, ns, nx) := g_ial (by decide +kernel) q
theorem e265_231 : rf d 265 231 ls [.int x] h = some (.inl (some (.int x)), h) := g_ri (by decide +kernel) rt265
theorem e265_232 : rf d 265 232 [some (.ref a), l1, l2] s h = rf d 265 233 [some (.ref a), l1, l2] (.ref a :: s) h := rf_pure (i := .aload_n 0) (len := 1) (okD_ok (by decide +kernel)) rfl
theorem e265_233 : rf d 265 233 [l0, some (.int x), l2] s h = rf d 265 234 [l0, some (.int x), l2] (.int x :: s) h := rf_pure (i := .iload_n 1) (len := 1) (okD_ok (by decide +kernel)) rfl
theorem e265_234 (hcat : ip_cat s ≤ 8) : rf (d + 1) 265 234 ls (.int x0 :: .ref 265 :: s) (SH n, I, L, R, nc, ns, nx) = rf_k (d + 1) 265 234 ls s (cf d 266 [.ref 265, .int x0] (SH n, I, L, R, nc, ns, nx)) := g_cv (idx := 441) (t := 8) [.int x0] (by decide +kernel) ow265 ms_8_441 mt_8_441 cy266_8 rfl rfl mL266 rfl rfl (by decide) hcat
theorem e265_237 : rf d 265 237 ls [.int x] h = some (.inl (some (.int x)), h) := g_ri (by decide +kernel) rt265
theorem en266 : cf d 266 [.ref a, .int x0] h = rf d 266 0 [some (.ref a), some (.int x0), none, none] [] h := rfl
theorem e266_0 : rf d 266 0 ls s h = rf d 266 1 ls (.int 0 :: s) h := rf_pure (i := .iconst (0)) (len := 1) (okD_ok (by decide +kernel)) rfl
theorem e266_1 (hn : ip_nl l1 = true) : rf d 266 1 [l0, l1, l2, l3] (.int x :: s) h = rf d 266 2 [l0, l1, some (.int x), l3] s h := g_sti (i := .istore_n 2) (len := 1) (q := 1) (p := 1) (by decide +kernel) rfl rfl hn
theorem e266_2 : rf d 266 2 [l0, some (.int x), l2, l3] s h = rf d 266 3 [l0, some (.int x), l2, l3] (.int x :: s) h := rf_pure (i := .iload_n 1) (len := 1) (okD_ok (by decide +kernel)) rfl
theorem e266_3 (hn : ip_nl l2 = true) : rf d 266 3 [l0, l1, l2, l3] (.int x :: s) h = rf d 266 4 [l0, l1, l2, some (.int x)] s h := g_sti (i := .istore_n 3) (len := 1) (q := 2) (p := 1) (by decide +kernel) rfl rfl hn
theorem e266_4 : rf d 266 4 [l0, l1, l2, some (.int x)] s h = rf d 266 5 [l0, l1, l2, some (.int x)] (.int x :: s) h := rf_pure (i := .iload_n 3) (len := 1) (okD_ok (by decide +kernel)) rfl
theorem e266_5 : rf d 266 5 ls s h = rf d 266 6 ls (.int (-1) :: s) h := rf_pure (i := .iconst (-1)) (len := 1) (okD_ok (by decide +kernel)) rfl
theorem e266_6 : rf d 266 6 ls (.int y :: .int x :: s) h = if x = y then rf d 266 36 ls s h else rf d 266 9 ls s h := g_ic (c := .eq) (off := 30) _ (by decide +kernel) rfl cmp_d
theorem e266_9 : rf d 266 9 [l0, l1, some (.int x), l3] s h = rf d 266 10 [l0, l1, some (.int x), l3] (.int x :: s) h := rf_pure (i := .iload_n 2) (len := 1) (okD_ok (by decide +kernel)) rfl
theorem e266_10 : rf d 266 10 [some (.ref a), l1, l2, l3] s h = rf d 266 11 [some (.ref a), l1, l2, l3] (.ref a :: s) h := rf_pure (i := .aload_n 0) (len := 1) (okD_ok (by decide +kernel)) rfl
theorem e266_11 (hR : LYR R) : rf d 266 11 ls (.ref 265 :: s) (SH n, I, L, R, nc, ns, nx) = rf d 266 14 ls (.ref 289 :: s) (SH n, I, L, R, nc, ns, nx) := g_R (idx := 85) (by decide +kernel) ow266 f_8_85 rfl rfl (by decide) (ly_265_39 hR)
theorem e266_14 : rf d 266 14 [l0, l1, l2, some (.int x)] s h = rf d 266 15 [l0, l1, l2, some (.int x)] (.int x :: s) h := rf_pure (i := .iload_n 3) (len := 1) (okD_ok (by decide +kernel)) rfl
theorem e266_15 (q : ia n a j) : rf d 266 15 ls (.int j :: .ref a :: s) (SH n, I, L, R, nc, ns, nx) = rf d 266 16 ls (.int (I a j.toNatClampNeg) :: s) (SH n, I, L, R, nc, ns, nx) := g_ial (by decide +kernel) q
theorem e266_16 : rf d 266 16 ls (.int x :: s) h = if ¬ x = 0 then rf d 266 23 ls s h else rf d 266 19 ls s h := g_if (c := .ne) (off := 7) _ (by decide +kernel) rfl cmp_d
theorem e266_19 : rf d 266 19 ls s h = rf d 266 20 ls (.int 1 :: s) h := rf_pure (i := .iconst (1)) (len := 1) (okD_ok (by decide +kernel)) rfl
theorem e266_20 : rf d 266 20 ls s h = rf d 266 24 ls s h := rf_goto ⟨okD_ok (i := .goto (4)) (len := 3) (by decide +kernel), rfl⟩
theorem e266_23 : rf d 266 23 ls s h = rf d 266 24 ls (.int 0 :: s) h := rf_pure (i := .iconst (0)) (len := 1) (okD_ok (by decide +kernel)) rfl
theorem e266_24 : rf d 266 24 ls (.int y :: .int x :: s) h = rf d 266 25 ls (.int (x + y) :: s) h := rf_pure (i := .iadd) (len := 1) (okD_ok (by decide +kernel)) rfl
theorem e266_25 (hn : ip_nl l1 = true) : rf d 266 25 [l0, l1, l2, l3] (.int x :: s) h = rf d 266 26 [l0, l1, some (.int x), l3] s h := g_sti (i := .istore_n 2) (len := 1) (q := 1) (p := 1) (by decide +kernel) rfl rfl hn
theorem e266_26 : rf d 266 26 [some (.ref a), l1, l2, l3] s h = rf d 266 27 [some (.ref a), l1, l2, l3] (.ref a :: s) h := rf_pure (i := .aload_n 0) (len := 1) (okD_ok (by decide +kernel)) rfl
theorem e266_27 (hR : LYR R) : rf d 266 27 ls (.ref 265 :: s) (SH n, I, L, R, nc, ns, nx) = rf d 266 30 ls (.ref 290 :: s) (SH n, I, L, R, nc, ns, nx) := g_R (idx := 88) (by decide +kernel) ow266 f_8_88 rfl rfl (by decide) (ly_265_40 hR)
theorem e266_30 : rf d 266 30 [l0, l1, l2, some (.int x)] s h = rf d 266 31 [l0, l1, l2, some (.int x)] (.int x :: s) h := rf_pure (i := .iload_n 3) (len := 1) (okD_ok (by decide +kernel)) rfl
theorem e266_31 (q : ia n a j) : rf d 266 31 ls (.int j :: .ref a :: s) (SH n, I, L, R, nc, ns, nx) = rf d 266 32 ls (.int (I a j.toNatClampNeg) :: s) (SH n, I, L, R, nc, ns, nx) := g_ial (by decide +kernel) q
theorem e266_32 (hn : ip_nl l2 = true) : rf d 266 32 [l0, l1, l2, l3] (.int x :: s) h = rf d 266 33 [l0, l1, l2, some (.int x)] s h := g_sti (i := .istore_n 3) (len := 1) (q := 2) (p := 1) (by decide +kernel) rfl rfl hn
theorem e266_33 : rf d 266 33 ls s h = rf d 266 4 ls s h := rf_goto ⟨okD_ok (i := .goto (-29)) (len := 3) (by decide +kernel), rfl⟩
theorem e266_36 : rf d 266 36 [l0, l1, some (.int x), l3] s h = rf d 266 37 [l0, l1, some (.int x), l3] (.int x :: s) h := rf_pure (i := .iload_n 2) (len := 1) (okD_ok (by decide +kernel)) rfl
theorem e266_37 : rf d 266 37 ls [.int x] h = some (.inl (some (.int x)), h) := g_ri (by decide +kernel) rt266
theorem en267 : cf d 267 [.ref a, .int x0, .int x1, .int x2] h = rf d 267 0 [some (.ref a), some (.int x0), some (.int x1), some (.int x2), none] [] h := rfl
theorem e267_0 : rf d 267 0 [some (.ref a), l1, l2, l3, l4] s h = rf d 267 1 [some (.ref a), l1, l2, l3, l4] (.ref a :: s) h := rf_pure (i := .aload_n 0) (len := 1) (okD_ok (by decide +kernel)) rfl
theorem e267_1 : rf d 267 1 [some (.ref a), l1, l2, l3, l4] s h = rf d 267 2 [some (.ref a), l1, l2, l3, l4] (.ref a :: s) h := rf_pure (i := .aload_n 0) (len := 1) (okD_ok (by decide +kernel)) rfl
theorem e267_2 : rf d 267 2 [l0, some (.int x), l2, l3, l4] s h = rf d 267 3 [l0, some (.int x), l2, l3, l4] (.int x :: s) h := rf_pure (i := .iload_n 1) (len := 1) (okD_ok (by decide +kernel)) rfl
theorem e267_3 (hcat : ip_cat s ≤ 8) : rf (d + 1) 267 3 ls (.int x0 :: .ref 265 :: s) (SH n, I, L, R, nc, ns, nx) = rf_k (d + 1) 267 3 ls s (cf d 244 [.ref 265, .int x0] (SH n, I, L, R, nc, ns, nx)) := g_cv (idx := 401) (t := 8) [.int x0] (by decide +kernel) ow267 ms_8_401 mt_8_401 cy244_8 rfl rfl mL244 rfl rfl (by decide) hcat
theorem e267_6 : rf d 267 6 ls (.int x :: s) h = if x = 0 then rf d 267 17 ls s h else rf d 267 9 ls s h := g_if (c := .eq) (off := 11) _ (by decide +kernel) rfl cmp_d
theorem e267_9 : rf d 267 9 [some (.ref a), l1, l2, l3, l4] s h = rf d 267 10 [some (.ref a), l1, l2, l3, l4] (.ref a :: s) h := rf_pure (i := .aload_n 0) (len := 1) (okD_ok (by decide +kernel)) rfl
theorem e267_10 : rf d 267 10 [l0, l1, some (.int x), l3, l4] s h = rf d 267 11 [l0, l1, some (.int x), l3, l4] (.int x :: s) h := rf_pure (i := .iload_n 2) (len := 1) (okD_ok (by decide +kernel)) rfl
theorem e267_11 (hcat : ip_cat s ≤ 8) : rf (d + 1) 267 11 ls (.int x0 :: .ref 265 :: s) (SH n, I, L, R, nc, ns, nx) = rf_k (d + 1) 267 11 ls s (cf d 216 [.ref 265, .int x0] (SH n, I, L, R, nc, ns, nx)) := g_cv (idx := 319) (t := 8) [.int x0] (by decide +kernel) ow267 ms_8_319 mt_8_319 cy216_8 rfl rfl mL216 rfl rfl (by decide) hcat
theorem e267_14 : rf d 267 14 ls (.int x :: s) h = if ¬ x = 0 then rf d 267 21 ls s h else rf d 267 17 ls s h := g_if (c := .ne) (off := 7) _ (by decide +kernel) rfl cmp_d
theorem e267_17 : rf d 267 17 ls s h = rf d 267 18 ls (.int 1 :: s) h := rf_pure (i := .iconst (1)) (len := 1) (okD_ok (by decide +kernel)) rfl
theorem e267_18 : rf d 267 18 ls s h = rf d 267 35 ls s h := rf_goto ⟨okD_ok (i := .goto (17)) (len := 3) (by decide +kernel), rfl⟩
theorem e267_21 : rf d 267 21 [l0, l1, l2, some (.int x), l4] s h = rf d 267 22 [l0, l1, l2, some (.int x), l4] (.int x :: s) h := rf_pure (i := .iload_n 3) (len := 1) (okD_ok (by decide +kernel)) rfl
theorem e267_22 : rf d 267 22 ls s h = rf d 267 23 ls (.int 0 :: s) h := rf_pure (i := .iconst (0)) (len := 1) (okD_ok (by decide +kernel)) rfl
theorem e267_23 : rf d 267 23 ls s h = rf d 267 24 ls (.int 3 :: s) h := rf_pure (i := .iconst (3)) (len := 1) (okD_ok (by decide +kernel)) rfl
theorem e267_24 (hcat : ip_cat s ≤ 8) : rf (d + 1) 267 24 ls (.int x2 :: .int x1 :: .int x0 :: s) h = rf_k (d + 1) 267 24 ls s (cf d 217 [.int x0, .int x1, .int x2] h) := g_cs (idx := 315) [.int x2, .int x1, .int x0] (by decide +kernel) ow267 ms_8_315 mt_8_315 (by decide) rfl mL217 rfl hcat
theorem e267_27 : rf d 267 27 ls (.int x :: s) h = if ¬ x = 0 then rf d 267 34 ls s h else rf d 267 30 ls s h := g_if (c := .ne) (off := 7) _ (by decide +kernel) rfl cmp_d
theorem e267_30 : rf d 267 30 ls s h = rf d 267 31 ls (.int 2 :: s) h := rf_pure (i := .iconst (2)) (len := 1) (okD_ok (by decide +kernel)) rfl
theorem e267_31 : rf d 267 31 ls s h = rf d 267 35 ls s h := rf_goto ⟨okD_ok (i := .goto (4)) (len := 3) (by decide +kernel), rfl⟩
theorem e267_34 : rf d 267 34 ls s h = rf d 267 35 ls (.int 0 :: s) h := rf_pure (i := .iconst (0)) (len := 1) (okD_ok (by decide +kernel)) rfl
theorem e267_35 : rf d 267 35 ls (.int x :: .ref 265 :: s) (SH n, I, L, R, nc, ns, nx) = rf d 267 38 ls s (SH n, ip_up I 265 0 x, L, R, nc, ns, nx) := g_pI (idx := 142) (by decide +kernel) ow267 f_8_142 rfl (by decide +kernel) rfl (by decide)
theorem e267_38 : rf d 267 38 [some (.ref a), l1, l2, l3, l4] s h = rf d 267 39 [some (.ref a), l1, l2, l3, l4] (.ref a :: s) h := rf_pure (i := .aload_n 0) (len := 1) (okD_ok (by decide +kernel)) rfl
theorem e267_39 : rf d 267 39 ls (.ref 265 :: s) (SH n, I, L, R, nc, ns, nx) = rf d 267 42 ls (.int (I 265 0) :: s) (SH n, I, L, R, nc, ns, nx) := g_I (idx := 142) (by decide +kernel) ow267 f_8_142 rfl rfl (by decide)
theorem e267_42 : rf d 267 42 ls (.int x :: s) h = if x ≤ 0 then rf d 267 47 ls s h else rf d 267 45 ls s h := g_if (c := .le) (off := 5) _ (by decide +kernel) rfl cmp_d
theorem e267_45 : rf d 267 45 ls s h = rf d 267 46 ls (.int 0 :: s) h := rf_pure (i := .iconst (0)) (len := 1) (okD_ok (by decide +kernel)) rfl
theorem e267_46 : rf d 267 46 ls [.int x] h = some (.inl (some (.int x)), h) := g_ri (by decide +kernel) rt267
theorem e267_47 : rf d 267 47 ls s h = rf d 267 49 ls (.int 8 :: s) h := rf_pure (i := .bipush (8)) (len := 2) (okD_ok (by decide +kernel)) rfl
theorem e267_49 : rf d 267 49 [l0, some (.int x), l2, l3, l4] s h = rf d 267 50 [l0, some (.int x), l2, l3, l4] (.int x :: s) h := rf_pure (i := .iload_n 1) (len := 1) (okD_ok (by decide +kernel)) rfl
theorem e267_50 : rf d 267 50 ls (.int y :: .int x :: s) h = rf d 267 51 ls (.int (x * y) :: s) h := rf_pure (i := .imul) (len := 1) (okD_ok (by decide +kernel)) rfl
theorem e267_51 : rf d 267 51 [l0, l1, some (.int x), l3, l4] s h = rf d 267 52 [l0, l1, some (.int x), l3, l4] (.int x :: s) h := rf_pure (i := .iload_n 2) (len := 1) (okD_ok (by decide +kernel)) rfl
theorem e267_52 : rf d 267 52 ls (.int y :: .int x :: s) h = rf d 267 53 ls (.int (x + y) :: s) h := rf_pure (i := .iadd) (len := 1) (okD_ok (by decide +kernel)) rfl
theorem e267_53 (hn : ip_nl l3 = true) : rf d 267 53 [l0, l1, l2, l3, l4] (.int x :: s) h = rf d 267 55 [l0, l1, l2, l3, some (.int x)] s h := g_sti (i := .istore 4) (len := 2) (q := 3) (p := 2) (by decide +kernel) rfl rfl hn
theorem e267_55 : rf d 267 55 [l0, l1, l2, some (.int x), l4] s h = rf d 267 56 [l0, l1, l2, some (.int x), l4] (.int x :: s) h := rf_pure (i := .iload_n 3) (len := 1) (okD_ok (by decide +kernel)) rfl
theorem e267_56 : rf d 267 56 ls (.int x :: s) h = if ¬ x = 0 then rf d 267 95 ls s h else rf d 267 59 ls s h := g_if (c := .ne) (off := 39) _ (by decide +kernel) rfl cmp_d
theorem e267_59 : rf d 267 59 [some (.ref a), l1, l2, l3, l4] s h = rf d 267 60 [some (.ref a), l1, l2, l3, l4] (.ref a :: s) h := rf_pure (i := .aload_n 0) (len := 1) (okD_ok (by decide +kernel)) rfl
theorem e267_60 (hR : LYR R) : rf d 267 60 ls (.ref 265 :: s) (SH n, I, L, R, nc, ns, nx) = rf d 267 63 ls (.ref 293 :: s) (SH n, I, L, R, nc, ns, nx) := g_R (idx := 97) (by decide +kernel) ow267 f_8_97 rfl rfl (by decide) (ly_265_43 hR)
theorem e267_63 : rf d 267 63 [l0, some (.int x), l2, l3, l4] s h = rf d 267 64 [l0, some (.int x), l2, l3, l4] (.int x :: s) h := rf_pure (i := .iload_n 1) (len := 1) (okD_ok (by decide +kernel)) rfl
theorem e267_64 (q : ia n a j) : rf d 267 64 ls (.int j :: .ref a :: s) (SH n, I, L, R, nc, ns, nx) = rf d 267 65 ls (.int (I a j.toNatClampNeg) :: s) (SH n, I, L, R, nc, ns, nx) := g_ial (by decide +kernel) q
theorem e267_65 : rf d 267 65 [l0, l1, some (.int x), l3, l4] s h = rf d 267 66 [l0, l1, some (.int x), l3, l4] (.int x :: s) h := rf_pure (i := .iload_n 2) (len := 1) (okD_ok (by decide +kernel)) rfl
theorem e267_66 (hcat : ip_cat s ≤ 8) : rf (d + 1) 267 66 ls (.int x1 :: .int x0 :: s) h = rf_k (d + 1) 267 66 ls s (cf d 186 [.int x0, .int x1] h) := g_cs (idx := 234) [.int x1, .int x0] (by decide +kernel) ow267 ms_8_234 mt_8_234 (by decide) rfl mL186 rfl hcat
theorem e267_69 : rf d 267 69 ls (.int x :: s) h = if x = 0 then rf d 267 76 ls s h else rf d 267 72 ls s h := g_if (c := .eq) (off := 7) _ (by decide +kernel) rfl cmp_d
theorem e267_72 : rf d 267 72 ls s h = rf d 267 73 ls (.int (-1) :: s) h := rf_pure (i := .iconst (-1)) (len := 1) (okD_ok (by decide +kernel)) rfl
theorem e267_73 : rf d 267 73 ls s h = rf d 267 94 ls s h := rf_goto ⟨okD_ok (i := .goto (21)) (len := 3) (by decide +kernel), rfl⟩
theorem e267_76 : rf d 267 76 [some (.ref a), l1, l2, l3, l4] s h = rf d 267 77 [some (.ref a), l1, l2, l3, l4] (.ref a :: s) h := rf_pure (i := .aload_n 0) (len := 1) (okD_ok (by decide +kernel)) rfl
theorem e267_77 (hR : LYR R) : rf d 267 77 ls (.ref 265 :: s) (SH n, I, L, R, nc, ns, nx) = rf d 267 80 ls (.ref 296 :: s) (SH n, I, L, R, nc, ns, nx) := g_R (idx := 106) (by decide +kernel) ow267 f_8_106 rfl rfl (by decide) (ly_265_46 hR)
theorem e267_80 : rf d 267 80 [l0, some (.int x), l2, l3, l4] s h = rf d 267 81 [l0, some (.int x), l2, l3, l4] (.int x :: s) h := rf_pure (i := .iload_n 1) (len := 1) (okD_ok (by decide +kernel)) rfl
theorem e267_81 (q : ia n a j) : rf d 267 81 ls (.int j :: .ref a :: s) (SH n, I, L, R, nc, ns, nx) = rf d 267 82 ls (.int (I a j.toNatClampNeg) :: s) (SH n, I, L, R, nc, ns, nx) := g_ial (by decide +kernel) q
theorem e267_82 : rf d 267 82 [l0, l1, some (.int x), l3, l4] s h = rf d 267 83 [l0, l1, some (.int x), l3, l4] (.int x :: s) h := rf_pure (i := .iload_n 2) (len := 1) (okD_ok (by decide +kernel)) rfl
theorem e267_83 (hcat : ip_cat s ≤ 8) : rf (d + 1) 267 83 ls (.int x1 :: .int x0 :: s) h = rf_k (d + 1) 267 83 ls s (cf d 186 [.int x0, .int x1] h) := g_cs (idx := 234) [.int x1, .int x0] (by decide +kernel) ow267 ms_8_234 mt_8_234 (by decide) rfl mL186 rfl hcat
theorem e267_86 : rf d 267 86 ls (.int x :: s) h = if x = 0 then rf d 267 93 ls s h else rf d 267 89 ls s h := g_if (c := .eq) (off := 7) _ (by decide +kernel) rfl cmp_d
theorem e267_89 : rf d 267 89 ls s h = rf d 267 90 ls (.int 0 :: s) h := rf_pure (i := .iconst (0)) (len := 1) (okD_ok (by decide +kernel)) rfl
theorem e267_90 : rf d 267 90 ls s h = rf d 267 94 ls s h := rf_goto ⟨okD_ok (i := .goto (4)) (len := 3) (by decide +kernel), rfl⟩
theorem e267_93 : rf d 267 93 ls s h = rf d 267 94 ls (.int 1 :: s) h := rf_pure (i := .iconst (1)) (len := 1) (okD_ok (by decide +kernel)) rfl
theorem e267_94 : rf d 267 94 ls [.int x] h = some (.inl (some (.int x)), h) := g_ri (by decide +kernel) rt267
theorem e267_95 : rf d 267 95 [l0, l1, l2, some (.int x), l4] s h = rf d 267 96 [l0, l1, l2, some (.int x), l4] (.int x :: s) h := rf_pure (i := .iload_n 3) (len := 1) (okD_ok (by decide +kernel)) rfl
theorem e267_96 : rf d 267 96 ls s h = rf d 267 97 ls (.int 1 :: s) h := rf_pure (i := .iconst (1)) (len := 1) (okD_ok (by decide +kernel)) rfl
theorem e267_97 : rf d 267 97 ls (.int y :: .int x :: s) h = if ¬ x = y then rf d 267 110 ls s h else rf d 267 100 ls s h := g_ic (c := .ne) (off := 13) _ (by decide +kernel) rfl cmp_d
theorem e267_100 : rf d 267 100 [some (.ref a), l1, l2, l3, l4] s h = rf d 267 101 [some (.ref a), l1, l2, l3, l4] (.ref a :: s) h := rf_pure (i := .aload_n 0) (len := 1) (okD_ok (by decide +kernel)) rfl
theorem e267_101 (hR : LYR R) : rf d 267 101 ls (.ref 265 :: s) (SH n, I, L, R, nc, ns, nx) = rf d 267 104 ls (.ref 302 :: s) (SH n, I, L, R, nc, ns, nx) := g_R (idx := 124) (by decide +kernel) ow267 f_8_124 rfl rfl (by decide) (ly_265_52 hR)
theorem e267_104 : rf d 267 104 [l0, l1, l2, l3, some (.int x)] s h = rf d 267 106 [l0, l1, l2, l3, some (.int x)] (.int x :: s) h := rf_pure (i := .iload 4) (len := 2) (okD_ok (by decide +kernel)) rfl
theorem e267_106 (q : ia n a j) : rf d 267 106 ls (.int j :: .ref a :: s) (SH n, I, L, R, nc, ns, nx) = rf d 267 107 ls (.int (I a j.toNatClampNeg) :: s) (SH n, I, L, R, nc, ns, nx) := g_ial (by decide +kernel) q
theorem e267_107 : rf d 267 107 ls s h = rf d 267 132 ls s h := rf_goto ⟨okD_ok (i := .goto (25)) (len := 3) (by decide +kernel), rfl⟩
theorem e267_110 : rf d 267 110 [l0, l1, l2, some (.int x), l4] s h = rf d 267 111 [l0, l1, l2, some (.int x), l4] (.int x :: s) h := rf_pure (i := .iload_n 3) (len := 1) (okD_ok (by decide +kernel)) rfl
theorem e267_111 : rf d 267 111 ls s h = rf d 267 112 ls (.int 2 :: s) h := rf_pure (i := .iconst (2)) (len := 1) (okD_ok (by decide +kernel)) rfl
theorem e267_112 : rf d 267 112 ls (.int y :: .int x :: s) h = if ¬ x = y then rf d 267 125 ls s h else rf d 267 115 ls s h := g_ic (c := .ne) (off := 13) _ (by decide +kernel) rfl cmp_d
theorem e267_115 : rf d 267 115 [some (.ref a), l1, l2, l3, l4] s h = rf d 267 116 [some (.ref a), l1, l2, l3, l4] (.ref a :: s) h := rf_pure (i := .aload_n 0) (len := 1) (okD_ok (by decide +kernel)) rfl
theorem e267_116 (hR : LYR R) : rf d 267 116 ls (.ref 265 :: s) (SH n, I, L, R, nc, ns, nx) = rf d 267 119 ls (.ref 303 :: s) (SH n, I, L, R, nc, ns, nx) := g_R (idx := 127) (by decide +kernel) ow267 f_8_127 rfl rfl (by decide) (ly_265_53 hR)
theorem e267_119 : rf d 267 119 [l0, l1, l2, l3, some (.int x)] s h = rf d 267 121 [l0, l1, l2, l3, some (.int x)] (.int x :: s) h := rf_pure (i := .iload 4) (len := 2) (okD_ok (by decide +kernel)) rfl
theorem e267_121 (q : ia n a j) : rf d 267 121 ls (.int j :: .ref a :: s) (SH n, I, L, R, nc, ns, nx) = rf d 267 122 ls (.int (I a j.toNatClampNeg) :: s) (SH n, I, L, R, nc, ns, nx) := g_ial (by decide +kernel) q
theorem e267_122 : rf d 267 122 ls s h = rf d 267 132 ls s h := rf_goto ⟨okD_ok (i := .goto (10)) (len := 3) (by decide +kernel), rfl⟩
theorem e267_125 : rf d 267 125 [some (.ref a), l1, l2, l3, l4] s h = rf d 267 126 [some (.ref a), l1, l2, l3, l4] (.ref a :: s) h := rf_pure (i := .aload_n 0) (len := 1) (okD_ok (by decide +kernel)) rfl
theorem e267_126 (hR : LYR R) : rf d 267 126 ls (.ref 265 :: s) (SH n, I, L, R, nc, ns, nx) = rf d 267 129 ls (.ref 304 :: s) (SH n, I, L, R, nc, ns, nx) := g_R (idx := 130) (by decide +kernel) ow267 f_8_130 rfl rfl (by decide) (ly_265_54 hR)
theorem e267_129 : rf d 267 129 [l0, l1, l2, l3, some (.int x)] s h = rf d 267 131 [l0, l1, l2, l3, some (.int x)] (.int x :: s) h := rf_pure (i := .iload 4) (len := 2) (okD_ok (by decide +kernel)) rfl
theorem e267_131 (q : ia n a j) : rf d 267 131 ls (.int j :: .ref a :: s) (SH n, I, L, R, nc, ns, nx) = rf d 267 132 ls (.int (I a j.toNatClampNeg) :: s) (SH n, I, L, R, nc, ns, nx) := g_ial (by decide +kernel) q
theorem e267_132 : rf d 267 132 ls [.int x] h = some (.inl (some (.int x)), h) := g_ri (by decide +kernel) rt267
theorem en268 : cf d 268 [.ref a, .int x0, .int x1, .int x2] h = rf d 268 0 [some (.ref a), some (.int x0), some (.int x1), some (.int x2), none, none] [] h := rfl
theorem e268_0 : rf d 268 0 [some (.ref a), l1, l2, l3, l4, l5] s h = rf d 268 1 [some (.ref a), l1, l2, l3, l4, l5] (.ref a :: s) h := rf_pure (i := .aload_n 0) (len := 1) (okD_ok (by decide +kernel)) rfl
theorem e268_1 : rf d 268 1 [some (.ref a), l1, l2, l3, l4, l5] s h = rf d 268 2 [some (.ref a), l1, l2, l3, l4, l5] (.ref a :: s) h := rf_pure (i := .aload_n 0) (len := 1) (okD_ok (by decide +kernel)) rfl
theorem e268_2 : rf d 268 2 [l0, some (.int x), l2, l3, l4, l5] s h = rf d 268 3 [l0, some (.int x), l2, l3, l4, l5] (.int x :: s) h := rf_pure (i := .iload_n 1) (len := 1) (okD_ok (by decide +kernel)) rfl
theorem e268_3 (hcat : ip_cat s ≤ 8) : rf (d + 1) 268 3 ls (.int x0 :: .ref 265 :: s) (SH n, I, L, R, nc, ns, nx) = rf_k (d + 1) 268 3 ls s (cf d 244 [.ref 265, .int x0] (SH n, I, L, R, nc, ns, nx)) := g_cv (idx := 401) (t := 8) [.int x0] (by decide +kernel) ow268 ms_8_401 mt_8_401 cy244_8 rfl rfl mL244 rfl rfl (by decide) hcat
theorem e268_6 : rf d 268 6 ls (.int x :: s) h = if x = 0 then rf d 268 17 ls s h else rf d 268 9 ls s h := g_if (c := .eq) (off := 11) _ (by decide +kernel) rfl cmp_d
theorem e268_9 : rf d 268 9 [some (.ref a), l1, l2, l3, l4, l5] s h = rf d 268 10 [some (.ref a), l1, l2, l3, l4, l5] (.ref a :: s) h := rf_pure (i := .aload_n 0) (len := 1) (okD_ok (by decide +kernel)) rfl
theorem e268_10 : rf d 268 10 [l0, l1, some (.int x), l3, l4, l5] s h = rf d 268 11 [l0, l1, some (.int x), l3, l4, l5] (.int x :: s) h := rf_pure (i := .iload_n 2) (len := 1) (okD_ok (by decide +kernel)) rfl
theorem e268_11 (hcat : ip_cat s ≤ 8) : rf (d + 1) 268 11 ls (.int x0 :: .ref 265 :: s) (SH n, I, L, R, nc, ns, nx) = rf_k (d + 1) 268 11 ls s (cf d 216 [.ref 265, .int x0] (SH n, I, L, R, nc, ns, nx)) := g_cv (idx := 319) (t := 8) [.int x0] (by decide +kernel) ow268 ms_8_319 mt_8_319 cy216_8 rfl rfl mL216 rfl rfl (by decide) hcat
theorem e268_14 : rf d 268 14 ls (.int x :: s) h = if ¬ x = 0 then rf d 268 21 ls s h else rf d 268 17 ls s h := g_if (c := .ne) (off := 7) _ (by decide +kernel) rfl cmp_d
theorem e268_17 : rf d 268 17 ls s h = rf d 268 18 ls (.int 1 :: s) h := rf_pure (i := .iconst (1)) (len := 1) (okD_ok (by decide +kernel)) rfl
theorem e268_18 : rf d 268 18 ls s h = rf d 268 35 ls s h := rf_goto ⟨okD_ok (i := .goto (17)) (len := 3) (by decide +kernel), rfl⟩
theorem e268_21 : rf d 268 21 [l0, l1, l2, some (.int x), l4, l5] s h = rf d 268 22 [l0, l1, l2, some (.int x), l4, l5] (.int x :: s) h := rf_pure (i := .iload_n 3) (len := 1) (okD_ok (by decide +kernel)) rfl
theorem e268_22 : rf d 268 22 ls s h = rf d 268 23 ls (.int 0 :: s) h := rf_pure (i := .iconst (0)) (len := 1) (okD_ok (by decide +kernel)) rfl
theorem e268_23 : rf d 268 23 ls s h = rf d 268 24 ls (.int 2 :: s) h := rf_pure (i := .iconst (2)) (len := 1) (okD_ok (by decide +kernel)) rfl
theorem e268_24 (hcat : ip_cat s ≤ 8) : rf (d + 1) 268 24 ls (.int x2 :: .int x1 :: .int x0 :: s) h = rf_k (d + 1) 268 24 ls s (cf d 217 [.int x0, .int x1, .int x2] h) := g_cs (idx := 315) [.int x2, .int x1, .int x0] (by decide +kernel) ow268 ms_8_315 mt_8_315 (by decide) rfl mL217 rfl hcat
theorem e268_27 : rf d 268 27 ls (.int x :: s) h = if ¬ x = 0 then rf d 268 34 ls s h else rf d 268 30 ls s h := g_if (c := .ne) (off := 7) _ (by decide +kernel) rfl cmp_d
theorem e268_30 : rf d 268 30 ls s h = rf d 268 31 ls (.int 2 :: s) h := rf_pure (i := .iconst (2)) (len := 1) (okD_ok (by decide +kernel)) rfl
theorem e268_31 : rf d 268 31 ls s h = rf d 268 35 ls s h := rf_goto ⟨okD_ok (i := .goto (4)) (len := 3) (by decide +kernel), rfl⟩
theorem e268_34 : rf d 268 34 ls s h = rf d 268 35 ls (.int 0 :: s) h := rf_pure (i := .iconst (0)) (len := 1) (okD_ok (by decide +kernel)) rfl
theorem e268_35 : rf d 268 35 ls (.int x :: .ref 265 :: s) (SH n, I, L, R, nc, ns, nx) = rf d 268 38 ls s (SH n, ip_up I 265 0 x, L, R, nc, ns, nx) := g_pI (idx := 142) (by decide +kernel) ow268 f_8_142 rfl (by decide +kernel) rfl (by decide)
theorem e268_38 : rf d 268 38 [some (.ref a), l1, l2, l3, l4, l5] s h = rf d 268 39 [some (.ref a), l1, l2, l3, l4, l5] (.ref a :: s) h := rf_pure (i := .aload_n 0) (len := 1) (okD_ok (by decide +kernel)) rfl
theorem e268_39 : rf d 268 39 ls (.ref 265 :: s) (SH n, I, L, R, nc, ns, nx) = rf d 268 42 ls (.int (I 265 0) :: s) (SH n, I, L, R, nc, ns, nx) := g_I (idx := 142) (by decide +kernel) ow268 f_8_142 rfl rfl (by decide)
theorem e268_42 : rf d 268 42 ls (.int x :: s) h = if x ≤ 0 then rf d 268 47 ls s h else rf d 268 45 ls s h := g_if (c := .le) (off := 5) _ (by decide +kernel) rfl cmp_d
theorem e268_45 : rf d 268 45 ls s h = rf d 268 46 ls (.int 0 :: s) h := rf_pure (i := .iconst (0)) (len := 1) (okD_ok (by decide +kernel)) rfl
theorem e268_46 : rf d 268 46 ls [.int x] h = some (.inl (some (.int x)), h) := g_ri (by decide +kernel) rt268
theorem e268_47 : rf d 268 47 ls s h = rf d 268 48 ls (.int 0 :: s) h := rf_pure (i := .iconst (0)) (len := 1) (okD_ok (by decide +kernel)) rfl
theorem e268_48 (hn : ip_nl l3 = true) : rf d 268 48 [l0, l1, l2, l3, l4, l5] (.int x :: s) h = rf d 268 50 [l0, l1, l2, l3, some (.int x), l5] s h := g_sti (i := .istore 4) (len := 2) (q := 3) (p := 2) (by decide +kernel) rfl rfl hn
theorem e268_50 : rf d 268 50 [l0, some (.int x), l2, l3, l4, l5] s h = rf d 268 51 [l0, some (.int x), l2, l3, l4, l5] (.int x :: s) h := rf_pure (i := .iload_n 1) (len := 1) (okD_ok (by decide +kernel)) rfl
theorem e268_51 (hn : ip_nl l4 = true) : rf d 268 51 [l0, l1, l2, l3, l4, l5] (.int x :: s) h = rf d 268 53 [l0, l1, l2, l3, l4, some (.int x)] s h := g_sti (i := .istore 5) (len := 2) (q := 4) (p := 2) (by decide +kernel) rfl rfl hn
theorem e268_53 : rf d 268 53 [l0, l1, l2, l3, l4, some (.int x)] s h = rf d 268 55 [l0, l1, l2, l3, l4, some (.int x)] (.int x :: s) h := rf_pure (i := .iload 5) (len := 2) (okD_ok (by decide +kernel)) rfl
theorem e268_55 : rf d 268 55 ls s h = rf d 268 56 ls (.int (-1) :: s) h := rf_pure (i := .iconst (-1)) (len := 1) (okD_ok (by decide +kernel)) rfl
theorem e268_56 : rf d 268 56 ls (.int y :: .int x :: s) h = if x = y then rf d 268 120 ls s h else rf d 268 59 ls s h := g_ic (c := .eq) (off := 64) _ (by decide +kernel) rfl cmp_d
theorem e268_59 : rf d 268 59 [some (.ref a), l1, l2, l3, l4, l5] s h = rf d 268 60 [some (.ref a), l1, l2, l3, l4, l5] (.ref a :: s) h := rf_pure (i := .aload_n 0) (len := 1) (okD_ok (by decide +kernel)) rfl
theorem e268_60 (hR : LYR R) : rf d 268 60 ls (.ref 265 :: s) (SH n, I, L, R, nc, ns, nx) = rf d 268 63 ls (.ref 289 :: s) (SH n, I, L, R, nc, ns, nx) := g_R (idx := 85) (by decide +kernel) ow268 f_8_85 rfl rfl (by decide) (ly_265_39 hR)
theorem e268_63 : rf d 268 63 [l0, l1, l2, l3, l4, some (.int x)] s h = rf d 268 65 [l0, l1, l2, l3, l4, some (.int x)] (.int x :: s) h := rf_pure (i := .iload 5) (len := 2) (okD_ok (by decide +kernel)) rfl
theorem e268_65 (q : ia n a j) : rf d 268 65 ls (.int j :: .ref a :: s) (SH n, I, L, R, nc, ns, nx) = rf d 268 66 ls (.int (I a j.toNatClampNeg) :: s) (SH n, I, L, R, nc, ns, nx) := g_ial (by decide +kernel) q
theorem e268_66 : rf d 268 66 [l0, l1, l2, some (.int x), l4, l5] s h = rf d 268 67 [l0, l1, l2, some (.int x), l4, l5] (.int x :: s) h := rf_pure (i := .iload_n 3) (len := 1) (okD_ok (by decide +kernel)) rfl
theorem e268_67 : rf d 268 67 ls (.int y :: .int x :: s) h = if ¬ x = y then rf d 268 108 ls s h else rf d 268 70 ls s h := g_ic (c := .ne) (off := 41) _ (by decide +kernel) rfl cmp_d
theorem e268_70 : rf d 268 70 [l0, l1, l2, l3, some (.int x), l5] s h = rf d 268 72 [l0, l1, l2, l3, some (.int x), l5] (.int x :: s) h := rf_pure (i := .iload 4) (len := 2) (okD_ok (by decide +kernel)) rfl
theorem e268_72 : rf d 268 72 [l0, l1, l2, some (.int x), l4, l5] s h = rf d 268 73 [l0, l1, l2, some (.int x), l4, l5] (.int x :: s) h := rf_pure (i := .iload_n 3) (len := 1) (okD_ok (by decide +kernel)) rfl
theorem e268_73 : rf d 268 73 ls (.int x :: s) h = if ¬ x = 0 then rf d 268 86 ls s h else rf d 268 76 ls s h := g_if (c := .ne) (off := 13) _ (by decide +kernel) rfl cmp_d
theorem e268_76 : rf d 268 76 [some (.ref a), l1, l2, l3, l4, l5] s h = rf d 268 77 [some (.ref a), l1, l2, l3, l4, l5] (.ref a :: s) h := rf_pure (i := .aload_n 0) (len := 1) (okD_ok (by decide +kernel)) rfl
theorem e268_77 (hR : LYR R) : rf d 268 77 ls (.ref 265 :: s) (SH n, I, L, R, nc, ns, nx) = rf d 268 80 ls (.ref 299 :: s) (SH n, I, L, R, nc, ns, nx) := g_R (idx := 115) (by decide +kernel) ow268 f_8_115 rfl rfl (by decide) (ly_265_49 hR)
theorem e268_80 : rf d 268 80 [l0, l1, l2, l3, l4, some (.int x)] s h = rf d 268 82 [l0, l1, l2, l3, l4, some (.int x)] (.int x :: s) h := rf_pure (i := .iload 5) (len := 2) (okD_ok (by decide +kernel)) rfl
theorem e268_82 (q : ia n a j) : rf d 268 82 ls (.int j :: .ref a :: s) (SH n, I, L, R, nc, ns, nx) = rf d 268 83 ls (.int (I a j.toNatClampNeg) :: s) (SH n, I, L, R, nc, ns, nx) := g_ial (by decide +kernel) q
theorem e268_83 : rf d 268 83 ls s h = rf d 268 93 ls s h := rf_goto ⟨okD_ok (i := .goto (10)) (len := 3) (by decide +kernel), rfl⟩
theorem e268_86 : rf d 268 86 [some (.ref a), l1, l2, l3, l4, l5] s h = rf d 268 87 [some (.ref a), l1, l2, l3, l4, l5] (.ref a :: s) h := rf_pure (i := .aload_n 0) (len := 1) (okD_ok (by decide +kernel)) rfl
theorem e268_87 (hR : LYR R) : rf d 268 87 ls (.ref 265 :: s) (SH n, I, L, R, nc, ns, nx) = rf d 268 90 ls (.ref 298 :: s) (SH n, I, L, R, nc, ns, nx) := g_R (idx := 112) (by decide +kernel) ow268 f_8_112 rfl rfl (by decide) (ly_265_48 hR)
theorem e268_90 : rf d 268 90 [l0, l1, l2, l3, l4, some (.int x)] s h = rf d 268 92 [l0, l1, l2, l3, l4, some (.int x)] (.int x :: s) h := rf_pure (i := .iload 5) (len := 2) (okD_ok (by decide +kernel)) rfl
theorem e268_92 (q : ia n a j) : rf d 268 92 ls (.int j :: .ref a :: s) (SH n, I, L, R, nc, ns, nx) = rf d 268 93 ls (.int (I a j.toNatClampNeg) :: s) (SH n, I, L, R, nc, ns, nx) := g_ial (by decide +kernel) q
theorem e268_93 : rf d 268 93 [l0, l1, some (.int x), l3, l4, l5] s h = rf d 268 94 [l0, l1, some (.int x), l3, l4, l5] (.int x :: s) h := rf_pure (i := .iload_n 2) (len := 1) (okD_ok (by decide +kernel)) rfl
theorem e268_94 (hcat : ip_cat s ≤ 8) : rf (d + 1) 268 94 ls (.int x1 :: .int x0 :: s) h = rf_k (d + 1) 268 94 ls s (cf d 186 [.int x0, .int x1] h) := g_cs (idx := 234) [.int x1, .int x0] (by decide +kernel) ow268 ms_8_234 mt_8_234 (by decide) rfl mL186 rfl hcat
theorem e268_97 : rf d 268 97 ls (.int x :: s) h = if x = 0 then rf d 268 104 ls s h else rf d 268 100 ls s h := g_if (c := .eq) (off := 7) _ (by decide +kernel) rfl cmp_d
theorem e268_100 : rf d 268 100 ls s h = rf d 268 101 ls (.int 1 :: s) h := rf_pure (i := .iconst (1)) (len := 1) (okD_ok (by decide +kernel)) rfl
theorem e268_101 : rf d 268 101 ls s h = rf d 268 105 ls s h := rf_goto ⟨okD_ok (i := .goto (4)) (len := 3) (by decide +kernel), rfl⟩
theorem e268_104 : rf d 268 104 ls s h = rf d 268 105 ls (.int 0 :: s) h := rf_pure (i := .iconst (0)) (len := 1) (okD_ok (by decide +kernel)) rfl
theorem e268_105 : rf d 268 105 ls (.int y :: .int x :: s) h = rf d 268 106 ls (.int (x + y) :: s) h := rf_pure (i := .iadd) (len := 1) (okD_ok (by decide +kernel)) rfl
theorem e268_106 (hn : ip_nl l3 = true) : rf d 268 106 [l0, l1, l2, l3, l4, l5] (.int x :: s) h = rf d 268 108 [l0, l1, l2, l3, some (.int x), l5] s h := g_sti (i := .istore 4) (len := 2) (q := 3) (p := 2) (by decide +kernel) rfl rfl hn
theorem e268_108 : rf d 268 108 [some (.ref a), l1, l2, l3, l4, l5] s h = rf d 268 109 [some (.ref a), l1, l2, l3, l4, l5] (.ref a :: s) h := rf_pure (i := .aload_n 0) (len := 1) (okD_ok (by decide +kernel)) rfl
theorem e268_109 (hR : LYR R) : rf d 268 109 ls (.ref 265 :: s) (SH n, I, L, R, nc, ns, nx) = rf d 268 112 ls (.ref 290 :: s) (SH n, I, L, R, nc, ns, nx) := g_R (idx := 88) (by decide +kernel) ow268 f_8_88 rfl rfl (by decide) (ly_265_40 hR)
theorem e268_112 : rf d 268 112 [l0, l1, l2, l3, l4, some (.int x)] s h = rf d 268 114 [l0, l1, l2, l3, l4, some (.int x)] (.int x :: s) h := rf_pure (i := .iload 5) (len := 2) (okD_ok (by decide +kernel)) rfl
theorem e268_114 (q : ia n a j) : rf d 268 114 ls (.int j :: .ref a :: s) (SH n, I, L, R, nc, ns, nx) = rf d 268 115 ls (.int (I a j.toNatClampNeg) :: s) (SH n, I, L, R, nc, ns, nx) := g_ial (by decide +kernel) q
theorem e268_115 (hn : ip_nl l4 = true) : rf d 268 115 [l0, l1, l2, l3, l4, l5] (.int x :: s) h = rf d 268 117 [l0, l1, l2, l3, l4, some (.int x)] s h := g_sti (i := .istore 5) (len := 2) (q := 4) (p := 2) (by decide +kernel) rfl rfl hn
theorem e268_117 : rf d 268 117 ls s h = rf d 268 53 ls s h := rf_goto ⟨okD_ok (i := .goto (-64)) (len := 3) (by decide +kernel), rfl⟩
theorem e268_120 : rf d 268 120 [l0, l1, l2, l3, some (.int x), l5] s h = rf d 268 122 [l0, l1, l2, l3, some (.int x), l5] (.int x :: s) h := rf_pure (i := .iload 4) (len := 2) (okD_ok (by decide +kernel)) rfl
theorem e268_122 : rf d 268 122 ls [.int x] h = some (.inl (some (.int x)), h) := g_ri (by decide +kernel) rt268
theorem en269 : cf d 269 [.ref a] h = rf d 269 0 [some (.ref a), none, none, none] [] h := rfl
theorem e269_0 : rf d 269 0 [some (.ref a), l1, l2, l3] s h = rf d 269 1 [some (.ref a), l1, l2, l3] (.ref a :: s) h := rf_pure (i := .aload_n 0) (len := 1) (okD_ok (by decide +kernel)) rfl
theorem e269_1 : rf d 269 1 ls s h = rf d 269 2 ls (.int 0 :: s) h := rf_pure (i := .iconst (0)) (len := 1) (okD_ok (by decide +kernel)) rfl
theorem e269_2 : rf d 269 2 ls (.int x :: .ref 265 :: s) (SH n, I, L, R, nc, ns, nx) = rf d 269 5 ls s (SH n, ip_up I 265 0 x, L, R, nc, ns, nx) := g_pI (idx := 142) (by decide +kernel) ow269 f_8_142 rfl (by decide +kernel) rfl (by decide)
theorem e269_5 : rf d 269 5 [some (.ref a), l1, l2, l3] s h = rf d 269 6 [some (.ref a), l1, l2, l3] (.ref a :: s) h := rf_pure (i := .aload_n 0) (len := 1) (okD_ok (by decide +kernel)) rfl
theorem e269_6 : rf d 269 6 [some (.ref a), l1, l2, l3] s h = rf d 269 7 [some (.ref a), l1, l2, l3] (.ref a :: s) h := rf_pure (i := .aload_n 0) (len := 1) (okD_ok (by decide +kernel)) rfl
theorem e269_7 (hR : LYR R) : rf d 269 7 ls (.ref 265 :: s) (SH n, I, L, R, nc, ns, nx) = rf d 269 10 ls (.ref 296 :: s) (SH n, I, L, R, nc, ns, nx) := g_R (idx := 106) (by decide +kernel) ow269 f_8_106 rfl rfl (by decide) (ly_265_46 hR)
theorem e269_10 : rf d 269 10 [some (.ref a), l1, l2, l3] s h = rf d 269 11 [some (.ref a), l1, l2, l3] (.ref a :: s) h := rf_pure (i := .aload_n 0) (len := 1) (okD_ok (by decide +kernel)) rfl
theorem e269_11 : rf d 269 11 ls (.ref 265 :: s) (SH n, I, L, R, nc, ns, nx) = rf d 269 14 ls (.int (I 265 38) :: s) (SH n, I, L, R, nc, ns, nx) := g_I (idx := 306) (by decide +kernel) ow269 f_8_306 rfl rfl (by decide)
theorem e269_14 (q : ia n a j) : rf d 269 14 ls (.int j :: .ref a :: s) (SH n, I, L, R, nc, ns, nx) = rf d 269 15 ls (.int (I a j.toNatClampNeg) :: s) (SH n, I, L, R, nc, ns, nx) := g_ial (by decide +kernel) q
theorem e269_15 : rf d 269 15 [some (.ref a), l1, l2, l3] s h = rf d 269 16 [some (.ref a), l1, l2, l3] (.ref a :: s) h := rf_pure (i := .aload_n 0) (len := 1) (okD_ok (by decide +kernel)) rfl
theorem e269_16 (hR : LYR R) : rf d 269 16 ls (.ref 265 :: s) (SH n, I, L, R, nc, ns, nx) = rf d 269 19 ls (.ref 293 :: s) (SH n, I, L, R, nc, ns, nx) := g_R (idx := 97) (by decide +kernel) ow269 f_8_97 rfl rfl (by decide) (ly_265_43 hR)
theorem e269_19 : rf d 269 19 [some (.ref a), l1, l2, l3] s h = rf d 269 20 [some (.ref a), l1, l2, l3] (.ref a :: s) h := rf_pure (i := .aload_n 0) (len := 1) (okD_ok (by decide +kernel)) rfl
theorem e269_20 : rf d 269 20 ls (.ref 265 :: s) (SH n, I, L, R, nc, ns, nx) = rf d 269 23 ls (.int (I 265 38) :: s) (SH n, I, L, R, nc, ns, nx) := g_I (idx := 306) (by decide +kernel) ow269 f_8_306 rfl rfl (by decide)
theorem e269_23 (q : ia n a j) : rf d 269 23 ls (.int j :: .ref a :: s) (SH n, I, L, R, nc, ns, nx) = rf d 269 24 ls (.int (I a j.toNatClampNeg) :: s) (SH n, I, L, R, nc, ns, nx) := g_ial (by decide +kernel) q
theorem e269_24 (hcat : ip_cat s ≤ 8) : rf (d + 1) 269 24 ls (.int x1 :: .int x0 :: .ref 265 :: s) (SH n, I, L, R, nc, ns, nx) = rf_k (d + 1) 269 24 ls s (cf d 234 [.ref 265, .int x0, .int x1] (SH n, I, L, R, nc, ns, nx)) := g_cv (idx := 339) (t := 8) [.int x1, .int x0] (by decide +kernel) ow269 ms_8_339 mt_8_339 cy234_8 rfl rfl mL234 rfl rfl (by decide) hcat
theorem e269_27 (hn : ip_nl l0 = true) : rf d 269 27 [l0, l1, l2, l3] (.int x :: s) h = rf d 269 28 [l0, some (.int x), l2, l3] s h := g_sti (i := .istore_n 1) (len := 1) (q := 0) (p := 1) (by decide +kernel) rfl rfl hn
theorem e269_28 : rf d 269 28 ls s h = rf d 269 29 ls (.int 0 :: s) h := rf_pure (i := .iconst (0)) (len := 1) (okD_ok (by decide +kernel)) rfl
theorem e269_29 (hn : ip_nl l1 = true) : rf d 269 29 [l0, l1, l2, l3] (.int x :: s) h = rf d 269 30 [l0, l1, some (.int x), l3] s h := g_sti (i := .istore_n 2) (len := 1) (q := 1) (p := 1) (by decide +kernel) rfl rfl hn
theorem e269_30 : rf d 269 30 ls s h = rf d 269 31 ls (.int 0 :: s) h := rf_pure (i := .iconst (0)) (len := 1) (okD_ok (by decide +kernel)) rfl
theorem e269_31 (hn : ip_nl l2 = true) : rf d 269 31 [l0, l1, l2, l3] (.int x :: s) h = rf d 269 32 [l0, l1, l2, some (.int x)] s h := g_sti (i := .istore_n 3) (len := 1) (q := 2) (p := 1) (by decide +kernel) rfl rfl hn
theorem e269_32 : rf d 269 32 [l0, l1, l2, some (.int x)] s h = rf d 269 33 [l0, l1, l2, some (.int x)] (.int x :: s) h := rf_pure (i := .iload_n 3) (len := 1) (okD_ok (by decide +kernel)) rfl
theorem e269_33 : rf d 269 33 [some (.ref a), l1, l2, l3] s h = rf d 269 34 [some (.ref a), l1, l2, l3] (.ref a :: s) h := rf_pure (i := .aload_n 0) (len := 1) (okD_ok (by decide +kernel)) rfl
theorem e269_34 : rf d 269 34 ls (.ref 265 :: s) (SH n, I, L, R, nc, ns, nx) = rf d 269 37 ls (.int (I 265 17) :: s) (SH n, I, L, R, nc, ns, nx) := g_I (idx := 291) (by decide +kernel) ow269 f_8_291 rfl rfl (by decide)
theorem e269_37 : rf d 269 37 ls (.int y :: .int x :: s) h = if y ≤ x then rf d 269 107 ls s h else rf d 269 40 ls s h := g_ic (c := .ge) (off := 70) _ (by decide +kernel) rfl cmp_d
theorem e269_40 : rf d 269 40 [l0, some (.int x), l2, l3] s h = rf d 269 41 [l0, some (.int x), l2, l3] (.int x :: s) h := rf_pure (i := .iload_n 1) (len := 1) (okD_ok (by decide +kernel)) rfl
theorem e269_41 : rf d 269 41 ls s h = rf d 269 42 ls (.int (-1) :: s) h := rf_pure (i := .iconst (-1)) (len := 1) (okD_ok (by decide +kernel)) rfl
theorem e269_42 : rf d 269 42 ls (.int y :: .int x :: s) h = if x = y then rf d 269 107 ls s h else rf d 269 45 ls s h := g_ic (c := .eq) (off := 65) _ (by decide +kernel) rfl cmp_d
theorem e269_45 : rf d 269 45 [l0, l1, some (.int x), l3] s h = rf d 269 46 [l0, l1, some (.int x), l3] (.int x :: s) h := rf_pure (i := .iload_n 2) (len := 1) (okD_ok (by decide +kernel)) rfl
theorem e269_46 : rf d 269 46 [some (.ref a), l1, l2, l3] s h = rf d 269 47 [some (.ref a), l1, l2, l3] (.ref a :: s) h := rf_pure (i := .aload_n 0) (len := 1) (okD_ok (by decide +kernel)) rfl
theorem e269_47 (hR : LYR R) : rf d 269 47 ls (.ref 265 :: s) (SH n, I, L, R, nc, ns, nx) = rf d 269 50 ls (.ref 293 :: s) (SH n, I, L, R, nc, ns, nx) := g_R (idx := 97) (by decide +kernel) ow269 f_8_97 rfl rfl (by decide) (ly_265_43 hR)
theorem e269_50 : rf d 269 50 [some (.ref a), l1, l2, l3] s h = rf d 269 51 [some (.ref a), l1, l2, l3] (.ref a :: s) h := rf_pure (i := .aload_n 0) (len := 1) (okD_ok (by decide +kernel)) rfl
theorem e269_51 : rf d 269 51 ls (.ref 265 :: s) (SH n, I, L, R, nc, ns, nx) = rf d 269 54 ls (.int (I 265 38) :: s) (SH n, I, L, R, nc, ns, nx) := g_I (idx := 306) (by decide +kernel) ow269 f_8_306 rfl rfl (by decide)
theorem e269_54 (q : ia n a j) : rf d 269 54 ls (.int j :: .ref a :: s) (SH n, I, L, R, nc, ns, nx) = rf d 269 55 ls (.int (I a j.toNatClampNeg) :: s) (SH n, I, L, R, nc, ns, nx) := g_ial (by decide +kernel) q
theorem e269_55 : rf d 269 55 [l0, l1, l2, some (.int x)] s h = rf d 269 56 [l0, l1, l2, some (.int x)] (.int x :: s) h := rf_pure (i := .iload_n 3) (len := 1) (okD_ok (by decide +kernel)) rfl
theorem e269_56 (hcat : ip_cat s ≤ 8) : rf (d + 1) 269 56 ls (.int x1 :: .int x0 :: s) h = rf_k (d + 1) 269 56 ls s (cf d 186 [.int x0, .int x1] h) := g_cs (idx := 234) [.int x1, .int x0] (by decide +kernel) ow269 ms_8_234 mt_8_234 (by decide) rfl mL186 rfl hcat
theorem e269_59 : rf d 269 59 ls (.int x :: s) h = if ¬ x = 0 then rf d 269 98 ls s h else rf d 269 62 ls s h := g_if (c := .ne) (off := 39) _ (by decide +kernel) rfl cmp_d
theorem e269_62 : rf d 269 62 [some (.ref a), l1, l2, l3] s h = rf d 269 63 [some (.ref a), l1, l2, l3] (.ref a :: s) h := rf_pure (i := .aload_n 0) (len := 1) (okD_ok (by decide +kernel)) rfl
theorem e269_63 : rf d 269 63 [some (.ref a), l1, l2, l3] s h = rf d 269 64 [some (.ref a), l1, l2, l3] (.ref a :: s) h := rf_pure (i := .aload_n 0) (len := 1) (okD_ok (by decide +kernel)) rfl
theorem e269_64 (hR : LYR R) : rf d 269 64 ls (.ref 265 :: s) (SH n, I, L, R, nc, ns, nx) = rf d 269 67 ls (.ref 296 :: s) (SH n, I, L, R, nc, ns, nx) := g_R (idx := 106) (by decide +kernel) ow269 f_8_106 rfl rfl (by decide) (ly_265_46 hR)
theorem e269_67 : rf d 269 67 [some (.ref a), l1, l2, l3] s h = rf d 269 68 [some (.ref a), l1, l2, l3] (.ref a :: s) h := rf_pure (i := .aload_n 0) (len := 1) (okD_ok (by decide +kernel)) rfl
theorem e269_68 : rf d 269 68 ls (.ref 265 :: s) (SH n, I, L, R, nc, ns, nx) = rf d 269 71 ls (.int (I 265 38) :: s) (SH n, I, L, R, nc, ns, nx) := g_I (idx := 306) (by decide +kernel) ow269 f_8_306 rfl rfl (by decide)
theorem e269_71 (q : ia n a j) : rf d 269 71 ls (.int j :: .ref a :: s) (SH n, I, L, R, nc, ns, nx) = rf d 269 72 ls (.int (I a j.toNatClampNeg) :: s) (SH n, I, L, R, nc, ns, nx) := g_ial (by decide +kernel) q
theorem e269_72 : rf d 269 72 ls s h = rf d 269 73 ls (.int 1 :: s) h := rf_pure (i := .iconst (1)) (len := 1) (okD_ok (by decide +kernel)) rfl
theorem e269_73 : rf d 269 73 [l0, l1, l2, some (.int x)] s h = rf d 269 74 [l0, l1, l2, some (.int x)] (.int x :: s) h := rf_pure (i := .iload_n 3) (len := 1) (okD_ok (by decide +kernel)) rfl
theorem e269_74 : rf d 269 74 ls (.int y :: .int x :: s) h = rf d 269 75 ls (.int (x <<< (y &&& 31)) :: s) h := rf_pure (i := .ishl) (len := 1) (okD_ok (by decide +kernel)) rfl
theorem e269_75 : rf d 269 75 ls (.int y :: .int x :: s) h = rf d 269 76 ls (.int (x ^^^ y) :: s) h := rf_pure (i := .ixor) (len := 1) (okD_ok (by decide +kernel)) rfl
theorem e269_76 : rf d 269 76 [some (.ref a), l1, l2, l3] s h = rf d 269 77 [some (.ref a), l1, l2, l3] (.ref a :: s) h := rf_pure (i := .aload_n 0) (len := 1) (okD_ok (by decide +kernel)) rfl
theorem e269_77 (hR : LYR R) : rf d 269 77 ls (.ref 265 :: s) (SH n, I, L, R, nc, ns, nx) = rf d 269 80 ls (.ref 293 :: s) (SH n, I, L, R, nc, ns, nx) := g_R (idx := 97) (by decide +kernel) ow269 f_8_97 rfl rfl (by decide) (ly_265_43 hR)
theorem e269_80 : rf d 269 80 [some (.ref a), l1, l2, l3] s h = rf d 269 81 [some (.ref a), l1, l2, l3] (.ref a :: s) h := rf_pure (i := .aload_n 0) (len := 1) (okD_ok (by decide +kernel)) rfl
theorem e269_81 : rf d 269 81 ls (.ref 265 :: s) (SH n, I, L, R, nc, ns, nx) = rf d 269 84 ls (.int (I 265 38) :: s) (SH n, I, L, R, nc, ns, nx) := g_I (idx := 306) (by decide +kernel) ow269 f_8_306 rfl rfl (by decide)
theorem e269_84 (q : ia n a j) : rf d 269 84 ls (.int j :: .ref a :: s) (SH n, I, L, R, nc, ns, nx) = rf d 269 85 ls (.int (I a j.toNatClampNeg) :: s) (SH n, I, L, R, nc, ns, nx) := g_ial (by decide +kernel) q
theorem e269_85 (hcat : ip_cat s ≤ 8) : rf (d + 1) 269 85 ls (.int x1 :: .int x0 :: .ref 265 :: s) (SH n, I, L, R, nc, ns, nx) = rf_k (d + 1) 269 85 ls s (cf d 234 [.ref 265, .int x0, .int x1] (SH n, I, L, R, nc, ns, nx)) := g_cv (idx := 339) (t := 8) [.int x1, .int x0] (by decide +kernel) ow269 ms_8_339 mt_8_339 cy234_8 rfl rfl mL234 rfl rfl (by decide) hcat
theorem e269_88 : rf d 269 88 [l0, some (.int x), l2, l3] s h = rf d 269 89 [l0, some (.int x), l2, l3] (.int x :: s) h := rf_pure (i := .iload_n 1) (len := 1) (okD_ok (by decide +kernel)) rfl
theorem e269_89 : rf d 269 89 ls (.int y :: .int x :: s) h = if ¬ x = y then rf d 269 98 ls s h else rf d 269 92 ls s h := g_ic (c := .ne) (off := 9) _ (by decide +kernel) rfl cmp_d
theorem e269_92 : rf d 269 92 ls s h = rf d 269 93 ls (.int 1 :: s) h := rf_pure (i := .iconst (1)) (len := 1) (okD_ok (by decide +kernel)) rfl
theorem e269_93 : rf d 269 93 [l0, l1, l2, some (.int x)] s h = rf d 269 94 [l0, l1, l2, some (.int x)] (.int x :: s) h := rf_pure (i := .iload_n 3) (len := 1) (okD_ok (by decide +kernel)) rfl
theorem e269_94 : rf d 269 94 ls (.int y :: .int x :: s) h = rf d 269 95 ls (.int (x <<< (y &&& 31)) :: s) h := rf_pure (i := .ishl) (len := 1) (okD_ok (by decide +kernel)) rfl
theorem e269_95 : rf d 269 95 ls s h = rf d 269 99 ls s h := rf_goto ⟨okD_ok (i := .goto (4)) (len := 3) (by decide +kernel), rfl⟩
theorem e269_98 : rf d 269 98 ls s h = rf d 269 99 ls (.int 0 :: s) h := rf_pure (i := .iconst (0)) (len := 1) (okD_ok (by decide +kernel)) rfl
theorem e269_99 : rf d 269 99 ls (.int y :: .int x :: s) h = rf d 269 100 ls (.int (x ||| y) :: s) h := rf_pure (i := .ior) (len := 1) (okD_ok (by decide +kernel)) rfl
theorem e269_100 (hn : ip_nl l1 = true) : rf d 269 100 [l0, l1, l2, l3] (.int x :: s) h = rf d 269 101 [l0, l1, some (.int x), l3] s h := g_sti (i := .istore_n 2) (len := 1) (q := 1) (p := 1) (by decide +kernel) rfl rfl hn
theorem e269_101 (hn : ip_nl l2 = true) : rf d 269 101 [l0, l1, l2, some (.int x)] s h = rf d 269 104 [l0, l1, l2, some (.int (x + 1))] s h := g_inc (q := 2) (z := 1) (w := 1) (x := x) (by decide) (by decide +kernel) rfl rfl hn
theorem e269_104 : rf d 269 104 ls s h = rf d 269 32 ls s h := rf_goto ⟨okD_ok (i := .goto (-72)) (len := 3) (by decide +kernel), rfl⟩
theorem e269_107 : rf d 269 107 [l0, l1, some (.int x), l3] s h = rf d 269 108 [l0, l1, some (.int x), l3] (.int x :: s) h := rf_pure (i := .iload_n 2) (len := 1) (okD_ok (by decide +kernel)) rfl
theorem e269_108 : rf d 269 108 ls [.int x] h = some (.inl (some (.int x)), h) := g_ri (by decide +kernel) rt269
end S09
