/-! STEPS, 5 (printed by wip/whole/gen_steps.py) -/
section S05
variable {n d a b t : Nat} {l0 l1 l2 l3 l4 l5 l6 l7 l8 l9 l10 l11 l12 l13 : Option Value} {ls : List (Option Value)} {s : List Value} {h : ip_H} {I : Nat → Nat → Int32} {L : Nat → Nat → Int64} {R : Nat → Nat → Option Nat} {nc ns : Nat} {nx : Bool} {x y j z sp dp x0 x1 x2 x3 x4 x5 : Int32} {u v u0 u1 u2 u3 : Int64} {a0 a1 a2 a3 a4 : Nat}
theorem en178 : cf d 178 [.ref a, .int x0, .int x1] h = rf d 178 0 [some (.ref a), some (.int x0), some (.int x1), none, none] [] h := rfl
theorem e178_0 : rf d 178 0 [l0, some (.int x), l2, l3, l4] s h = rf d 178 1 [l0, some (.int x), l2, l3, l4] (.int x :: s) h := rf_pure (i := .iload_n 1) (len := 1) (okD_ok (by decide +kernel)) rfl
theorem e178_1 (hn : ip_nl l2 = true) : rf d 178 1 [l0, l1, l2, l3, l4] (.int x :: s) h = rf d 178 2 [l0, l1, l2, some (.int x), l4] s h := g_sti (i := .istore_n 3) (len := 1) (q := 2) (p := 1) (by decide +kernel) rfl rfl hn
theorem e178_2 : rf d 178 2 ls s h = rf d 178 3 ls (.int 0 :: s) h := rf_pure (i := .iconst (0)) (len := 1) (okD_ok (by decide +kernel)) rfl
theorem e178_3 (hn : ip_nl l3 = true) : rf d 178 3 [l0, l1, l2, l3, l4] (.int x :: s) h = rf d 178 5 [l0, l1, l2, l3, some (.int x)] s h := g_sti (i := .istore 4) (len := 2) (q := 3) (p := 2) (by decide +kernel) rfl rfl hn
theorem e178_5 : rf d 178 5 [l0, l1, l2, l3, some (.int x)] s h = rf d 178 7 [l0, l1, l2, l3, some (.int x)] (.int x :: s) h := rf_pure (i := .iload 4) (len := 2) (okD_ok (by decide +kernel)) rfl
theorem e178_7 : rf d 178 7 [l0, l1, some (.int x), l3, l4] s h = rf d 178 8 [l0, l1, some (.int x), l3, l4] (.int x :: s) h := rf_pure (i := .iload_n 2) (len := 1) (okD_ok (by decide +kernel)) rfl
theorem e178_8 : rf d 178 8 ls (.int y :: .int x :: s) h = if y ≤ x then rf d 178 40 ls s h else rf d 178 11 ls s h := g_ic (c := .ge) (off := 32) _ (by decide +kernel) rfl cmp_d
theorem e178_11 : rf d 178 11 [some (.ref a), l1, l2, l3, l4] s h = rf d 178 12 [some (.ref a), l1, l2, l3, l4] (.ref a :: s) h := rf_pure (i := .aload_n 0) (len := 1) (okD_ok (by decide +kernel)) rfl
theorem e178_12 (hR : LYR R) : rf d 178 12 ls (.ref 2 :: s) (SH n, I, L, R, nc, ns, nx) = rf d 178 15 ls (.ref 23 :: s) (SH n, I, L, R, nc, ns, nx) := g_R (idx := 36) (by decide +kernel) ow178 f_7_36 rfl rfl (by decide) (ly_2_5 hR)
theorem e178_15 : rf d 178 15 [l0, l1, l2, some (.int x), l4] s h = rf d 178 16 [l0, l1, l2, some (.int x), l4] (.int x :: s) h := rf_pure (i := .iload_n 3) (len := 1) (okD_ok (by decide +kernel)) rfl
theorem e178_16 (hR : LYR R) (q : inb j 40) : rf d 178 16 ls (.int j :: .ref 23 :: s) (SH n, I, L, R, nc, ns, nx) = rf d 178 17 ls (.ref (nd j) :: s) (SH n, I, L, R, nc, ns, nx) := g_aal (by decide +kernel) hR q
theorem e178_17 (ha : isN a) : rf d 178 17 ls (.ref a :: s) (SH n, I, L, R, nc, ns, nx) = rf d 178 20 ls (.int (I a 1) :: s) (SH n, I, L, R, nc, ns, nx) := g_I (idx := 279) (by decide +kernel) ow178 f_7_279 rfl (kdN0 ha) (geN ha)
theorem e178_20 : rf d 178 20 ls s h = rf d 178 21 ls (.int (-1) :: s) h := rf_pure (i := .iconst (-1)) (len := 1) (okD_ok (by decide +kernel)) rfl
theorem e178_21 : rf d 178 21 ls (.int y :: .int x :: s) h = if x = y then rf d 178 40 ls s h else rf d 178 24 ls s h := g_ic (c := .eq) (off := 19) _ (by decide +kernel) rfl cmp_d
theorem e178_24 : rf d 178 24 [some (.ref a), l1, l2, l3, l4] s h = rf d 178 25 [some (.ref a), l1, l2, l3, l4] (.ref a :: s) h := rf_pure (i := .aload_n 0) (len := 1) (okD_ok (by decide +kernel)) rfl
theorem e178_25 (hR : LYR R) : rf d 178 25 ls (.ref 2 :: s) (SH n, I, L, R, nc, ns, nx) = rf d 178 28 ls (.ref 23 :: s) (SH n, I, L, R, nc, ns, nx) := g_R (idx := 36) (by decide +kernel) ow178 f_7_36 rfl rfl (by decide) (ly_2_5 hR)
theorem e178_28 : rf d 178 28 [l0, l1, l2, some (.int x), l4] s h = rf d 178 29 [l0, l1, l2, some (.int x), l4] (.int x :: s) h := rf_pure (i := .iload_n 3) (len := 1) (okD_ok (by decide +kernel)) rfl
theorem e178_29 (hR : LYR R) (q : inb j 40) : rf d 178 29 ls (.int j :: .ref 23 :: s) (SH n, I, L, R, nc, ns, nx) = rf d 178 30 ls (.ref (nd j) :: s) (SH n, I, L, R, nc, ns, nx) := g_aal (by decide +kernel) hR q
theorem e178_30 (ha : isN a) : rf d 178 30 ls (.ref a :: s) (SH n, I, L, R, nc, ns, nx) = rf d 178 33 ls (.int (I a 1) :: s) (SH n, I, L, R, nc, ns, nx) := g_I (idx := 279) (by decide +kernel) ow178 f_7_279 rfl (kdN0 ha) (geN ha)
theorem e178_33 (hn : ip_nl l2 = true) : rf d 178 33 [l0, l1, l2, l3, l4] (.int x :: s) h = rf d 178 34 [l0, l1, l2, some (.int x), l4] s h := g_sti (i := .istore_n 3) (len := 1) (q := 2) (p := 1) (by decide +kernel) rfl rfl hn
theorem e178_34 (hn : ip_nl l3 = true) : rf d 178 34 [l0, l1, l2, l3, some (.int x)] s h = rf d 178 37 [l0, l1, l2, l3, some (.int (x + 1))] s h := g_inc (q := 3) (z := 1) (w := 1) (x := x) (by decide) (by decide +kernel) rfl rfl hn
theorem e178_37 : rf d 178 37 ls s h = rf d 178 5 ls s h := rf_goto ⟨okD_ok (i := .goto (-32)) (len := 3) (by decide +kernel), rfl⟩
theorem e178_40 : rf d 178 40 [l0, l1, l2, some (.int x), l4] s h = rf d 178 41 [l0, l1, l2, some (.int x), l4] (.int x :: s) h := rf_pure (i := .iload_n 3) (len := 1) (okD_ok (by decide +kernel)) rfl
theorem e178_41 : rf d 178 41 ls [.int x] h = some (.inl (some (.int x)), h) := g_ri (by decide +kernel) rt178
theorem en179 : cf d 179 [.ref a0, .int x1, .int x2, .ref a3] h = rf d 179 0 [some (.ref a0), some (.int x1), some (.int x2), some (.ref a3), none] [] h := rfl
theorem e179_0 : rf d 179 0 [l0, l1, l2, some (.ref a), l4] s h = rf d 179 1 [l0, l1, l2, some (.ref a), l4] (.ref a :: s) h := rf_pure (i := .aload_n 3) (len := 1) (okD_ok (by decide +kernel)) rfl
theorem e179_1 : rf d 179 1 ls s h = rf d 179 2 ls (.int 0 :: s) h := rf_pure (i := .iconst (0)) (len := 1) (okD_ok (by decide +kernel)) rfl
theorem e179_2 : rf d 179 2 [some (.ref a), l1, l2, l3, l4] s h = rf d 179 3 [some (.ref a), l1, l2, l3, l4] (.ref a :: s) h := rf_pure (i := .aload_n 0) (len := 1) (okD_ok (by decide +kernel)) rfl
theorem e179_3 : rf d 179 3 [l0, some (.int x), l2, l3, l4] s h = rf d 179 4 [l0, some (.int x), l2, l3, l4] (.int x :: s) h := rf_pure (i := .iload_n 1) (len := 1) (okD_ok (by decide +kernel)) rfl
theorem e179_4 : rf d 179 4 [l0, l1, some (.int x), l3, l4] s h = rf d 179 5 [l0, l1, some (.int x), l3, l4] (.int x :: s) h := rf_pure (i := .iload_n 2) (len := 1) (okD_ok (by decide +kernel)) rfl
theorem e179_5 (hcat : ip_cat s ≤ 8) : rf (d + 1) 179 5 ls (.int x1 :: .int x0 :: .ref 2 :: s) (SH n, I, L, R, nc, ns, nx) = rf_k (d + 1) 179 5 ls s (cf d 180 [.ref 2, .int x0, .int x1] (SH n, I, L, R, nc, ns, nx)) := g_cv (idx := 108) (t := 7) [.int x1, .int x0] (by decide +kernel) ow179 ms_9_108 mt_9_108 cy180_7 rfl rfl mL180 rfl rfl (by decide) hcat
theorem e179_8 : rf d 179 8 ls (.int x :: s) h = rf d 179 9 ls (.long x.toInt64 :: s) h := rf_pure (i := .i2l) (len := 1) (okD_ok (by decide +kernel)) rfl
theorem e179_9 (q : la n a j) : rf d 179 9 ls (.long u :: .int j :: .ref a :: s) (SH n, I, L, R, nc, ns, nx) = rf d 179 10 ls s (SH n, I, ip_up L a j.toNatClampNeg u, R, nc, ns, nx) := g_las (by decide +kernel) q
theorem e179_10 : rf d 179 10 ls s h = rf d 179 17 ls s h := rf_goto ⟨okD_ok (i := .goto (7)) (len := 3) (by decide +kernel), rfl⟩
theorem e179_17 : rf d 179 17 ls s h = rf d 179 18 ls (.int 0 :: s) h := rf_pure (i := .iconst (0)) (len := 1) (okD_ok (by decide +kernel)) rfl
theorem e179_18 : rf d 179 18 ls [.int x] h = some (.inl (some (.int x)), h) := g_ri (by decide +kernel) rt179
theorem en180 : cf d 180 [.ref a, .int x0, .int x1] h = rf d 180 0 [some (.ref a), some (.int x0), some (.int x1), none, none, none, none] [] h := rfl
theorem e180_0 : rf d 180 0 [some (.ref a), l1, l2, l3, l4, l5, l6] s h = rf d 180 1 [some (.ref a), l1, l2, l3, l4, l5, l6] (.ref a :: s) h := rf_pure (i := .aload_n 0) (len := 1) (okD_ok (by decide +kernel)) rfl
theorem e180_1 : rf d 180 1 [l0, some (.int x), l2, l3, l4, l5, l6] s h = rf d 180 2 [l0, some (.int x), l2, l3, l4, l5, l6] (.int x :: s) h := rf_pure (i := .iload_n 1) (len := 1) (okD_ok (by decide +kernel)) rfl
theorem e180_2 (hcat : ip_cat s ≤ 8) : rf (d + 1) 180 2 ls (.int x0 :: .ref 2 :: s) (SH n, I, L, R, nc, ns, nx) = rf_k (d + 1) 180 2 ls s (cf d 124 [.ref 2, .int x0] (SH n, I, L, R, nc, ns, nx)) := g_cv (idx := 210) (t := 7) [.int x0] (by decide +kernel) ow180 ms_7_210 mt_7_210 cy124_7 rfl rfl mL124 rfl rfl (by decide) hcat
theorem e180_5 : rf d 180 5 [some (.ref a), l1, l2, l3, l4, l5, l6] s h = rf d 180 6 [some (.ref a), l1, l2, l3, l4, l5, l6] (.ref a :: s) h := rf_pure (i := .aload_n 0) (len := 1) (okD_ok (by decide +kernel)) rfl
theorem e180_6 : rf d 180 6 [l0, l1, some (.int x), l3, l4, l5, l6] s h = rf d 180 7 [l0, l1, some (.int x), l3, l4, l5, l6] (.int x :: s) h := rf_pure (i := .iload_n 2) (len := 1) (okD_ok (by decide +kernel)) rfl
theorem e180_7 (hcat : ip_cat s ≤ 8) : rf (d + 1) 180 7 ls (.int x0 :: .ref 2 :: s) (SH n, I, L, R, nc, ns, nx) = rf_k (d + 1) 180 7 ls s (cf d 124 [.ref 2, .int x0] (SH n, I, L, R, nc, ns, nx)) := g_cv (idx := 210) (t := 7) [.int x0] (by decide +kernel) ow180 ms_7_210 mt_7_210 cy124_7 rfl rfl mL124 rfl rfl (by decide) hcat
theorem e180_10 : rf d 180 10 [some (.ref a), l1, l2, l3, l4, l5, l6] s h = rf d 180 11 [some (.ref a), l1, l2, l3, l4, l5, l6] (.ref a :: s) h := rf_pure (i := .aload_n 0) (len := 1) (okD_ok (by decide +kernel)) rfl
theorem e180_11 : rf d 180 11 [l0, some (.int x), l2, l3, l4, l5, l6] s h = rf d 180 12 [l0, some (.int x), l2, l3, l4, l5, l6] (.int x :: s) h := rf_pure (i := .iload_n 1) (len := 1) (okD_ok (by decide +kernel)) rfl
theorem e180_12 (hcat : ip_cat s ≤ 8) : rf (d + 1) 180 12 ls (.int x0 :: .ref 2 :: s) (SH n, I, L, R, nc, ns, nx) = rf_k (d + 1) 180 12 ls s (cf d 177 [.ref 2, .int x0] (SH n, I, L, R, nc, ns, nx)) := g_cv (idx := 370) (t := 7) [.int x0] (by decide +kernel) ow180 ms_7_370 mt_7_370 cy177_7 rfl rfl mL177 rfl rfl (by decide) hcat
theorem e180_15 : rf d 180 15 [some (.ref a), l1, l2, l3, l4, l5, l6] s h = rf d 180 16 [some (.ref a), l1, l2, l3, l4, l5, l6] (.ref a :: s) h := rf_pure (i := .aload_n 0) (len := 1) (okD_ok (by decide +kernel)) rfl
theorem e180_16 : rf d 180 16 [l0, l1, some (.int x), l3, l4, l5, l6] s h = rf d 180 17 [l0, l1, some (.int x), l3, l4, l5, l6] (.int x :: s) h := rf_pure (i := .iload_n 2) (len := 1) (okD_ok (by decide +kernel)) rfl
theorem e180_17 (hcat : ip_cat s ≤ 8) : rf (d + 1) 180 17 ls (.int x0 :: .ref 2 :: s) (SH n, I, L, R, nc, ns, nx) = rf_k (d + 1) 180 17 ls s (cf d 177 [.ref 2, .int x0] (SH n, I, L, R, nc, ns, nx)) := g_cv (idx := 370) (t := 7) [.int x0] (by decide +kernel) ow180 ms_7_370 mt_7_370 cy177_7 rfl rfl mL177 rfl rfl (by decide) hcat
theorem e180_20 (hcat : ip_cat s ≤ 8) : rf d 180 20 ls (.int y :: .int x :: s) h = rf d 180 23 ls (.int (if y < x then y else x) :: s) h := g_min (idx := 376) (by decide +kernel) ow180 (by decide +kernel) hcat
theorem e180_23 (hn : ip_nl l2 = true) : rf d 180 23 [l0, l1, l2, l3, l4, l5, l6] (.int x :: s) h = rf d 180 24 [l0, l1, l2, some (.int x), l4, l5, l6] s h := g_sti (i := .istore_n 3) (len := 1) (q := 2) (p := 1) (by decide +kernel) rfl rfl hn
theorem e180_24 : rf d 180 24 [some (.ref a), l1, l2, l3, l4, l5, l6] s h = rf d 180 25 [some (.ref a), l1, l2, l3, l4, l5, l6] (.ref a :: s) h := rf_pure (i := .aload_n 0) (len := 1) (okD_ok (by decide +kernel)) rfl
theorem e180_25 : rf d 180 25 [l0, some (.int x), l2, l3, l4, l5, l6] s h = rf d 180 26 [l0, some (.int x), l2, l3, l4, l5, l6] (.int x :: s) h := rf_pure (i := .iload_n 1) (len := 1) (okD_ok (by decide +kernel)) rfl
theorem e180_26 : rf d 180 26 [some (.ref a), l1, l2, l3, l4, l5, l6] s h = rf d 180 27 [some (.ref a), l1, l2, l3, l4, l5, l6] (.ref a :: s) h := rf_pure (i := .aload_n 0) (len := 1) (okD_ok (by decide +kernel)) rfl
theorem e180_27 : rf d 180 27 [l0, some (.int x), l2, l3, l4, l5, l6] s h = rf d 180 28 [l0, some (.int x), l2, l3, l4, l5, l6] (.int x :: s) h := rf_pure (i := .iload_n 1) (len := 1) (okD_ok (by decide +kernel)) rfl
theorem e180_28 (hcat : ip_cat s ≤ 8) : rf (d + 1) 180 28 ls (.int x0 :: .ref 2 :: s) (SH n, I, L, R, nc, ns, nx) = rf_k (d + 1) 180 28 ls s (cf d 177 [.ref 2, .int x0] (SH n, I, L, R, nc, ns, nx)) := g_cv (idx := 370) (t := 7) [.int x0] (by decide +kernel) ow180 ms_7_370 mt_7_370 cy177_7 rfl rfl mL177 rfl rfl (by decide) hcat
theorem e180_31 : rf d 180 31 [l0, l1, l2, some (.int x), l4, l5, l6] s h = rf d 180 32 [l0, l1, l2, some (.int x), l4, l5, l6] (.int x :: s) h := rf_pure (i := .iload_n 3) (len := 1) (okD_ok (by decide +kernel)) rfl
theorem e180_32 : rf d 180 32 ls (.int y :: .int x :: s) h = rf d 180 33 ls (.int (x - y) :: s) h := rf_pure (i := .isub) (len := 1) (okD_ok (by decide +kernel)) rfl
theorem e180_33 (hcat : ip_cat s ≤ 8) : rf (d + 1) 180 33 ls (.int x1 :: .int x0 :: .ref 2 :: s) (SH n, I, L, R, nc, ns, nx) = rf_k (d + 1) 180 33 ls s (cf d 178 [.ref 2, .int x0, .int x1] (SH n, I, L, R, nc, ns, nx)) := g_cv (idx := 373) (t := 7) [.int x1, .int x0] (by decide +kernel) ow180 ms_7_373 mt_7_373 cy178_7 rfl rfl mL178 rfl rfl (by decide) hcat
theorem e180_36 (hn : ip_nl l3 = true) : rf d 180 36 [l0, l1, l2, l3, l4, l5, l6] (.int x :: s) h = rf d 180 38 [l0, l1, l2, l3, some (.int x), l5, l6] s h := g_sti (i := .istore 4) (len := 2) (q := 3) (p := 2) (by decide +kernel) rfl rfl hn
theorem e180_38 : rf d 180 38 [some (.ref a), l1, l2, l3, l4, l5, l6] s h = rf d 180 39 [some (.ref a), l1, l2, l3, l4, l5, l6] (.ref a :: s) h := rf_pure (i := .aload_n 0) (len := 1) (okD_ok (by decide +kernel)) rfl
theorem e180_39 : rf d 180 39 [l0, l1, some (.int x), l3, l4, l5, l6] s h = rf d 180 40 [l0, l1, some (.int x), l3, l4, l5, l6] (.int x :: s) h := rf_pure (i := .iload_n 2) (len := 1) (okD_ok (by decide +kernel)) rfl
theorem e180_40 : rf d 180 40 [some (.ref a), l1, l2, l3, l4, l5, l6] s h = rf d 180 41 [some (.ref a), l1, l2, l3, l4, l5, l6] (.ref a :: s) h := rf_pure (i := .aload_n 0) (len := 1) (okD_ok (by decide +kernel)) rfl
theorem e180_41 : rf d 180 41 [l0, l1, some (.int x), l3, l4, l5, l6] s h = rf d 180 42 [l0, l1, some (.int x), l3, l4, l5, l6] (.int x :: s) h := rf_pure (i := .iload_n 2) (len := 1) (okD_ok (by decide +kernel)) rfl
theorem e180_42 (hcat : ip_cat s ≤ 8) : rf (d + 1) 180 42 ls (.int x0 :: .ref 2 :: s) (SH n, I, L, R, nc, ns, nx) = rf_k (d + 1) 180 42 ls s (cf d 177 [.ref 2, .int x0] (SH n, I, L, R, nc, ns, nx)) := g_cv (idx := 370) (t := 7) [.int x0] (by decide +kernel) ow180 ms_7_370 mt_7_370 cy177_7 rfl rfl mL177 rfl rfl (by decide) hcat
theorem e180_45 : rf d 180 45 [l0, l1, l2, some (.int x), l4, l5, l6] s h = rf d 180 46 [l0, l1, l2, some (.int x), l4, l5, l6] (.int x :: s) h := rf_pure (i := .iload_n 3) (len := 1) (okD_ok (by decide +kernel)) rfl
theorem e180_46 : rf d 180 46 ls (.int y :: .int x :: s) h = rf d 180 47 ls (.int (x - y) :: s) h := rf_pure (i := .isub) (len := 1) (okD_ok (by decide +kernel)) rfl
theorem e180_47 (hcat : ip_cat s ≤ 8) : rf (d + 1) 180 47 ls (.int x1 :: .int x0 :: .ref 2 :: s) (SH n, I, L, R, nc, ns, nx) = rf_k (d + 1) 180 47 ls s (cf d 178 [.ref 2, .int x0, .int x1] (SH n, I, L, R, nc, ns, nx)) := g_cv (idx := 373) (t := 7) [.int x1, .int x0] (by decide +kernel) ow180 ms_7_373 mt_7_373 cy178_7 rfl rfl mL178 rfl rfl (by decide) hcat
theorem e180_50 (hn : ip_nl l4 = true) : rf d 180 50 [l0, l1, l2, l3, l4, l5, l6] (.int x :: s) h = rf d 180 52 [l0, l1, l2, l3, l4, some (.int x), l6] s h := g_sti (i := .istore 5) (len := 2) (q := 4) (p := 2) (by decide +kernel) rfl rfl hn
theorem e180_52 : rf d 180 52 ls s h = rf d 180 53 ls (.int 0 :: s) h := rf_pure (i := .iconst (0)) (len := 1) (okD_ok (by decide +kernel)) rfl
theorem e180_53 (hn : ip_nl l5 = true) : rf d 180 53 [l0, l1, l2, l3, l4, l5, l6] (.int x :: s) h = rf d 180 55 [l0, l1, l2, l3, l4, l5, some (.int x)] s h := g_sti (i := .istore 6) (len := 2) (q := 5) (p := 2) (by decide +kernel) rfl rfl hn
theorem e180_55 : rf d 180 55 [l0, l1, l2, l3, l4, l5, some (.int x)] s h = rf d 180 57 [l0, l1, l2, l3, l4, l5, some (.int x)] (.int x :: s) h := rf_pure (i := .iload 6) (len := 2) (okD_ok (by decide +kernel)) rfl
theorem e180_57 : rf d 180 57 ls s h = rf d 180 59 ls (.int 40 :: s) h := rf_pure (i := .bipush (40)) (len := 2) (okD_ok (by decide +kernel)) rfl
theorem e180_59 : rf d 180 59 ls (.int y :: .int x :: s) h = if y ≤ x then rf d 180 99 ls s h else rf d 180 62 ls s h := g_ic (c := .ge) (off := 40) _ (by decide +kernel) rfl cmp_d
theorem e180_62 : rf d 180 62 [l0, l1, l2, l3, some (.int x), l5, l6] s h = rf d 180 64 [l0, l1, l2, l3, some (.int x), l5, l6] (.int x :: s) h := rf_pure (i := .iload 4) (len := 2) (okD_ok (by decide +kernel)) rfl
theorem e180_64 : rf d 180 64 [l0, l1, l2, l3, l4, some (.int x), l6] s h = rf d 180 66 [l0, l1, l2, l3, l4, some (.int x), l6] (.int x :: s) h := rf_pure (i := .iload 5) (len := 2) (okD_ok (by decide +kernel)) rfl
theorem e180_66 : rf d 180 66 ls (.int y :: .int x :: s) h = if x = y then rf d 180 99 ls s h else rf d 180 69 ls s h := g_ic (c := .eq) (off := 33) _ (by decide +kernel) rfl cmp_d
theorem e180_69 : rf d 180 69 [some (.ref a), l1, l2, l3, l4, l5, l6] s h = rf d 180 70 [some (.ref a), l1, l2, l3, l4, l5, l6] (.ref a :: s) h := rf_pure (i := .aload_n 0) (len := 1) (okD_ok (by decide +kernel)) rfl
theorem e180_70 (hR : LYR R) : rf d 180 70 ls (.ref 2 :: s) (SH n, I, L, R, nc, ns, nx) = rf d 180 73 ls (.ref 23 :: s) (SH n, I, L, R, nc, ns, nx) := g_R (idx := 36) (by decide +kernel) ow180 f_7_36 rfl rfl (by decide) (ly_2_5 hR)
theorem e180_73 : rf d 180 73 [l0, l1, l2, l3, some (.int x), l5, l6] s h = rf d 180 75 [l0, l1, l2, l3, some (.int x), l5, l6] (.int x :: s) h := rf_pure (i := .iload 4) (len := 2) (okD_ok (by decide +kernel)) rfl
theorem e180_75 (hR : LYR R) (q : inb j 40) : rf d 180 75 ls (.int j :: .ref 23 :: s) (SH n, I, L, R, nc, ns, nx) = rf d 180 76 ls (.ref (nd j) :: s) (SH n, I, L, R, nc, ns, nx) := g_aal (by decide +kernel) hR q
theorem e180_76 (ha : isN a) : rf d 180 76 ls (.ref a :: s) (SH n, I, L, R, nc, ns, nx) = rf d 180 79 ls (.int (I a 1) :: s) (SH n, I, L, R, nc, ns, nx) := g_I (idx := 279) (by decide +kernel) ow180 f_7_279 rfl (kdN0 ha) (geN ha)
theorem e180_79 (hn : ip_nl l3 = true) : rf d 180 79 [l0, l1, l2, l3, l4, l5, l6] (.int x :: s) h = rf d 180 81 [l0, l1, l2, l3, some (.int x), l5, l6] s h := g_sti (i := .istore 4) (len := 2) (q := 3) (p := 2) (by decide +kernel) rfl rfl hn
theorem e180_81 : rf d 180 81 [some (.ref a), l1, l2, l3, l4, l5, l6] s h = rf d 180 82 [some (.ref a), l1, l2, l3, l4, l5, l6] (.ref a :: s) h := rf_pure (i := .aload_n 0) (len := 1) (okD_ok (by decide +kernel)) rfl
theorem e180_82 (hR : LYR R) : rf d 180 82 ls (.ref 2 :: s) (SH n, I, L, R, nc, ns, nx) = rf d 180 85 ls (.ref 23 :: s) (SH n, I, L, R, nc, ns, nx) := g_R (idx := 36) (by decide +kernel) ow180 f_7_36 rfl rfl (by decide) (ly_2_5 hR)
theorem e180_85 : rf d 180 85 [l0, l1, l2, l3, l4, some (.int x), l6] s h = rf d 180 87 [l0, l1, l2, l3, l4, some (.int x), l6] (.int x :: s) h := rf_pure (i := .iload 5) (len := 2) (okD_ok (by decide +kernel)) rfl
theorem e180_87 (hR : LYR R) (q : inb j 40) : rf d 180 87 ls (.int j :: .ref 23 :: s) (SH n, I, L, R, nc, ns, nx) = rf d 180 88 ls (.ref (nd j) :: s) (SH n, I, L, R, nc, ns, nx) := g_aal (by decide +kernel) hR q
theorem e180_88 (ha : isN a) : rf d 180 88 ls (.ref a :: s) (SH n, I, L, R, nc, ns, nx) = rf d 180 91 ls (.int (I a 1) :: s) (SH n, I, L, R, nc, ns, nx) := g_I (idx := 279) (by decide +kernel) ow180 f_7_279 rfl (kdN0 ha) (geN ha)
theorem e180_91 (hn : ip_nl l4 = true) : rf d 180 91 [l0, l1, l2, l3, l4, l5, l6] (.int x :: s) h = rf d 180 93 [l0, l1, l2, l3, l4, some (.int x), l6] s h := g_sti (i := .istore 5) (len := 2) (q := 4) (p := 2) (by decide +kernel) rfl rfl hn
theorem e180_93 (hn : ip_nl l5 = true) : rf d 180 93 [l0, l1, l2, l3, l4, l5, some (.int x)] s h = rf d 180 96 [l0, l1, l2, l3, l4, l5, some (.int (x + 1))] s h := g_inc (q := 5) (z := 1) (w := 1) (x := x) (by decide) (by decide +kernel) rfl rfl hn
theorem e180_96 : rf d 180 96 ls s h = rf d 180 55 ls s h := rf_goto ⟨okD_ok (i := .goto (-41)) (len := 3) (by decide +kernel), rfl⟩
theorem e180_99 : rf d 180 99 [l0, l1, l2, l3, some (.int x), l5, l6] s h = rf d 180 101 [l0, l1, l2, l3, some (.int x), l5, l6] (.int x :: s) h := rf_pure (i := .iload 4) (len := 2) (okD_ok (by decide +kernel)) rfl
theorem e180_101 : rf d 180 101 ls [.int x] h = some (.inl (some (.int x)), h) := g_ri (by decide +kernel) rt180
theorem en181 : cf d 181 [.ref a0, .int x1, .int x2, .ref a3] h = rf d 181 0 [some (.ref a0), some (.int x1), some (.int x2), some (.ref a3), none] [] h := rfl
theorem e181_0 : rf d 181 0 [l0, l1, l2, some (.ref a), l4] s h = rf d 181 1 [l0, l1, l2, some (.ref a), l4] (.ref a :: s) h := rf_pure (i := .aload_n 3) (len := 1) (okD_ok (by decide +kernel)) rfl
theorem e181_1 : rf d 181 1 ls s h = rf d 181 2 ls (.int 0 :: s) h := rf_pure (i := .iconst (0)) (len := 1) (okD_ok (by decide +kernel)) rfl
theorem e181_2 : rf d 181 2 [some (.ref a), l1, l2, l3, l4] s h = rf d 181 3 [some (.ref a), l1, l2, l3, l4] (.ref a :: s) h := rf_pure (i := .aload_n 0) (len := 1) (okD_ok (by decide +kernel)) rfl
theorem e181_3 : rf d 181 3 [l0, some (.int x), l2, l3, l4] s h = rf d 181 4 [l0, some (.int x), l2, l3, l4] (.int x :: s) h := rf_pure (i := .iload_n 1) (len := 1) (okD_ok (by decide +kernel)) rfl
theorem e181_4 : rf d 181 4 [l0, l1, some (.int x), l3, l4] s h = rf d 181 5 [l0, l1, some (.int x), l3, l4] (.int x :: s) h := rf_pure (i := .iload_n 2) (len := 1) (okD_ok (by decide +kernel)) rfl
theorem e181_5 (hcat : ip_cat s ≤ 8) : rf (d + 1) 181 5 ls (.int x1 :: .int x0 :: .ref 2 :: s) (SH n, I, L, R, nc, ns, nx) = rf_k (d + 1) 181 5 ls s (cf d 182 [.ref 2, .int x0, .int x1] (SH n, I, L, R, nc, ns, nx)) := g_cv (idx := 111) (t := 7) [.int x1, .int x0] (by decide +kernel) ow181 ms_9_111 mt_9_111 cy182_7 rfl rfl mL182 rfl rfl (by decide) hcat
theorem e181_8 : rf d 181 8 ls (.int x :: s) h = rf d 181 9 ls (.long x.toInt64 :: s) h := rf_pure (i := .i2l) (len := 1) (okD_ok (by decide +kernel)) rfl
theorem e181_9 (q : la n a j) : rf d 181 9 ls (.long u :: .int j :: .ref a :: s) (SH n, I, L, R, nc, ns, nx) = rf d 181 10 ls s (SH n, I, ip_up L a j.toNatClampNeg u, R, nc, ns, nx) := g_las (by decide +kernel) q
theorem e181_10 : rf d 181 10 ls s h = rf d 181 17 ls s h := rf_goto ⟨okD_ok (i := .goto (7)) (len := 3) (by decide +kernel), rfl⟩
theorem e181_17 : rf d 181 17 ls s h = rf d 181 18 ls (.int 0 :: s) h := rf_pure (i := .iconst (0)) (len := 1) (okD_ok (by decide +kernel)) rfl
theorem e181_18 : rf d 181 18 ls [.int x] h = some (.inl (some (.int x)), h) := g_ri (by decide +kernel) rt181
theorem en182 : cf d 182 [.ref a, .int x0, .int x1] h = rf d 182 0 [some (.ref a), some (.int x0), some (.int x1), none, none] [] h := rfl
theorem e182_0 : rf d 182 0 [some (.ref a), l1, l2, l3, l4] s h = rf d 182 1 [some (.ref a), l1, l2, l3, l4] (.ref a :: s) h := rf_pure (i := .aload_n 0) (len := 1) (okD_ok (by decide +kernel)) rfl
theorem e182_1 : rf d 182 1 [l0, some (.int x), l2, l3, l4] s h = rf d 182 2 [l0, some (.int x), l2, l3, l4] (.int x :: s) h := rf_pure (i := .iload_n 1) (len := 1) (okD_ok (by decide +kernel)) rfl
theorem e182_2 (hcat : ip_cat s ≤ 8) : rf (d + 1) 182 2 ls (.int x0 :: .ref 2 :: s) (SH n, I, L, R, nc, ns, nx) = rf_k (d + 1) 182 2 ls s (cf d 124 [.ref 2, .int x0] (SH n, I, L, R, nc, ns, nx)) := g_cv (idx := 210) (t := 7) [.int x0] (by decide +kernel) ow182 ms_7_210 mt_7_210 cy124_7 rfl rfl mL124 rfl rfl (by decide) hcat
theorem e182_5 : rf d 182 5 [l0, l1, some (.int x), l3, l4] s h = rf d 182 6 [l0, l1, some (.int x), l3, l4] (.int x :: s) h := rf_pure (i := .iload_n 2) (len := 1) (okD_ok (by decide +kernel)) rfl
theorem e182_6 : rf d 182 6 ls (.int x :: s) h = if x < 0 then rf d 182 15 ls s h else rf d 182 9 ls s h := g_if (c := .lt) (off := 9) _ (by decide +kernel) rfl cmp_d
theorem e182_9 : rf d 182 9 [l0, l1, some (.int x), l3, l4] s h = rf d 182 10 [l0, l1, some (.int x), l3, l4] (.int x :: s) h := rf_pure (i := .iload_n 2) (len := 1) (okD_ok (by decide +kernel)) rfl
theorem e182_10 : rf d 182 10 ls s h = rf d 182 12 ls (.int 40 :: s) h := rf_pure (i := .bipush (40)) (len := 2) (okD_ok (by decide +kernel)) rfl
theorem e182_12 : rf d 182 12 ls (.int y :: .int x :: s) h = if x < y then rf d 182 17 ls s h else rf d 182 15 ls s h := g_ic (c := .lt) (off := 5) _ (by decide +kernel) rfl cmp_d
theorem e182_15 : rf d 182 15 ls s h = rf d 182 16 ls (.int (-1) :: s) h := rf_pure (i := .iconst (-1)) (len := 1) (okD_ok (by decide +kernel)) rfl
theorem e182_16 : rf d 182 16 ls [.int x] h = some (.inl (some (.int x)), h) := g_ri (by decide +kernel) rt182
theorem e182_17 : rf d 182 17 [some (.ref a), l1, l2, l3, l4] s h = rf d 182 18 [some (.ref a), l1, l2, l3, l4] (.ref a :: s) h := rf_pure (i := .aload_n 0) (len := 1) (okD_ok (by decide +kernel)) rfl
theorem e182_18 : rf d 182 18 [l0, some (.int x), l2, l3, l4] s h = rf d 182 19 [l0, some (.int x), l2, l3, l4] (.int x :: s) h := rf_pure (i := .iload_n 1) (len := 1) (okD_ok (by decide +kernel)) rfl
theorem e182_19 : rf d 182 19 [l0, some (.int x), l2, l3, l4] s h = rf d 182 20 [l0, some (.int x), l2, l3, l4] (.int x :: s) h := rf_pure (i := .iload_n 1) (len := 1) (okD_ok (by decide +kernel)) rfl
theorem e182_20 (hcat : ip_cat s ≤ 8) : rf (d + 1) 182 20 ls (.int x1 :: .int x0 :: .ref 2 :: s) (SH n, I, L, R, nc, ns, nx) = rf_k (d + 1) 182 20 ls s (cf d 27 [.ref 2, .int x0, .int x1] (SH n, I, L, R, nc, ns, nx)) := g_cv (idx := 357) (t := 7) [.int x1, .int x0] (by decide +kernel) ow182 ms_7_357 mt_7_357 cy27_7 rfl rfl mL27 rfl rfl (by decide) hcat
theorem e182_23 (hn : ip_nl l2 = true) : rf d 182 23 [l0, l1, l2, l3, l4] (.int x :: s) h = rf d 182 24 [l0, l1, l2, some (.int x), l4] s h := g_sti (i := .istore_n 3) (len := 1) (q := 2) (p := 1) (by decide +kernel) rfl rfl hn
theorem e182_24 : rf d 182 24 [l0, l1, some (.int x), l3, l4] s h = rf d 182 25 [l0, l1, some (.int x), l3, l4] (.int x :: s) h := rf_pure (i := .iload_n 2) (len := 1) (okD_ok (by decide +kernel)) rfl
theorem e182_25 (hn : ip_nl l3 = true) : rf d 182 25 [l0, l1, l2, l3, l4] (.int x :: s) h = rf d 182 27 [l0, l1, l2, l3, some (.int x)] s h := g_sti (i := .istore 4) (len := 2) (q := 3) (p := 2) (by decide +kernel) rfl rfl hn
theorem e182_27 : rf d 182 27 [l0, l1, l2, l3, some (.int x)] s h = rf d 182 29 [l0, l1, l2, l3, some (.int x)] (.int x :: s) h := rf_pure (i := .iload 4) (len := 2) (okD_ok (by decide +kernel)) rfl
theorem e182_29 : rf d 182 29 ls (.int x :: s) h = if x ≤ 0 then rf d 182 50 ls s h else rf d 182 32 ls s h := g_if (c := .le) (off := 21) _ (by decide +kernel) rfl cmp_d
theorem e182_32 : rf d 182 32 [l0, l1, l2, some (.int x), l4] s h = rf d 182 33 [l0, l1, l2, some (.int x), l4] (.int x :: s) h := rf_pure (i := .iload_n 3) (len := 1) (okD_ok (by decide +kernel)) rfl
theorem e182_33 : rf d 182 33 ls s h = rf d 182 34 ls (.int (-1) :: s) h := rf_pure (i := .iconst (-1)) (len := 1) (okD_ok (by decide +kernel)) rfl
theorem e182_34 : rf d 182 34 ls (.int y :: .int x :: s) h = if x = y then rf d 182 50 ls s h else rf d 182 37 ls s h := g_ic (c := .eq) (off := 16) _ (by decide +kernel) rfl cmp_d
theorem e182_37 : rf d 182 37 [some (.ref a), l1, l2, l3, l4] s h = rf d 182 38 [some (.ref a), l1, l2, l3, l4] (.ref a :: s) h := rf_pure (i := .aload_n 0) (len := 1) (okD_ok (by decide +kernel)) rfl
theorem e182_38 : rf d 182 38 [l0, some (.int x), l2, l3, l4] s h = rf d 182 39 [l0, some (.int x), l2, l3, l4] (.int x :: s) h := rf_pure (i := .iload_n 1) (len := 1) (okD_ok (by decide +kernel)) rfl
theorem e182_39 : rf d 182 39 [l0, l1, l2, some (.int x), l4] s h = rf d 182 40 [l0, l1, l2, some (.int x), l4] (.int x :: s) h := rf_pure (i := .iload_n 3) (len := 1) (okD_ok (by decide +kernel)) rfl
theorem e182_40 (hcat : ip_cat s ≤ 8) : rf (d + 1) 182 40 ls (.int x1 :: .int x0 :: .ref 2 :: s) (SH n, I, L, R, nc, ns, nx) = rf_k (d + 1) 182 40 ls s (cf d 27 [.ref 2, .int x0, .int x1] (SH n, I, L, R, nc, ns, nx)) := g_cv (idx := 357) (t := 7) [.int x1, .int x0] (by decide +kernel) ow182 ms_7_357 mt_7_357 cy27_7 rfl rfl mL27 rfl rfl (by decide) hcat
theorem e182_43 (hn : ip_nl l2 = true) : rf d 182 43 [l0, l1, l2, l3, l4] (.int x :: s) h = rf d 182 44 [l0, l1, l2, some (.int x), l4] s h := g_sti (i := .istore_n 3) (len := 1) (q := 2) (p := 1) (by decide +kernel) rfl rfl hn
theorem e182_44 (hn : ip_nl l3 = true) : rf d 182 44 [l0, l1, l2, l3, some (.int x)] s h = rf d 182 47 [l0, l1, l2, l3, some (.int (x + (-1)))] s h := g_inc (q := 3) (z := -1) (w := (-1)) (x := x) (by decide) (by decide +kernel) rfl rfl hn
theorem e182_47 : rf d 182 47 ls s h = rf d 182 27 ls s h := rf_goto ⟨okD_ok (i := .goto (-20)) (len := 3) (by decide +kernel), rfl⟩
theorem e182_50 : rf d 182 50 [l0, l1, l2, some (.int x), l4] s h = rf d 182 51 [l0, l1, l2, some (.int x), l4] (.int x :: s) h := rf_pure (i := .iload_n 3) (len := 1) (okD_ok (by decide +kernel)) rfl
theorem e182_51 : rf d 182 51 ls [.int x] h = some (.inl (some (.int x)), h) := g_ri (by decide +kernel) rt182
theorem en184 : cf d 184 [.ref a] h = rf d 184 0 [some (.ref a), none] [] h := rfl
theorem e184_0 : rf d 184 0 ls s h = rf d 184 1 ls (.int 0 :: s) h := rf_pure (i := .iconst (0)) (len := 1) (okD_ok (by decide +kernel)) rfl
theorem e184_1 (hn : ip_nl l0 = true) : rf d 184 1 [l0, l1] (.int x :: s) h = rf d 184 2 [l0, some (.int x)] s h := g_sti (i := .istore_n 1) (len := 1) (q := 0) (p := 1) (by decide +kernel) rfl rfl hn
theorem e184_2 : rf d 184 2 [l0, some (.int x)] s h = rf d 184 3 [l0, some (.int x)] (.int x :: s) h := rf_pure (i := .iload_n 1) (len := 1) (okD_ok (by decide +kernel)) rfl
theorem e184_3 : rf d 184 3 ls s h = rf d 184 6 ls (.int 256 :: s) h := rf_pure (i := .sipush (256)) (len := 3) (okD_ok (by decide +kernel)) rfl
theorem e184_6 : rf d 184 6 ls (.int y :: .int x :: s) h = if y ≤ x then rf d 184 34 ls s h else rf d 184 9 ls s h := g_ic (c := .ge) (off := 28) _ (by decide +kernel) rfl cmp_d
theorem e184_9 : rf d 184 9 [some (.ref a), l1] s h = rf d 184 10 [some (.ref a), l1] (.ref a :: s) h := rf_pure (i := .aload_n 0) (len := 1) (okD_ok (by decide +kernel)) rfl
theorem e184_10 (hR : LYR R) : rf d 184 10 ls (.ref 265 :: s) (SH n, I, L, R, nc, ns, nx) = rf d 184 13 ls (.ref 287 :: s) (SH n, I, L, R, nc, ns, nx) := g_R (idx := 79) (by decide +kernel) ow184 f_8_79 rfl rfl (by decide) (ly_265_35 hR)
theorem e184_13 : rf d 184 13 [l0, some (.int x)] s h = rf d 184 14 [l0, some (.int x)] (.int x :: s) h := rf_pure (i := .iload_n 1) (len := 1) (okD_ok (by decide +kernel)) rfl
theorem e184_14 : rf d 184 14 [some (.ref a), l1] s h = rf d 184 15 [some (.ref a), l1] (.ref a :: s) h := rf_pure (i := .aload_n 0) (len := 1) (okD_ok (by decide +kernel)) rfl
theorem e184_15 : rf d 184 15 [l0, some (.int x)] s h = rf d 184 16 [l0, some (.int x)] (.int x :: s) h := rf_pure (i := .iload_n 1) (len := 1) (okD_ok (by decide +kernel)) rfl
theorem e184_16 (hcat : ip_cat s ≤ 8) : rf (d + 1) 184 16 ls (.int x0 :: .ref 265 :: s) (SH n, I, L, R, nc, ns, nx) = rf_k (d + 1) 184 16 ls s (cf d 185 [.ref 265, .int x0] (SH n, I, L, R, nc, ns, nx)) := g_cv (idx := 300) (t := 8) [.int x0] (by decide +kernel) ow184 ms_8_300 mt_8_300 cy185_8 rfl rfl mL185 rfl rfl (by decide) hcat
theorem e184_19 : rf d 184 19 ls (.int x :: s) h = if x = 0 then rf d 184 26 ls s h else rf d 184 22 ls s h := g_if (c := .eq) (off := 7) _ (by decide +kernel) rfl cmp_d
theorem e184_22 : rf d 184 22 ls s h = rf d 184 23 ls (.int 0 :: s) h := rf_pure (i := .iconst (0)) (len := 1) (okD_ok (by decide +kernel)) rfl
theorem e184_23 : rf d 184 23 ls s h = rf d 184 27 ls s h := rf_goto ⟨okD_ok (i := .goto (4)) (len := 3) (by decide +kernel), rfl⟩
theorem e184_26 : rf d 184 26 ls s h = rf d 184 27 ls (.int 1 :: s) h := rf_pure (i := .iconst (1)) (len := 1) (okD_ok (by decide +kernel)) rfl
theorem e184_27 (q : ia n a j) : rf d 184 27 ls (.int x :: .int j :: .ref a :: s) (SH n, I, L, R, nc, ns, nx) = rf d 184 28 ls s (SH n, ip_up I a j.toNatClampNeg x, L, R, nc, ns, nx) := g_ias (by decide +kernel) q
theorem e184_28 (hn : ip_nl l0 = true) : rf d 184 28 [l0, some (.int x)] s h = rf d 184 31 [l0, some (.int (x + 1))] s h := g_inc (q := 0) (z := 1) (w := 1) (x := x) (by decide) (by decide +kernel) rfl rfl hn
theorem e184_31 : rf d 184 31 ls s h = rf d 184 2 ls s h := rf_goto ⟨okD_ok (i := .goto (-29)) (len := 3) (by decide +kernel), rfl⟩
theorem e184_34 : rf d 184 34 [some (.ref a), l1] s h = rf d 184 35 [some (.ref a), l1] (.ref a :: s) h := rf_pure (i := .aload_n 0) (len := 1) (okD_ok (by decide +kernel)) rfl
theorem e184_35 : rf d 184 35 ls s h = rf d 184 36 ls (.int 1 :: s) h := rf_pure (i := .iconst (1)) (len := 1) (okD_ok (by decide +kernel)) rfl
theorem e184_36 : rf d 184 36 ls (.int x :: .ref 265 :: s) (SH n, I, L, R, nc, ns, nx) = rf d 184 39 ls s (SH n, ip_up I 265 37 x, L, R, nc, ns, nx) := g_pI (idx := 303) (by decide +kernel) ow184 f_8_303 rfl (by decide +kernel) rfl (by decide)
theorem e184_39 : rf d 184 39 [some (.ref a), l1] s h = rf d 184 40 [some (.ref a), l1] (.ref a :: s) h := rf_pure (i := .aload_n 0) (len := 1) (okD_ok (by decide +kernel)) rfl
theorem e184_40 : rf d 184 40 ls s h = rf d 184 41 ls (.int 0 :: s) h := rf_pure (i := .iconst (0)) (len := 1) (okD_ok (by decide +kernel)) rfl
theorem e184_41 : rf d 184 41 ls (.int x :: .ref 265 :: s) (SH n, I, L, R, nc, ns, nx) = rf d 184 44 ls s (SH n, ip_up I 265 38 x, L, R, nc, ns, nx) := g_pI (idx := 306) (by decide +kernel) ow184 f_8_306 rfl (by decide +kernel) rfl (by decide)
theorem e184_44 : rf d 184 44 [some (.ref a), l1] s h = rf d 184 45 [some (.ref a), l1] (.ref a :: s) h := rf_pure (i := .aload_n 0) (len := 1) (okD_ok (by decide +kernel)) rfl
theorem e184_45 (hR : LYR R) : rf d 184 45 ls (.ref 265 :: s) (SH n, I, L, R, nc, ns, nx) = rf d 184 48 ls (.ref 289 :: s) (SH n, I, L, R, nc, ns, nx) := g_R (idx := 85) (by decide +kernel) ow184 f_8_85 rfl rfl (by decide) (ly_265_39 hR)
theorem e184_48 : rf d 184 48 ls s h = rf d 184 49 ls (.int 0 :: s) h := rf_pure (i := .iconst (0)) (len := 1) (okD_ok (by decide +kernel)) rfl
theorem e184_49 : rf d 184 49 ls s h = rf d 184 50 ls (.int 0 :: s) h := rf_pure (i := .iconst (0)) (len := 1) (okD_ok (by decide +kernel)) rfl
theorem e184_50 (q : ia n a j) : rf d 184 50 ls (.int x :: .int j :: .ref a :: s) (SH n, I, L, R, nc, ns, nx) = rf d 184 51 ls s (SH n, ip_up I a j.toNatClampNeg x, L, R, nc, ns, nx) := g_ias (by decide +kernel) q
theorem e184_51 : rf d 184 51 [some (.ref a), l1] s h = rf d 184 52 [some (.ref a), l1] (.ref a :: s) h := rf_pure (i := .aload_n 0) (len := 1) (okD_ok (by decide +kernel)) rfl
theorem e184_52 (hR : LYR R) : rf d 184 52 ls (.ref 265 :: s) (SH n, I, L, R, nc, ns, nx) = rf d 184 55 ls (.ref 290 :: s) (SH n, I, L, R, nc, ns, nx) := g_R (idx := 88) (by decide +kernel) ow184 f_8_88 rfl rfl (by decide) (ly_265_40 hR)
theorem e184_55 : rf d 184 55 ls s h = rf d 184 56 ls (.int 0 :: s) h := rf_pure (i := .iconst (0)) (len := 1) (okD_ok (by decide +kernel)) rfl
theorem e184_56 : rf d 184 56 ls s h = rf d 184 57 ls (.int (-1) :: s) h := rf_pure (i := .iconst (-1)) (len := 1) (okD_ok (by decide +kernel)) rfl
theorem e184_57 (q : ia n a j) : rf d 184 57 ls (.int x :: .int j :: .ref a :: s) (SH n, I, L, R, nc, ns, nx) = rf d 184 58 ls s (SH n, ip_up I a j.toNatClampNeg x, L, R, nc, ns, nx) := g_ias (by decide +kernel) q
theorem e184_58 : rf d 184 58 [some (.ref a), l1] s h = rf d 184 59 [some (.ref a), l1] (.ref a :: s) h := rf_pure (i := .aload_n 0) (len := 1) (okD_ok (by decide +kernel)) rfl
theorem e184_59 (hR : LYR R) : rf d 184 59 ls (.ref 265 :: s) (SH n, I, L, R, nc, ns, nx) = rf d 184 62 ls (.ref 291 :: s) (SH n, I, L, R, nc, ns, nx) := g_R (idx := 91) (by decide +kernel) ow184 f_8_91 rfl rfl (by decide) (ly_265_41 hR)
theorem e184_62 : rf d 184 62 ls s h = rf d 184 63 ls (.int 0 :: s) h := rf_pure (i := .iconst (0)) (len := 1) (okD_ok (by decide +kernel)) rfl
theorem e184_63 : rf d 184 63 ls s h = rf d 184 64 ls (.int (-1) :: s) h := rf_pure (i := .iconst (-1)) (len := 1) (okD_ok (by decide +kernel)) rfl
theorem e184_64 (q : ia n a j) : rf d 184 64 ls (.int x :: .int j :: .ref a :: s) (SH n, I, L, R, nc, ns, nx) = rf d 184 65 ls s (SH n, ip_up I a j.toNatClampNeg x, L, R, nc, ns, nx) := g_ias (by decide +kernel) q
theorem e184_65 : rf d 184 65 [some (.ref a), l1] s h = rf d 184 66 [some (.ref a), l1] (.ref a :: s) h := rf_pure (i := .aload_n 0) (len := 1) (okD_ok (by decide +kernel)) rfl
theorem e184_66 (hR : LYR R) : rf d 184 66 ls (.ref 265 :: s) (SH n, I, L, R, nc, ns, nx) = rf d 184 69 ls (.ref 292 :: s) (SH n, I, L, R, nc, ns, nx) := g_R (idx := 94) (by decide +kernel) ow184 f_8_94 rfl rfl (by decide) (ly_265_42 hR)
theorem e184_69 : rf d 184 69 ls s h = rf d 184 70 ls (.int 0 :: s) h := rf_pure (i := .iconst (0)) (len := 1) (okD_ok (by decide +kernel)) rfl
theorem e184_70 : rf d 184 70 [some (.ref a), l1] s h = rf d 184 71 [some (.ref a), l1] (.ref a :: s) h := rf_pure (i := .aload_n 0) (len := 1) (okD_ok (by decide +kernel)) rfl
theorem e184_71 (hcat : ip_cat s ≤ 8) : rf (d + 1) 184 71 ls (.ref 265 :: s) (SH n, I, L, R, nc, ns, nx) = rf_k (d + 1) 184 71 ls s (cf d 187 [.ref 265] (SH n, I, L, R, nc, ns, nx)) := g_cv (idx := 309) (t := 8) [] (by decide +kernel) ow184 ms_8_309 mt_8_309 cy187_8 rfl rfl mL187 rfl rfl (by decide) hcat
theorem e184_74 (q : ia n a j) : rf d 184 74 ls (.int x :: .int j :: .ref a :: s) (SH n, I, L, R, nc, ns, nx) = rf d 184 75 ls s (SH n, ip_up I a j.toNatClampNeg x, L, R, nc, ns, nx) := g_ias (by decide +kernel) q
theorem e184_75 : rf d 184 75 [some (.ref a), l1] s h = rf d 184 76 [some (.ref a), l1] (.ref a :: s) h := rf_pure (i := .aload_n 0) (len := 1) (okD_ok (by decide +kernel)) rfl
theorem e184_76 (hR : LYR R) : rf d 184 76 ls (.ref 265 :: s) (SH n, I, L, R, nc, ns, nx) = rf d 184 79 ls (.ref 293 :: s) (SH n, I, L, R, nc, ns, nx) := g_R (idx := 97) (by decide +kernel) ow184 f_8_97 rfl rfl (by decide) (ly_265_43 hR)
theorem e184_79 : rf d 184 79 ls s h = rf d 184 80 ls (.int 0 :: s) h := rf_pure (i := .iconst (0)) (len := 1) (okD_ok (by decide +kernel)) rfl
theorem e184_80 : rf d 184 80 [some (.ref a), l1] s h = rf d 184 81 [some (.ref a), l1] (.ref a :: s) h := rf_pure (i := .aload_n 0) (len := 1) (okD_ok (by decide +kernel)) rfl
theorem e184_81 (hcat : ip_cat s ≤ 8) : rf (d + 1) 184 81 ls (.ref 265 :: s) (SH n, I, L, R, nc, ns, nx) = rf_k (d + 1) 184 81 ls s (cf d 187 [.ref 265] (SH n, I, L, R, nc, ns, nx)) := g_cv (idx := 309) (t := 8) [] (by decide +kernel) ow184 ms_8_309 mt_8_309 cy187_8 rfl rfl mL187 rfl rfl (by decide) hcat
theorem e184_84 (q : ia n a j) : rf d 184 84 ls (.int x :: .int j :: .ref a :: s) (SH n, I, L, R, nc, ns, nx) = rf d 184 85 ls s (SH n, ip_up I a j.toNatClampNeg x, L, R, nc, ns, nx) := g_ias (by decide +kernel) q
theorem e184_85 : rf d 184 85 [some (.ref a), l1] s h = rf d 184 86 [some (.ref a), l1] (.ref a :: s) h := rf_pure (i := .aload_n 0) (len := 1) (okD_ok (by decide +kernel)) rfl
theorem e184_86 (hR : LYR R) : rf d 184 86 ls (.ref 265 :: s) (SH n, I, L, R, nc, ns, nx) = rf d 184 89 ls (.ref 294 :: s) (SH n, I, L, R, nc, ns, nx) := g_R (idx := 100) (by decide +kernel) ow184 f_8_100 rfl rfl (by decide) (ly_265_44 hR)
theorem e184_89 : rf d 184 89 ls s h = rf d 184 90 ls (.int 0 :: s) h := rf_pure (i := .iconst (0)) (len := 1) (okD_ok (by decide +kernel)) rfl
theorem e184_90 : rf d 184 90 ls s h = rf d 184 91 ls (.int 0 :: s) h := rf_pure (i := .iconst (0)) (len := 1) (okD_ok (by decide +kernel)) rfl
theorem e184_91 (q : ia n a j) : rf d 184 91 ls (.int x :: .int j :: .ref a :: s) (SH n, I, L, R, nc, ns, nx) = rf d 184 92 ls s (SH n, ip_up I a j.toNatClampNeg x, L, R, nc, ns, nx) := g_ias (by decide +kernel) q
theorem e184_92 : rf d 184 92 [some (.ref a), l1] s h = rf d 184 93 [some (.ref a), l1] (.ref a :: s) h := rf_pure (i := .aload_n 0) (len := 1) (okD_ok (by decide +kernel)) rfl
theorem e184_93 (hR : LYR R) : rf d 184 93 ls (.ref 265 :: s) (SH n, I, L, R, nc, ns, nx) = rf d 184 96 ls (.ref 295 :: s) (SH n, I, L, R, nc, ns, nx) := g_R (idx := 103) (by decide +kernel) ow184 f_8_103 rfl rfl (by decide) (ly_265_45 hR)
theorem e184_96 : rf d 184 96 ls s h = rf d 184 97 ls (.int 0 :: s) h := rf_pure (i := .iconst (0)) (len := 1) (okD_ok (by decide +kernel)) rfl
theorem e184_97 : rf d 184 97 ls s h = rf d 184 98 ls (.int 0 :: s) h := rf_pure (i := .iconst (0)) (len := 1) (okD_ok (by decide +kernel)) rfl
theorem e184_98 (q : ia n a j) : rf d 184 98 ls (.int x :: .int j :: .ref a :: s) (SH n, I, L, R, nc, ns, nx) = rf d 184 99 ls s (SH n, ip_up I a j.toNatClampNeg x, L, R, nc, ns, nx) := g_ias (by decide +kernel) q
theorem e184_99 : rf d 184 99 [some (.ref a), l1] s h = rf d 184 100 [some (.ref a), l1] (.ref a :: s) h := rf_pure (i := .aload_n 0) (len := 1) (okD_ok (by decide +kernel)) rfl
theorem e184_100 (hR : LYR R) : rf d 184 100 ls (.ref 265 :: s) (SH n, I, L, R, nc, ns, nx) = rf d 184 103 ls (.ref 296 :: s) (SH n, I, L, R, nc, ns, nx) := g_R (idx := 106) (by decide +kernel) ow184 f_8_106 rfl rfl (by decide) (ly_265_46 hR)
theorem e184_103 : rf d 184 103 ls s h = rf d 184 104 ls (.int 0 :: s) h := rf_pure (i := .iconst (0)) (len := 1) (okD_ok (by decide +kernel)) rfl
theorem e184_104 : rf d 184 104 ls s h = rf d 184 105 ls (.int 0 :: s) h := rf_pure (i := .iconst (0)) (len := 1) (okD_ok (by decide +kernel)) rfl
theorem e184_105 (q : ia n a j) : rf d 184 105 ls (.int x :: .int j :: .ref a :: s) (SH n, I, L, R, nc, ns, nx) = rf d 184 106 ls s (SH n, ip_up I a j.toNatClampNeg x, L, R, nc, ns, nx) := g_ias (by decide +kernel) q
theorem e184_106 : rf d 184 106 [some (.ref a), l1] s h = rf d 184 107 [some (.ref a), l1] (.ref a :: s) h := rf_pure (i := .aload_n 0) (len := 1) (okD_ok (by decide +kernel)) rfl
theorem e184_107 (hR : LYR R) : rf d 184 107 ls (.ref 265 :: s) (SH n, I, L, R, nc, ns, nx) = rf d 184 110 ls (.ref 297 :: s) (SH n, I, L, R, nc, ns, nx) := g_R (idx := 109) (by decide +kernel) ow184 f_8_109 rfl rfl (by decide) (ly_265_47 hR)
theorem e184_110 : rf d 184 110 ls s h = rf d 184 111 ls (.int 0 :: s) h := rf_pure (i := .iconst (0)) (len := 1) (okD_ok (by decide +kernel)) rfl
theorem e184_111 : rf d 184 111 ls s h = rf d 184 112 ls (.int (-1) :: s) h := rf_pure (i := .iconst (-1)) (len := 1) (okD_ok (by decide +kernel)) rfl
theorem e184_112 (q : ia n a j) : rf d 184 112 ls (.int x :: .int j :: .ref a :: s) (SH n, I, L, R, nc, ns, nx) = rf d 184 113 ls s (SH n, ip_up I a j.toNatClampNeg x, L, R, nc, ns, nx) := g_ias (by decide +kernel) q
theorem e184_113 : rf d 184 113 [some (.ref a), l1] s h = rf d 184 114 [some (.ref a), l1] (.ref a :: s) h := rf_pure (i := .aload_n 0) (len := 1) (okD_ok (by decide +kernel)) rfl
theorem e184_114 (hR : LYR R) : rf d 184 114 ls (.ref 265 :: s) (SH n, I, L, R, nc, ns, nx) = rf d 184 117 ls (.ref 298 :: s) (SH n, I, L, R, nc, ns, nx) := g_R (idx := 112) (by decide +kernel) ow184 f_8_112 rfl rfl (by decide) (ly_265_48 hR)
theorem e184_117 : rf d 184 117 ls s h = rf d 184 118 ls (.int 0 :: s) h := rf_pure (i := .iconst (0)) (len := 1) (okD_ok (by decide +kernel)) rfl
theorem e184_118 : rf d 184 118 ls s h = rf d 184 119 ls (.int 0 :: s) h := rf_pure (i := .iconst (0)) (len := 1) (okD_ok (by decide +kernel)) rfl
theorem e184_119 (q : ia n a j) : rf d 184 119 ls (.int x :: .int j :: .ref a :: s) (SH n, I, L, R, nc, ns, nx) = rf d 184 120 ls s (SH n, ip_up I a j.toNatClampNeg x, L, R, nc, ns, nx) := g_ias (by decide +kernel) q
theorem e184_120 : rf d 184 120 [some (.ref a), l1] s h = rf d 184 121 [some (.ref a), l1] (.ref a :: s) h := rf_pure (i := .aload_n 0) (len := 1) (okD_ok (by decide +kernel)) rfl
theorem e184_121 (hR : LYR R) : rf d 184 121 ls (.ref 265 :: s) (SH n, I, L, R, nc, ns, nx) = rf d 184 124 ls (.ref 299 :: s) (SH n, I, L, R, nc, ns, nx) := g_R (idx := 115) (by decide +kernel) ow184 f_8_115 rfl rfl (by decide) (ly_265_49 hR)
theorem e184_124 : rf d 184 124 ls s h = rf d 184 125 ls (.int 0 :: s) h := rf_pure (i := .iconst (0)) (len := 1) (okD_ok (by decide +kernel)) rfl
theorem e184_125 : rf d 184 125 ls s h = rf d 184 126 ls (.int 0 :: s) h := rf_pure (i := .iconst (0)) (len := 1) (okD_ok (by decide +kernel)) rfl
theorem e184_126 (q : ia n a j) : rf d 184 126 ls (.int x :: .int j :: .ref a :: s) (SH n, I, L, R, nc, ns, nx) = rf d 184 127 ls s (SH n, ip_up I a j.toNatClampNeg x, L, R, nc, ns, nx) := g_ias (by decide +kernel) q
theorem e184_127 : rf d 184 127 ls s h = rf d 184 128 ls (.int 0 :: s) h := rf_pure (i := .iconst (0)) (len := 1) (okD_ok (by decide +kernel)) rfl
theorem e184_128 (hn : ip_nl l0 = true) : rf d 184 128 [l0, l1] (.int x :: s) h = rf d 184 129 [l0, some (.int x)] s h := g_sti (i := .istore_n 1) (len := 1) (q := 0) (p := 1) (by decide +kernel) rfl rfl hn
theorem e184_129 : rf d 184 129 [l0, some (.int x)] s h = rf d 184 130 [l0, some (.int x)] (.int x :: s) h := rf_pure (i := .iload_n 1) (len := 1) (okD_ok (by decide +kernel)) rfl
theorem e184_130 : rf d 184 130 ls s h = rf d 184 131 ls (.int 2 :: s) h := rf_pure (i := .iconst (2)) (len := 1) (okD_ok (by decide +kernel)) rfl
theorem e184_131 : rf d 184 131 ls (.int y :: .int x :: s) h = if y ≤ x then rf d 184 154 ls s h else rf d 184 134 ls s h := g_ic (c := .ge) (off := 23) _ (by decide +kernel) rfl cmp_d
theorem e184_134 : rf d 184 134 [some (.ref a), l1] s h = rf d 184 135 [some (.ref a), l1] (.ref a :: s) h := rf_pure (i := .aload_n 0) (len := 1) (okD_ok (by decide +kernel)) rfl
theorem e184_135 (hR : LYR R) : rf d 184 135 ls (.ref 265 :: s) (SH n, I, L, R, nc, ns, nx) = rf d 184 138 ls (.ref 300 :: s) (SH n, I, L, R, nc, ns, nx) := g_R (idx := 118) (by decide +kernel) ow184 f_8_118 rfl rfl (by decide) (ly_265_50 hR)
theorem e184_138 : rf d 184 138 [l0, some (.int x)] s h = rf d 184 139 [l0, some (.int x)] (.int x :: s) h := rf_pure (i := .iload_n 1) (len := 1) (okD_ok (by decide +kernel)) rfl
theorem e184_139 : rf d 184 139 ls s h = rf d 184 140 ls (.int 0 :: s) h := rf_pure (i := .iconst (0)) (len := 1) (okD_ok (by decide +kernel)) rfl
theorem e184_140 (q : ia n a j) : rf d 184 140 ls (.int x :: .int j :: .ref a :: s) (SH n, I, L, R, nc, ns, nx) = rf d 184 141 ls s (SH n, ip_up I a j.toNatClampNeg x, L, R, nc, ns, nx) := g_ias (by decide +kernel) q
theorem e184_141 : rf d 184 141 [some (.ref a), l1] s h = rf d 184 142 [some (.ref a), l1] (.ref a :: s) h := rf_pure (i := .aload_n 0) (len := 1) (okD_ok (by decide +kernel)) rfl
theorem e184_142 (hR : LYR R) : rf d 184 142 ls (.ref 265 :: s) (SH n, I, L, R, nc, ns, nx) = rf d 184 145 ls (.ref 301 :: s) (SH n, I, L, R, nc, ns, nx) := g_R (idx := 121) (by decide +kernel) ow184 f_8_121 rfl rfl (by decide) (ly_265_51 hR)
theorem e184_145 : rf d 184 145 [l0, some (.int x)] s h = rf d 184 146 [l0, some (.int x)] (.int x :: s) h := rf_pure (i := .iload_n 1) (len := 1) (okD_ok (by decide +kernel)) rfl
theorem e184_146 : rf d 184 146 ls s h = rf d 184 147 ls (.int 0 :: s) h := rf_pure (i := .iconst (0)) (len := 1) (okD_ok (by decide +kernel)) rfl
theorem e184_147 (q : ia n a j) : rf d 184 147 ls (.int x :: .int j :: .ref a :: s) (SH n, I, L, R, nc, ns, nx) = rf d 184 148 ls s (SH n, ip_up I a j.toNatClampNeg x, L, R, nc, ns, nx) := g_ias (by decide +kernel) q
theorem e184_148 (hn : ip_nl l0 = true) : rf d 184 148 [l0, some (.int x)] s h = rf d 184 151 [l0, some (.int (x + 1))] s h := g_inc (q := 0) (z := 1) (w := 1) (x := x) (by decide) (by decide +kernel) rfl rfl hn
theorem e184_151 : rf d 184 151 ls s h = rf d 184 129 ls s h := rf_goto ⟨okD_ok (i := .goto (-22)) (len := 3) (by decide +kernel), rfl⟩
theorem e184_154 : rf d 184 154 ls s h = rf d 184 155 ls (.int 0 :: s) h := rf_pure (i := .iconst (0)) (len := 1) (okD_ok (by decide +kernel)) rfl
theorem e184_155 (hn : ip_nl l0 = true) : rf d 184 155 [l0, l1] (.int x :: s) h = rf d 184 156 [l0, some (.int x)] s h := g_sti (i := .istore_n 1) (len := 1) (q := 0) (p := 1) (by decide +kernel) rfl rfl hn
theorem e184_156 : rf d 184 156 [l0, some (.int x)] s h = rf d 184 157 [l0, some (.int x)] (.int x :: s) h := rf_pure (i := .iload_n 1) (len := 1) (okD_ok (by decide +kernel)) rfl
theorem e184_157 : rf d 184 157 ls s h = rf d 184 159 ls (.int 8 :: s) h := rf_pure (i := .bipush (8)) (len := 2) (okD_ok (by decide +kernel)) rfl
theorem e184_159 : rf d 184 159 ls (.int y :: .int x :: s) h = if y ≤ x then rf d 184 174 ls s h else rf d 184 162 ls s h := g_ic (c := .ge) (off := 15) _ (by decide +kernel) rfl cmp_d
theorem e184_162 : rf d 184 162 [some (.ref a), l1] s h = rf d 184 163 [some (.ref a), l1] (.ref a :: s) h := rf_pure (i := .aload_n 0) (len := 1) (okD_ok (by decide +kernel)) rfl
theorem e184_163 : rf d 184 163 ls s h = rf d 184 164 ls (.int 0 :: s) h := rf_pure (i := .iconst (0)) (len := 1) (okD_ok (by decide +kernel)) rfl
theorem e184_164 : rf d 184 164 [l0, some (.int x)] s h = rf d 184 165 [l0, some (.int x)] (.int x :: s) h := rf_pure (i := .iload_n 1) (len := 1) (okD_ok (by decide +kernel)) rfl
theorem e184_165 (hcat : ip_cat s ≤ 8) : rf (d + 1) 184 165 ls (.int x1 :: .int x0 :: .ref 265 :: s) (SH n, I, L, R, nc, ns, nx) = rf_k (d + 1) 184 165 ls s (cf d 188 [.ref 265, .int x0, .int x1] (SH n, I, L, R, nc, ns, nx)) := g_cv (idx := 312) (t := 8) [.int x1, .int x0] (by decide +kernel) ow184 ms_8_312 mt_8_312 cy188_8 rfl rfl mL188 rfl rfl (by decide) hcat
theorem e184_168 (hn : ip_nl l0 = true) : rf d 184 168 [l0, some (.int x)] s h = rf d 184 171 [l0, some (.int (x + 1))] s h := g_inc (q := 0) (z := 1) (w := 1) (x := x) (by decide) (by decide +kernel) rfl rfl hn
theorem e184_171 : rf d 184 171 ls s h = rf d 184 156 ls s h := rf_goto ⟨okD_ok (i := .goto (-15)) (len := 3) (by decide +kernel), rfl⟩
theorem e184_174 : rf d 184 174 ls [] h = some (.inl none, h) := g_rv (by decide +kernel) rt184
theorem en185 : cf d 185 [.ref a, .int x0] h = rf d 185 0 [some (.ref a), some (.int x0), none, none, none, none] [] h := rfl
theorem e185_0 : rf d 185 0 ls s h = rf d 185 1 ls (.int 0 :: s) h := rf_pure (i := .iconst (0)) (len := 1) (okD_ok (by decide +kernel)) rfl
theorem e185_1 (hn : ip_nl l1 = true) : rf d 185 1 [l0, l1, l2, l3, l4, l5] (.int x :: s) h = rf d 185 2 [l0, l1, some (.int x), l3, l4, l5] s h := g_sti (i := .istore_n 2) (len := 1) (q := 1) (p := 1) (by decide +kernel) rfl rfl hn
theorem e185_2 : rf d 185 2 ls s h = rf d 185 3 ls (.int 0 :: s) h := rf_pure (i := .iconst (0)) (len := 1) (okD_ok (by decide +kernel)) rfl
theorem e185_3 (hn : ip_nl l2 = true) : rf d 185 3 [l0, l1, l2, l3, l4, l5] (.int x :: s) h = rf d 185 4 [l0, l1, l2, some (.int x), l4, l5] s h := g_sti (i := .istore_n 3) (len := 1) (q := 2) (p := 1) (by decide +kernel) rfl rfl hn
theorem e185_4 : rf d 185 4 [l0, l1, l2, some (.int x), l4, l5] s h = rf d 185 5 [l0, l1, l2, some (.int x), l4, l5] (.int x :: s) h := rf_pure (i := .iload_n 3) (len := 1) (okD_ok (by decide +kernel)) rfl
theorem e185_5 : rf d 185 5 [some (.ref a), l1, l2, l3, l4, l5] s h = rf d 185 6 [some (.ref a), l1, l2, l3, l4, l5] (.ref a :: s) h := rf_pure (i := .aload_n 0) (len := 1) (okD_ok (by decide +kernel)) rfl
theorem e185_6 : rf d 185 6 ls (.ref 265 :: s) (SH n, I, L, R, nc, ns, nx) = rf d 185 9 ls (.int (I 265 19) :: s) (SH n, I, L, R, nc, ns, nx) := g_I (idx := 297) (by decide +kernel) ow185 f_8_297 rfl rfl (by decide)
theorem e185_9 : rf d 185 9 ls (.int y :: .int x :: s) h = if y ≤ x then rf d 185 252 ls s h else rf d 185 12 ls s h := g_ic (c := .ge) (off := 243) _ (by decide +kernel) rfl cmp_d
theorem e185_12 : rf d 185 12 [some (.ref a), l1, l2, l3, l4, l5] s h = rf d 185 13 [some (.ref a), l1, l2, l3, l4, l5] (.ref a :: s) h := rf_pure (i := .aload_n 0) (len := 1) (okD_ok (by decide +kernel)) rfl
theorem e185_13 (hR : LYR R) : rf d 185 13 ls (.ref 265 :: s) (SH n, I, L, R, nc, ns, nx) = rf d 185 16 ls (.ref 278 :: s) (SH n, I, L, R, nc, ns, nx) := g_R (idx := 51) (by decide +kernel) ow185 f_8_51 rfl rfl (by decide) (ly_265_24 hR)
theorem e185_16 : rf d 185 16 [l0, l1, l2, some (.int x), l4, l5] s h = rf d 185 17 [l0, l1, l2, some (.int x), l4, l5] (.int x :: s) h := rf_pure (i := .iload_n 3) (len := 1) (okD_ok (by decide +kernel)) rfl
theorem e185_17 (q : ia n a j) : rf d 185 17 ls (.int j :: .ref a :: s) (SH n, I, L, R, nc, ns, nx) = rf d 185 18 ls (.int (I a j.toNatClampNeg) :: s) (SH n, I, L, R, nc, ns, nx) := g_ial (by decide +kernel) q
theorem e185_18 : rf d 185 18 ls (.int x :: s) h = if ¬ x = 0 then rf d 185 43 ls s h else rf d 185 21 ls s h := g_if (c := .ne) (off := 25) _ (by decide +kernel) rfl cmp_d
theorem e185_21 : rf d 185 21 [some (.ref a), l1, l2, l3, l4, l5] s h = rf d 185 22 [some (.ref a), l1, l2, l3, l4, l5] (.ref a :: s) h := rf_pure (i := .aload_n 0) (len := 1) (okD_ok (by decide +kernel)) rfl
theorem e185_22 (hR : LYR R) : rf d 185 22 ls (.ref 265 :: s) (SH n, I, L, R, nc, ns, nx) = rf d 185 25 ls (.ref 288 :: s) (SH n, I, L, R, nc, ns, nx) := g_R (idx := 82) (by decide +kernel) ow185 f_8_82 rfl rfl (by decide) (ly_265_36 hR)
theorem e185_25 : rf d 185 25 [l0, l1, some (.int x), l3, l4, l5] s h = rf d 185 26 [l0, l1, some (.int x), l3, l4, l5] (.int x :: s) h := rf_pure (i := .iload_n 2) (len := 1) (okD_ok (by decide +kernel)) rfl
theorem e185_26 : rf d 185 26 [l0, some (.int x), l2, l3, l4, l5] s h = rf d 185 27 [l0, some (.int x), l2, l3, l4, l5] (.int x :: s) h := rf_pure (i := .iload_n 1) (len := 1) (okD_ok (by decide +kernel)) rfl
theorem e185_27 : rf d 185 27 [some (.ref a), l1, l2, l3, l4, l5] s h = rf d 185 28 [some (.ref a), l1, l2, l3, l4, l5] (.ref a :: s) h := rf_pure (i := .aload_n 0) (len := 1) (okD_ok (by decide +kernel)) rfl
theorem e185_28 (hR : LYR R) : rf d 185 28 ls (.ref 265 :: s) (SH n, I, L, R, nc, ns, nx) = rf d 185 31 ls (.ref 279 :: s) (SH n, I, L, R, nc, ns, nx) := g_R (idx := 54) (by decide +kernel) ow185 f_8_54 rfl rfl (by decide) (ly_265_25 hR)
theorem e185_31 : rf d 185 31 [l0, l1, l2, some (.int x), l4, l5] s h = rf d 185 32 [l0, l1, l2, some (.int x), l4, l5] (.int x :: s) h := rf_pure (i := .iload_n 3) (len := 1) (okD_ok (by decide +kernel)) rfl
theorem e185_32 (q : ia n a j) : rf d 185 32 ls (.int j :: .ref a :: s) (SH n, I, L, R, nc, ns, nx) = rf d 185 33 ls (.int (I a j.toNatClampNeg) :: s) (SH n, I, L, R, nc, ns, nx) := g_ial (by decide +kernel) q
theorem e185_33 (hcat : ip_cat s ≤ 8) : rf (d + 1) 185 33 ls (.int x1 :: .int x0 :: s) h = rf_k (d + 1) 185 33 ls s (cf d 186 [.int x0, .int x1] h) := g_cs (idx := 234) [.int x1, .int x0] (by decide +kernel) ow185 ms_8_234 mt_8_234 (by decide) rfl mL186 rfl hcat
theorem e185_36 (q : za n a j) (hx : x = 0 ∨ x = 1) : rf d 185 36 ls (.int x :: .int j :: .ref a :: s) (SH n, I, L, R, nc, ns, nx) = rf d 185 37 ls s (SH n, ip_up I a j.toNatClampNeg x, L, R, nc, ns, nx) := g_zas (by decide +kernel) q hx
theorem e185_37 (hn : ip_nl l1 = true) : rf d 185 37 [l0, l1, some (.int x), l3, l4, l5] s h = rf d 185 40 [l0, l1, some (.int (x + 1)), l3, l4, l5] s h := g_inc (q := 1) (z := 1) (w := 1) (x := x) (by decide) (by decide +kernel) rfl rfl hn
theorem e185_40 : rf d 185 40 ls s h = rf d 185 246 ls s h := rf_goto ⟨okD_ok (i := .goto (206)) (len := 3) (by decide +kernel), rfl⟩
theorem e185_43 : rf d 185 43 [some (.ref a), l1, l2, l3, l4, l5] s h = rf d 185 44 [some (.ref a), l1, l2, l3, l4, l5] (.ref a :: s) h := rf_pure (i := .aload_n 0) (len := 1) (okD_ok (by decide +kernel)) rfl
theorem e185_44 (hR : LYR R) : rf d 185 44 ls (.ref 265 :: s) (SH n, I, L, R, nc, ns, nx) = rf d 185 47 ls (.ref 278 :: s) (SH n, I, L, R, nc, ns, nx) := g_R (idx := 51) (by decide +kernel) ow185 f_8_51 rfl rfl (by decide) (ly_265_24 hR)
theorem e185_47 : rf d 185 47 [l0, l1, l2, some (.int x), l4, l5] s h = rf d 185 48 [l0, l1, l2, some (.int x), l4, l5] (.int x :: s) h := rf_pure (i := .iload_n 3) (len := 1) (okD_ok (by decide +kernel)) rfl
theorem e185_48 (q : ia n a j) : rf d 185 48 ls (.int j :: .ref a :: s) (SH n, I, L, R, nc, ns, nx) = rf d 185 49 ls (.int (I a j.toNatClampNeg) :: s) (SH n, I, L, R, nc, ns, nx) := g_ial (by decide +kernel) q
theorem e185_49 : rf d 185 49 ls s h = rf d 185 50 ls (.int 1 :: s) h := rf_pure (i := .iconst (1)) (len := 1) (okD_ok (by decide +kernel)) rfl
theorem e185_50 : rf d 185 50 ls (.int y :: .int x :: s) h = if ¬ x = y then rf d 185 80 ls s h else rf d 185 53 ls s h := g_ic (c := .ne) (off := 30) _ (by decide +kernel) rfl cmp_d
theorem e185_53 : rf d 185 53 [some (.ref a), l1, l2, l3, l4, l5] s h = rf d 185 54 [some (.ref a), l1, l2, l3, l4, l5] (.ref a :: s) h := rf_pure (i := .aload_n 0) (len := 1) (okD_ok (by decide +kernel)) rfl
theorem e185_54 (hR : LYR R) : rf d 185 54 ls (.ref 265 :: s) (SH n, I, L, R, nc, ns, nx) = rf d 185 57 ls (.ref 288 :: s) (SH n, I, L, R, nc, ns, nx) := g_R (idx := 82) (by decide +kernel) ow185 f_8_82 rfl rfl (by decide) (ly_265_36 hR)
theorem e185_57 : rf d 185 57 [l0, l1, some (.int x), l3, l4, l5] s h = rf d 185 58 [l0, l1, some (.int x), l3, l4, l5] (.int x :: s) h := rf_pure (i := .iload_n 2) (len := 1) (okD_ok (by decide +kernel)) rfl
theorem e185_58 : rf d 185 58 ls s h = rf d 185 59 ls (.int 1 :: s) h := rf_pure (i := .iconst (1)) (len := 1) (okD_ok (by decide +kernel)) rfl
theorem e185_59 : rf d 185 59 ls (.int y :: .int x :: s) h = rf d 185 60 ls (.int (x - y) :: s) h := rf_pure (i := .isub) (len := 1) (okD_ok (by decide +kernel)) rfl
theorem e185_60 : rf d 185 60 [some (.ref a), l1, l2, l3, l4, l5] s h = rf d 185 61 [some (.ref a), l1, l2, l3, l4, l5] (.ref a :: s) h := rf_pure (i := .aload_n 0) (len := 1) (okD_ok (by decide +kernel)) rfl
theorem e185_61 (hR : LYR R) : rf d 185 61 ls (.ref 265 :: s) (SH n, I, L, R, nc, ns, nx) = rf d 185 64 ls (.ref 288 :: s) (SH n, I, L, R, nc, ns, nx) := g_R (idx := 82) (by decide +kernel) ow185 f_8_82 rfl rfl (by decide) (ly_265_36 hR)
theorem e185_64 : rf d 185 64 [l0, l1, some (.int x), l3, l4, l5] s h = rf d 185 65 [l0, l1, some (.int x), l3, l4, l5] (.int x :: s) h := rf_pure (i := .iload_n 2) (len := 1) (okD_ok (by decide +kernel)) rfl
theorem e185_65 : rf d 185 65 ls s h = rf d 185 66 ls (.int 1 :: s) h := rf_pure (i := .iconst (1)) (len := 1) (okD_ok (by decide +kernel)) rfl
theorem e185_66 : rf d 185 66 ls (.int y :: .int x :: s) h = rf d 185 67 ls (.int (x - y) :: s) h := rf_pure (i := .isub) (len := 1) (okD_ok (by decide +kernel)) rfl
theorem e185_67 (q : za n a j) : rf d 185 67 ls (.int j :: .ref a :: s) (SH n, I, L, R, nc, ns, nx) = rf d 185 68 ls (.int (I a j.toNatClampNeg) :: s) (SH n, I, L, R, nc, ns, nx) := g_zal (by decide +kernel) q
theorem e185_68 : rf d 185 68 ls (.int x :: s) h = if ¬ x = 0 then rf d 185 75 ls s h else rf d 185 71 ls s h := g_if (c := .ne) (off := 7) _ (by decide +kernel) rfl cmp_d
theorem e185_71 : rf d 185 71 ls s h = rf d 185 72 ls (.int 1 :: s) h := rf_pure (i := .iconst (1)) (len := 1) (okD_ok (by decide +kernel)) rfl
theorem e185_72 : rf d 185 72 ls s h = rf d 185 76 ls s h := rf_goto ⟨okD_ok (i := .goto (4)) (len := 3) (by decide +kernel), rfl⟩
theorem e185_75 : rf d 185 75 ls s h = rf d 185 76 ls (.int 0 :: s) h := rf_pure (i := .iconst (0)) (len := 1) (okD_ok (by decide +kernel)) rfl
theorem e185_76 (q : za n a j) (hx : x = 0 ∨ x = 1) : rf d 185 76 ls (.int x :: .int j :: .ref a :: s) (SH n, I, L, R, nc, ns, nx) = rf d 185 77 ls s (SH n, ip_up I a j.toNatClampNeg x, L, R, nc, ns, nx) := g_zas (by decide +kernel) q hx
theorem e185_77 : rf d 185 77 ls s h = rf d 185 246 ls s h := rf_goto ⟨okD_ok (i := .goto (169)) (len := 3) (by decide +kernel), rfl⟩
theorem e185_80 : rf d 185 80 [some (.ref a), l1, l2, l3, l4, l5] s h = rf d 185 81 [some (.ref a), l1, l2, l3, l4, l5] (.ref a :: s) h := rf_pure (i := .aload_n 0) (len := 1) (okD_ok (by decide +kernel)) rfl
theorem e185_81 (hR : LYR R) : rf d 185 81 ls (.ref 265 :: s) (SH n, I, L, R, nc, ns, nx) = rf d 185 84 ls (.ref 278 :: s) (SH n, I, L, R, nc, ns, nx) := g_R (idx := 51) (by decide +kernel) ow185 f_8_51 rfl rfl (by decide) (ly_265_24 hR)
theorem e185_84 : rf d 185 84 [l0, l1, l2, some (.int x), l4, l5] s h = rf d 185 85 [l0, l1, l2, some (.int x), l4, l5] (.int x :: s) h := rf_pure (i := .iload_n 3) (len := 1) (okD_ok (by decide +kernel)) rfl
theorem e185_85 (q : ia n a j) : rf d 185 85 ls (.int j :: .ref a :: s) (SH n, I, L, R, nc, ns, nx) = rf d 185 86 ls (.int (I a j.toNatClampNeg) :: s) (SH n, I, L, R, nc, ns, nx) := g_ial (by decide +kernel) q
theorem e185_86 : rf d 185 86 ls s h = rf d 185 87 ls (.int 4 :: s) h := rf_pure (i := .iconst (4)) (len := 1) (okD_ok (by decide +kernel)) rfl
theorem e185_87 : rf d 185 87 ls (.int y :: .int x :: s) h = if ¬ x = y then rf d 185 172 ls s h else rf d 185 90 ls s h := g_ic (c := .ne) (off := 85) _ (by decide +kernel) rfl cmp_d
theorem e185_90 : rf d 185 90 ls s h = rf d 185 91 ls (.int 0 :: s) h := rf_pure (i := .iconst (0)) (len := 1) (okD_ok (by decide +kernel)) rfl
theorem e185_91 (hn : ip_nl l3 = true) : rf d 185 91 [l0, l1, l2, l3, l4, l5] (.int x :: s) h = rf d 185 93 [l0, l1, l2, l3, some (.int x), l5] s h := g_sti (i := .istore 4) (len := 2) (q := 3) (p := 2) (by decide +kernel) rfl rfl hn
theorem e185_93 : rf d 185 93 [l0, l1, some (.int x), l3, l4, l5] s h = rf d 185 94 [l0, l1, some (.int x), l3, l4, l5] (.int x :: s) h := rf_pure (i := .iload_n 2) (len := 1) (okD_ok (by decide +kernel)) rfl
theorem e185_94 : rf d 185 94 [some (.ref a), l1, l2, l3, l4, l5] s h = rf d 185 95 [some (.ref a), l1, l2, l3, l4, l5] (.ref a :: s) h := rf_pure (i := .aload_n 0) (len := 1) (okD_ok (by decide +kernel)) rfl
theorem e185_95 (hR : LYR R) : rf d 185 95 ls (.ref 265 :: s) (SH n, I, L, R, nc, ns, nx) = rf d 185 98 ls (.ref 280 :: s) (SH n, I, L, R, nc, ns, nx) := g_R (idx := 57) (by decide +kernel) ow185 f_8_57 rfl rfl (by decide) (ly_265_26 hR)
theorem e185_98 : rf d 185 98 [l0, l1, l2, some (.int x), l4, l5] s h = rf d 185 99 [l0, l1, l2, some (.int x), l4, l5] (.int x :: s) h := rf_pure (i := .iload_n 3) (len := 1) (okD_ok (by decide +kernel)) rfl
theorem e185_99 (q : ia n a j) : rf d 185 99 ls (.int j :: .ref a :: s) (SH n, I, L, R, nc, ns, nx) = rf d 185 100 ls (.int (I a j.toNatClampNeg) :: s) (SH n, I, L, R, nc, ns, nx) := g_ial (by decide +kernel) q
theorem e185_100 : rf d 185 100 ls (.int y :: .int x :: s) h = rf d 185 101 ls (.int (x - y) :: s) h := rf_pure (i := .isub) (len := 1) (okD_ok (by decide +kernel)) rfl
theorem e185_101 (hn : ip_nl l4 = true) : rf d 185 101 [l0, l1, l2, l3, l4, l5] (.int x :: s) h = rf d 185 103 [l0, l1, l2, l3, l4, some (.int x)] s h := g_sti (i := .istore 5) (len := 2) (q := 4) (p := 2) (by decide +kernel) rfl rfl hn
theorem e185_103 : rf d 185 103 [l0, l1, l2, l3, l4, some (.int x)] s h = rf d 185 105 [l0, l1, l2, l3, l4, some (.int x)] (.int x :: s) h := rf_pure (i := .iload 5) (len := 2) (okD_ok (by decide +kernel)) rfl
theorem e185_105 : rf d 185 105 [l0, l1, some (.int x), l3, l4, l5] s h = rf d 185 106 [l0, l1, some (.int x), l3, l4, l5] (.int x :: s) h := rf_pure (i := .iload_n 2) (len := 1) (okD_ok (by decide +kernel)) rfl
theorem e185_106 : rf d 185 106 ls (.int y :: .int x :: s) h = if y ≤ x then rf d 185 135 ls s h else rf d 185 109 ls s h := g_ic (c := .ge) (off := 29) _ (by decide +kernel) rfl cmp_d
theorem e185_109 : rf d 185 109 [l0, l1, l2, l3, some (.int x), l5] s h = rf d 185 111 [l0, l1, l2, l3, some (.int x), l5] (.int x :: s) h := rf_pure (i := .iload 4) (len := 2) (okD_ok (by decide +kernel)) rfl
theorem e185_111 : rf d 185 111 [some (.ref a), l1, l2, l3, l4, l5] s h = rf d 185 112 [some (.ref a), l1, l2, l3, l4, l5] (.ref a :: s) h := rf_pure (i := .aload_n 0) (len := 1) (okD_ok (by decide +kernel)) rfl
theorem e185_112 (hR : LYR R) : rf d 185 112 ls (.ref 265 :: s) (SH n, I, L, R, nc, ns, nx) = rf d 185 115 ls (.ref 288 :: s) (SH n, I, L, R, nc, ns, nx) := g_R (idx := 82) (by decide +kernel) ow185 f_8_82 rfl rfl (by decide) (ly_265_36 hR)
theorem e185_115 : rf d 185 115 [l0, l1, l2, l3, l4, some (.int x)] s h = rf d 185 117 [l0, l1, l2, l3, l4, some (.int x)] (.int x :: s) h := rf_pure (i := .iload 5) (len := 2) (okD_ok (by decide +kernel)) rfl
theorem e185_117 (q : za n a j) : rf d 185 117 ls (.int j :: .ref a :: s) (SH n, I, L, R, nc, ns, nx) = rf d 185 118 ls (.int (I a j.toNatClampNeg) :: s) (SH n, I, L, R, nc, ns, nx) := g_zal (by decide +kernel) q
theorem e185_118 : rf d 185 118 ls (.int x :: s) h = if x = 0 then rf d 185 125 ls s h else rf d 185 121 ls s h := g_if (c := .eq) (off := 7) _ (by decide +kernel) rfl cmp_d
theorem e185_121 : rf d 185 121 ls s h = rf d 185 122 ls (.int 1 :: s) h := rf_pure (i := .iconst (1)) (len := 1) (okD_ok (by decide +kernel)) rfl
theorem e185_122 : rf d 185 122 ls s h = rf d 185 126 ls s h := rf_goto ⟨okD_ok (i := .goto (4)) (len := 3) (by decide +kernel), rfl⟩
theorem e185_125 : rf d 185 125 ls s h = rf d 185 126 ls (.int 0 :: s) h := rf_pure (i := .iconst (0)) (len := 1) (okD_ok (by decide +kernel)) rfl
theorem e185_126 : rf d 185 126 ls (.int y :: .int x :: s) h = rf d 185 127 ls (.int (x + y) :: s) h := rf_pure (i := .iadd) (len := 1) (okD_ok (by decide +kernel)) rfl
theorem e185_127 (hn : ip_nl l3 = true) : rf d 185 127 [l0, l1, l2, l3, l4, l5] (.int x :: s) h = rf d 185 129 [l0, l1, l2, l3, some (.int x), l5] s h := g_sti (i := .istore 4) (len := 2) (q := 3) (p := 2) (by decide +kernel) rfl rfl hn
theorem e185_129 (hn : ip_nl l4 = true) : rf d 185 129 [l0, l1, l2, l3, l4, some (.int x)] s h = rf d 185 132 [l0, l1, l2, l3, l4, some (.int (x + 1))] s h := g_inc (q := 4) (z := 1) (w := 1) (x := x) (by decide) (by decide +kernel) rfl rfl hn
theorem e185_132 : rf d 185 132 ls s h = rf d 185 103 ls s h := rf_goto ⟨okD_ok (i := .goto (-29)) (len := 3) (by decide +kernel), rfl⟩
theorem e185_135 : rf d 185 135 [l0, l1, some (.int x), l3, l4, l5] s h = rf d 185 136 [l0, l1, some (.int x), l3, l4, l5] (.int x :: s) h := rf_pure (i := .iload_n 2) (len := 1) (okD_ok (by decide +kernel)) rfl
theorem e185_136 : rf d 185 136 [some (.ref a), l1, l2, l3, l4, l5] s h = rf d 185 137 [some (.ref a), l1, l2, l3, l4, l5] (.ref a :: s) h := rf_pure (i := .aload_n 0) (len := 1) (okD_ok (by decide +kernel)) rfl
theorem e185_137 (hR : LYR R) : rf d 185 137 ls (.ref 265 :: s) (SH n, I, L, R, nc, ns, nx) = rf d 185 140 ls (.ref 280 :: s) (SH n, I, L, R, nc, ns, nx) := g_R (idx := 57) (by decide +kernel) ow185 f_8_57 rfl rfl (by decide) (ly_265_26 hR)
theorem e185_140 : rf d 185 140 [l0, l1, l2, some (.int x), l4, l5] s h = rf d 185 141 [l0, l1, l2, some (.int x), l4, l5] (.int x :: s) h := rf_pure (i := .iload_n 3) (len := 1) (okD_ok (by decide +kernel)) rfl
theorem e185_141 (q : ia n a j) : rf d 185 141 ls (.int j :: .ref a :: s) (SH n, I, L, R, nc, ns, nx) = rf d 185 142 ls (.int (I a j.toNatClampNeg) :: s) (SH n, I, L, R, nc, ns, nx) := g_ial (by decide +kernel) q
theorem e185_142 : rf d 185 142 ls (.int y :: .int x :: s) h = rf d 185 143 ls (.int (x - y) :: s) h := rf_pure (i := .isub) (len := 1) (okD_ok (by decide +kernel)) rfl
theorem e185_143 (hn : ip_nl l1 = true) : rf d 185 143 [l0, l1, l2, l3, l4, l5] (.int x :: s) h = rf d 185 144 [l0, l1, some (.int x), l3, l4, l5] s h := g_sti (i := .istore_n 2) (len := 1) (q := 1) (p := 1) (by decide +kernel) rfl rfl hn
theorem e185_144 : rf d 185 144 [some (.ref a), l1, l2, l3, l4, l5] s h = rf d 185 145 [some (.ref a), l1, l2, l3, l4, l5] (.ref a :: s) h := rf_pure (i := .aload_n 0) (len := 1) (okD_ok (by decide +kernel)) rfl
theorem e185_145 (hR : LYR R) : rf d 185 145 ls (.ref 265 :: s) (SH n, I, L, R, nc, ns, nx) = rf d 185 148 ls (.ref 288 :: s) (SH n, I, L, R, nc, ns, nx) := g_R (idx := 82) (by decide +kernel) ow185 f_8_82 rfl rfl (by decide) (ly_265_36 hR)
theorem e185_148 : rf d 185 148 [l0, l1, some (.int x), l3, l4, l5] s h = rf d 185 149 [l0, l1, some (.int x), l3, l4, l5] (.int x :: s) h := rf_pure (i := .iload_n 2) (len := 1) (okD_ok (by decide +kernel)) rfl
theorem e185_149 : rf d 185 149 [l0, l1, l2, l3, some (.int x), l5] s h = rf d 185 151 [l0, l1, l2, l3, some (.int x), l5] (.int x :: s) h := rf_pure (i := .iload 4) (len := 2) (okD_ok (by decide +kernel)) rfl
theorem e185_151 : rf d 185 151 [some (.ref a), l1, l2, l3, l4, l5] s h = rf d 185 152 [some (.ref a), l1, l2, l3, l4, l5] (.ref a :: s) h := rf_pure (i := .aload_n 0) (len := 1) (okD_ok (by decide +kernel)) rfl
theorem e185_152 (hR : LYR R) : rf d 185 152 ls (.ref 265 :: s) (SH n, I, L, R, nc, ns, nx) = rf d 185 155 ls (.ref 279 :: s) (SH n, I, L, R, nc, ns, nx) := g_R (idx := 54) (by decide +kernel) ow185 f_8_54 rfl rfl (by decide) (ly_265_25 hR)
theorem e185_155 : rf d 185 155 [l0, l1, l2, some (.int x), l4, l5] s h = rf d 185 156 [l0, l1, l2, some (.int x), l4, l5] (.int x :: s) h := rf_pure (i := .iload_n 3) (len := 1) (okD_ok (by decide +kernel)) rfl
theorem e185_156 (q : ia n a j) : rf d 185 156 ls (.int j :: .ref a :: s) (SH n, I, L, R, nc, ns, nx) = rf d 185 157 ls (.int (I a j.toNatClampNeg) :: s) (SH n, I, L, R, nc, ns, nx) := g_ial (by decide +kernel) q
theorem e185_157 : rf d 185 157 ls (.int y :: .int x :: s) h = if x < y then rf d 185 164 ls s h else rf d 185 160 ls s h := g_ic (c := .lt) (off := 7) _ (by decide +kernel) rfl cmp_d
theorem e185_160 : rf d 185 160 ls s h = rf d 185 161 ls (.int 1 :: s) h := rf_pure (i := .iconst (1)) (len := 1) (okD_ok (by decide +kernel)) rfl
theorem e185_161 : rf d 185 161 ls s h = rf d 185 165 ls s h := rf_goto ⟨okD_ok (i := .goto (4)) (len := 3) (by decide +kernel), rfl⟩
theorem e185_164 : rf d 185 164 ls s h = rf d 185 165 ls (.int 0 :: s) h := rf_pure (i := .iconst (0)) (len := 1) (okD_ok (by decide +kernel)) rfl
theorem e185_165 (q : za n a j) (hx : x = 0 ∨ x = 1) : rf d 185 165 ls (.int x :: .int j :: .ref a :: s) (SH n, I, L, R, nc, ns, nx) = rf d 185 166 ls s (SH n, ip_up I a j.toNatClampNeg x, L, R, nc, ns, nx) := g_zas (by decide +kernel) q hx
theorem e185_166 (hn : ip_nl l1 = true) : rf d 185 166 [l0, l1, some (.int x), l3, l4, l5] s h = rf d 185 169 [l0, l1, some (.int (x + 1)), l3, l4, l5] s h := g_inc (q := 1) (z := 1) (w := 1) (x := x) (by decide) (by decide +kernel) rfl rfl hn
theorem e185_169 : rf d 185 169 ls s h = rf d 185 246 ls s h := rf_goto ⟨okD_ok (i := .goto (77)) (len := 3) (by decide +kernel), rfl⟩
theorem e185_172 (hn : ip_nl l1 = true) : rf d 185 172 [l0, l1, some (.int x), l3, l4, l5] s h = rf d 185 175 [l0, l1, some (.int (x + (-1))), l3, l4, l5] s h := g_inc (q := 1) (z := -1) (w := (-1)) (x := x) (by decide) (by decide +kernel) rfl rfl hn
theorem e185_175 : rf d 185 175 [some (.ref a), l1, l2, l3, l4, l5] s h = rf d 185 176 [some (.ref a), l1, l2, l3, l4, l5] (.ref a :: s) h := rf_pure (i := .aload_n 0) (len := 1) (okD_ok (by decide +kernel)) rfl
theorem e185_176 (hR : LYR R) : rf d 185 176 ls (.ref 265 :: s) (SH n, I, L, R, nc, ns, nx) = rf d 185 179 ls (.ref 288 :: s) (SH n, I, L, R, nc, ns, nx) := g_R (idx := 82) (by decide +kernel) ow185 f_8_82 rfl rfl (by decide) (ly_265_36 hR)
theorem e185_179 : rf d 185 179 [l0, l1, some (.int x), l3, l4, l5] s h = rf d 185 180 [l0, l1, some (.int x), l3, l4, l5] (.int x :: s) h := rf_pure (i := .iload_n 2) (len := 1) (okD_ok (by decide +kernel)) rfl
theorem e185_180 : rf d 185 180 ls s h = rf d 185 181 ls (.int 1 :: s) h := rf_pure (i := .iconst (1)) (len := 1) (okD_ok (by decide +kernel)) rfl
theorem e185_181 : rf d 185 181 ls (.int y :: .int x :: s) h = rf d 185 182 ls (.int (x - y) :: s) h := rf_pure (i := .isub) (len := 1) (okD_ok (by decide +kernel)) rfl
theorem e185_182 : rf d 185 182 [some (.ref a), l1, l2, l3, l4, l5] s h = rf d 185 183 [some (.ref a), l1, l2, l3, l4, l5] (.ref a :: s) h := rf_pure (i := .aload_n 0) (len := 1) (okD_ok (by decide +kernel)) rfl
theorem e185_183 (hR : LYR R) : rf d 185 183 ls (.ref 265 :: s) (SH n, I, L, R, nc, ns, nx) = rf d 185 186 ls (.ref 278 :: s) (SH n, I, L, R, nc, ns, nx) := g_R (idx := 51) (by decide +kernel) ow185 f_8_51 rfl rfl (by decide) (ly_265_24 hR)
theorem e185_186 : rf d 185 186 [l0, l1, l2, some (.int x), l4, l5] s h = rf d 185 187 [l0, l1, l2, some (.int x), l4, l5] (.int x :: s) h := rf_pure (i := .iload_n 3) (len := 1) (okD_ok (by decide +kernel)) rfl
theorem e185_187 (q : ia n a j) : rf d 185 187 ls (.int j :: .ref a :: s) (SH n, I, L, R, nc, ns, nx) = rf d 185 188 ls (.int (I a j.toNatClampNeg) :: s) (SH n, I, L, R, nc, ns, nx) := g_ial (by decide +kernel) q
theorem e185_188 : rf d 185 188 ls s h = rf d 185 189 ls (.int 2 :: s) h := rf_pure (i := .iconst (2)) (len := 1) (okD_ok (by decide +kernel)) rfl
theorem e185_189 : rf d 185 189 ls (.int y :: .int x :: s) h = if ¬ x = y then rf d 185 220 ls s h else rf d 185 192 ls s h := g_ic (c := .ne) (off := 31) _ (by decide +kernel) rfl cmp_d
theorem e185_192 : rf d 185 192 [some (.ref a), l1, l2, l3, l4, l5] s h = rf d 185 193 [some (.ref a), l1, l2, l3, l4, l5] (.ref a :: s) h := rf_pure (i := .aload_n 0) (len := 1) (okD_ok (by decide +kernel)) rfl
theorem e185_193 (hR : LYR R) : rf d 185 193 ls (.ref 265 :: s) (SH n, I, L, R, nc, ns, nx) = rf d 185 196 ls (.ref 288 :: s) (SH n, I, L, R, nc, ns, nx) := g_R (idx := 82) (by decide +kernel) ow185 f_8_82 rfl rfl (by decide) (ly_265_36 hR)
theorem e185_196 : rf d 185 196 [l0, l1, some (.int x), l3, l4, l5] s h = rf d 185 197 [l0, l1, some (.int x), l3, l4, l5] (.int x :: s) h := rf_pure (i := .iload_n 2) (len := 1) (okD_ok (by decide +kernel)) rfl
theorem e185_197 : rf d 185 197 ls s h = rf d 185 198 ls (.int 1 :: s) h := rf_pure (i := .iconst (1)) (len := 1) (okD_ok (by decide +kernel)) rfl
theorem e185_198 : rf d 185 198 ls (.int y :: .int x :: s) h = rf d 185 199 ls (.int (x - y) :: s) h := rf_pure (i := .isub) (len := 1) (okD_ok (by decide +kernel)) rfl
theorem e185_199 (q : za n a j) : rf d 185 199 ls (.int j :: .ref a :: s) (SH n, I, L, R, nc, ns, nx) = rf d 185 200 ls (.int (I a j.toNatClampNeg) :: s) (SH n, I, L, R, nc, ns, nx) := g_zal (by decide +kernel) q
theorem e185_200 : rf d 185 200 ls (.int x :: s) h = if x = 0 then rf d 185 216 ls s h else rf d 185 203 ls s h := g_if (c := .eq) (off := 16) _ (by decide +kernel) rfl cmp_d
theorem e185_203 : rf d 185 203 [some (.ref a), l1, l2, l3, l4, l5] s h = rf d 185 204 [some (.ref a), l1, l2, l3, l4, l5] (.ref a :: s) h := rf_pure (i := .aload_n 0) (len := 1) (okD_ok (by decide +kernel)) rfl
theorem e185_204 (hR : LYR R) : rf d 185 204 ls (.ref 265 :: s) (SH n, I, L, R, nc, ns, nx) = rf d 185 207 ls (.ref 288 :: s) (SH n, I, L, R, nc, ns, nx) := g_R (idx := 82) (by decide +kernel) ow185 f_8_82 rfl rfl (by decide) (ly_265_36 hR)
theorem e185_207 : rf d 185 207 [l0, l1, some (.int x), l3, l4, l5] s h = rf d 185 208 [l0, l1, some (.int x), l3, l4, l5] (.int x :: s) h := rf_pure (i := .iload_n 2) (len := 1) (okD_ok (by decide +kernel)) rfl
theorem e185_208 (q : za n a j) : rf d 185 208 ls (.int j :: .ref a :: s) (SH n, I, L, R, nc, ns, nx) = rf d 185 209 ls (.int (I a j.toNatClampNeg) :: s) (SH n, I, L, R, nc, ns, nx) := g_zal (by decide +kernel) q
theorem e185_209 : rf d 185 209 ls (.int x :: s) h = if x = 0 then rf d 185 216 ls s h else rf d 185 212 ls s h := g_if (c := .eq) (off := 7) _ (by decide +kernel) rfl cmp_d
theorem e185_212 : rf d 185 212 ls s h = rf d 185 213 ls (.int 1 :: s) h := rf_pure (i := .iconst (1)) (len := 1) (okD_ok (by decide +kernel)) rfl
theorem e185_213 : rf d 185 213 ls s h = rf d 185 245 ls s h := rf_goto ⟨okD_ok (i := .goto (32)) (len := 3) (by decide +kernel), rfl⟩
theorem e185_216 : rf d 185 216 ls s h = rf d 185 217 ls (.int 0 :: s) h := rf_pure (i := .iconst (0)) (len := 1) (okD_ok (by decide +kernel)) rfl
theorem e185_217 : rf d 185 217 ls s h = rf d 185 245 ls s h := rf_goto ⟨okD_ok (i := .goto (28)) (len := 3) (by decide +kernel), rfl⟩
theorem e185_220 : rf d 185 220 [some (.ref a), l1, l2, l3, l4, l5] s h = rf d 185 221 [some (.ref a), l1, l2, l3, l4, l5] (.ref a :: s) h := rf_pure (i := .aload_n 0) (len := 1) (okD_ok (by decide +kernel)) rfl
theorem e185_221 (hR : LYR R) : rf d 185 221 ls (.ref 265 :: s) (SH n, I, L, R, nc, ns, nx) = rf d 185 224 ls (.ref 288 :: s) (SH n, I, L, R, nc, ns, nx) := g_R (idx := 82) (by decide +kernel) ow185 f_8_82 rfl rfl (by decide) (ly_265_36 hR)
theorem e185_224 : rf d 185 224 [l0, l1, some (.int x), l3, l4, l5] s h = rf d 185 225 [l0, l1, some (.int x), l3, l4, l5] (.int x :: s) h := rf_pure (i := .iload_n 2) (len := 1) (okD_ok (by decide +kernel)) rfl
theorem e185_225 : rf d 185 225 ls s h = rf d 185 226 ls (.int 1 :: s) h := rf_pure (i := .iconst (1)) (len := 1) (okD_ok (by decide +kernel)) rfl
theorem e185_226 : rf d 185 226 ls (.int y :: .int x :: s) h = rf d 185 227 ls (.int (x - y) :: s) h := rf_pure (i := .isub) (len := 1) (okD_ok (by decide +kernel)) rfl
theorem e185_227 (q : za n a j) : rf d 185 227 ls (.int j :: .ref a :: s) (SH n, I, L, R, nc, ns, nx) = rf d 185 228 ls (.int (I a j.toNatClampNeg) :: s) (SH n, I, L, R, nc, ns, nx) := g_zal (by decide +kernel) q
theorem e185_228 : rf d 185 228 ls (.int x :: s) h = if ¬ x = 0 then rf d 185 240 ls s h else rf d 185 231 ls s h := g_if (c := .ne) (off := 12) _ (by decide +kernel) rfl cmp_d
theorem e185_231 : rf d 185 231 [some (.ref a), l1, l2, l3, l4, l5] s h = rf d 185 232 [some (.ref a), l1, l2, l3, l4, l5] (.ref a :: s) h := rf_pure (i := .aload_n 0) (len := 1) (okD_ok (by decide +kernel)) rfl
theorem e185_232 (hR : LYR R) : rf d 185 232 ls (.ref 265 :: s) (SH n, I, L, R, nc, ns, nx) = rf d 185 235 ls (.ref 288 :: s) (SH n, I, L, R, nc, ns, nx) := g_R (idx := 82) (by decide +kernel) ow185 f_8_82 rfl rfl (by decide) (ly_265_36 hR)
theorem e185_235 : rf d 185 235 [l0, l1, some (.int x), l3, l4, l5] s h = rf d 185 236 [l0, l1, some (.int x), l3, l4, l5] (.int x :: s) h := rf_pure (i := .iload_n 2) (len := 1) (okD_ok (by decide +kernel)) rfl
theorem e185_236 (q : za n a j) : rf d 185 236 ls (.int j :: .ref a :: s) (SH n, I, L, R, nc, ns, nx) = rf d 185 237 ls (.int (I a j.toNatClampNeg) :: s) (SH n, I, L, R, nc, ns, nx) := g_zal (by decide +kernel) q
theorem e185_237 : rf d 185 237 ls (.int x :: s) h = if x = 0 then rf d 185 244 ls s h else rf d 185 240 ls s h := g_if (c := .eq) (off := 7) _ (by decide +kernel) rfl cmp_d
theorem e185_240 : rf d 185 240 ls s h = rf d 185 241 ls (.int 1 :: s) h := rf_pure (i := .iconst (1)) (len := 1) (okD_ok (by decide +kernel)) rfl
theorem e185_241 : rf d 185 241 ls s h = rf d 185 245 ls s h := rf_goto ⟨okD_ok (i := .goto (4)) (len := 3) (by decide +kernel), rfl⟩
theorem e185_244 : rf d 185 244 ls s h = rf d 185 245 ls (.int 0 :: s) h := rf_pure (i := .iconst (0)) (len := 1) (okD_ok (by decide +kernel)) rfl
theorem e185_245 (q : za n a j) (hx : x = 0 ∨ x = 1) : rf d 185 245 ls (.int x :: .int j :: .ref a :: s) (SH n, I, L, R, nc, ns, nx) = rf d 185 246 ls s (SH n, ip_up I a j.toNatClampNeg x, L, R, nc, ns, nx) := g_zas (by decide +kernel) q hx
theorem e185_246 (hn : ip_nl l2 = true) : rf d 185 246 [l0, l1, l2, some (.int x), l4, l5] s h = rf d 185 249 [l0, l1, l2, some (.int (x + 1)), l4, l5] s h := g_inc (q := 2) (z := 1) (w := 1) (x := x) (by decide) (by decide +kernel) rfl rfl hn
theorem e185_249 : rf d 185 249 ls s h = rf d 185 4 ls s h := rf_goto ⟨okD_ok (i := .goto (-245)) (len := 3) (by decide +kernel), rfl⟩
theorem e185_252 : rf d 185 252 [some (.ref a), l1, l2, l3, l4, l5] s h = rf d 185 253 [some (.ref a), l1, l2, l3, l4, l5] (.ref a :: s) h := rf_pure (i := .aload_n 0) (len := 1) (okD_ok (by decide +kernel)) rfl
theorem e185_253 : rf d 185 253 ls (.ref 265 :: s) (SH n, I, L, R, nc, ns, nx) = rf d 185 256 ls (.int (I 265 19) :: s) (SH n, I, L, R, nc, ns, nx) := g_I (idx := 297) (by decide +kernel) ow185 f_8_297 rfl rfl (by decide)
theorem e185_256 : rf d 185 256 ls (.int x :: s) h = if x ≤ 0 then rf d 185 272 ls s h else rf d 185 259 ls s h := g_if (c := .le) (off := 16) _ (by decide +kernel) rfl cmp_d
theorem e185_259 : rf d 185 259 [some (.ref a), l1, l2, l3, l4, l5] s h = rf d 185 260 [some (.ref a), l1, l2, l3, l4, l5] (.ref a :: s) h := rf_pure (i := .aload_n 0) (len := 1) (okD_ok (by decide +kernel)) rfl
theorem e185_260 (hR : LYR R) : rf d 185 260 ls (.ref 265 :: s) (SH n, I, L, R, nc, ns, nx) = rf d 185 263 ls (.ref 288 :: s) (SH n, I, L, R, nc, ns, nx) := g_R (idx := 82) (by decide +kernel) ow185 f_8_82 rfl rfl (by decide) (ly_265_36 hR)
theorem e185_263 : rf d 185 263 ls s h = rf d 185 264 ls (.int 0 :: s) h := rf_pure (i := .iconst (0)) (len := 1) (okD_ok (by decide +kernel)) rfl
theorem e185_264 (q : za n a j) : rf d 185 264 ls (.int j :: .ref a :: s) (SH n, I, L, R, nc, ns, nx) = rf d 185 265 ls (.int (I a j.toNatClampNeg) :: s) (SH n, I, L, R, nc, ns, nx) := g_zal (by decide +kernel) q
theorem e185_265 : rf d 185 265 ls (.int x :: s) h = if x = 0 then rf d 185 272 ls s h else rf d 185 268 ls s h := g_if (c := .eq) (off := 7) _ (by decide +kernel) rfl cmp_d
theorem e185_268 : rf d 185 268 ls s h = rf d 185 269 ls (.int 1 :: s) h := rf_pure (i := .iconst (1)) (len := 1) (okD_ok (by decide +kernel)) rfl
theorem e185_269 : rf d 185 269 ls s h = rf d 185 273 ls s h := rf_goto ⟨okD_ok (i := .goto (4)) (len := 3) (by decide +kernel), rfl⟩
theorem e185_272 : rf d 185 272 ls s h = rf d 185 273 ls (.int 0 :: s) h := rf_pure (i := .iconst (0)) (len := 1) (okD_ok (by decide +kernel)) rfl
theorem e185_273 (hx : x = 0 ∨ x = 1) : rf d 185 273 ls [.int x] h = some (.inl (some (.int x)), h) := g_rz (by decide +kernel) rt185 hx
theorem en186 : cf d 186 [.int x0, .int x1] h = rf d 186 0 [some (.int x0), some (.int x1)] [] h := rfl
theorem e186_0 : rf d 186 0 [some (.int x), l1] s h = rf d 186 1 [some (.int x), l1] (.int x :: s) h := rf_pure (i := .iload_n 0) (len := 1) (okD_ok (by decide +kernel)) rfl
theorem e186_1 : rf d 186 1 [l0, some (.int x)] s h = rf d 186 2 [l0, some (.int x)] (.int x :: s) h := rf_pure (i := .iload_n 1) (len := 1) (okD_ok (by decide +kernel)) rfl
theorem e186_2 : rf d 186 2 ls (.int y :: .int x :: s) h = rf d 186 3 ls (.int (x >>> (y &&& 31)) :: s) h := rf_pure (i := .ishr) (len := 1) (okD_ok (by decide +kernel)) rfl
theorem e186_3 : rf d 186 3 ls s h = rf d 186 4 ls (.int 1 :: s) h := rf_pure (i := .iconst (1)) (len := 1) (okD_ok (by decide +kernel)) rfl
theorem e186_4 : rf d 186 4 ls (.int y :: .int x :: s) h = rf d 186 5 ls (.int (x &&& y) :: s) h := rf_pure (i := .iand) (len := 1) (okD_ok (by decide +kernel)) rfl
theorem e186_5 : rf d 186 5 ls s h = rf d 186 6 ls (.int 1 :: s) h := rf_pure (i := .iconst (1)) (len := 1) (okD_ok (by decide +kernel)) rfl
theorem e186_6 : rf d 186 6 ls (.int y :: .int x :: s) h = if ¬ x = y then rf d 186 13 ls s h else rf d 186 9 ls s h := g_ic (c := .ne) (off := 7) _ (by decide +kernel) rfl cmp_d
theorem e186_9 : rf d 186 9 ls s h = rf d 186 10 ls (.int 1 :: s) h := rf_pure (i := .iconst (1)) (len := 1) (okD_ok (by decide +kernel)) rfl
theorem e186_10 : rf d 186 10 ls s h = rf d 186 14 ls s h := rf_goto ⟨okD_ok (i := .goto (4)) (len := 3) (by decide +kernel), rfl⟩
theorem e186_13 : rf d 186 13 ls s h = rf d 186 14 ls (.int 0 :: s) h := rf_pure (i := .iconst (0)) (len := 1) (okD_ok (by decide +kernel)) rfl
theorem e186_14 (hx : x = 0 ∨ x = 1) : rf d 186 14 ls [.int x] h = some (.inl (some (.int x)), h) := g_rz (by decide +kernel) rt186 hx
theorem en187 : cf d 187 [.ref a] h = rf d 187 0 [some (.ref a)] [] h := rfl
theorem e187_0 : rf d 187 0 ls s h = rf d 187 1 ls (.int 1 :: s) h := rf_pure (i := .iconst (1)) (len := 1) (okD_ok (by decide +kernel)) rfl
theorem e187_1 : rf d 187 1 [some (.ref a)] s h = rf d 187 2 [some (.ref a)] (.ref a :: s) h := rf_pure (i := .aload_n 0) (len := 1) (okD_ok (by decide +kernel)) rfl
theorem e187_2 : rf d 187 2 ls (.ref 265 :: s) (SH n, I, L, R, nc, ns, nx) = rf d 187 5 ls (.int (I 265 17) :: s) (SH n, I, L, R, nc, ns, nx) := g_I (idx := 291) (by decide +kernel) ow187 f_8_291 rfl rfl (by decide)
theorem e187_5 : rf d 187 5 ls (.int y :: .int x :: s) h = rf d 187 6 ls (.int (x <<< (y &&& 31)) :: s) h := rf_pure (i := .ishl) (len := 1) (okD_ok (by decide +kernel)) rfl
theorem e187_6 : rf d 187 6 ls s h = rf d 187 7 ls (.int 1 :: s) h := rf_pure (i := .iconst (1)) (len := 1) (okD_ok (by decide +kernel)) rfl
theorem e187_7 : rf d 187 7 ls (.int y :: .int x :: s) h = rf d 187 8 ls (.int (x - y) :: s) h := rf_pure (i := .isub) (len := 1) (okD_ok (by decide +kernel)) rfl
theorem e187_8 : rf d 187 8 ls [.int x] h = some (.inl (some (.int x)), h) := g_ri (by decide +kernel) rt187
theorem en188 : cf d 188 [.ref a, .int x0, .int x1] h = rf d 188 0 [some (.ref a), some (.int x0), some (.int x1)] [] h := rfl
theorem e188_0 : rf d 188 0 [some (.ref a), l1, l2] s h = rf d 188 1 [some (.ref a), l1, l2] (.ref a :: s) h := rf_pure (i := .aload_n 0) (len := 1) (okD_ok (by decide +kernel)) rfl
theorem e188_1 (hR : LYR R) : rf d 188 1 ls (.ref 265 :: s) (SH n, I, L, R, nc, ns, nx) = rf d 188 4 ls (.ref 302 :: s) (SH n, I, L, R, nc, ns, nx) := g_R (idx := 124) (by decide +kernel) ow188 f_8_124 rfl rfl (by decide) (ly_265_52 hR)
theorem e188_4 : rf d 188 4 ls s h = rf d 188 6 ls (.int 8 :: s) h := rf_pure (i := .bipush (8)) (len := 2) (okD_ok (by decide +kernel)) rfl
theorem e188_6 : rf d 188 6 [l0, some (.int x), l2] s h = rf d 188 7 [l0, some (.int x), l2] (.int x :: s) h := rf_pure (i := .iload_n 1) (len := 1) (okD_ok (by decide +kernel)) rfl
theorem e188_7 : rf d 188 7 ls (.int y :: .int x :: s) h = rf d 188 8 ls (.int (x * y) :: s) h := rf_pure (i := .imul) (len := 1) (okD_ok (by decide +kernel)) rfl
theorem e188_8 : rf d 188 8 [l0, l1, some (.int x)] s h = rf d 188 9 [l0, l1, some (.int x)] (.int x :: s) h := rf_pure (i := .iload_n 2) (len := 1) (okD_ok (by decide +kernel)) rfl
theorem e188_9 : rf d 188 9 ls (.int y :: .int x :: s) h = rf d 188 10 ls (.int (x + y) :: s) h := rf_pure (i := .iadd) (len := 1) (okD_ok (by decide +kernel)) rfl
theorem e188_10 : rf d 188 10 ls s h = rf d 188 11 ls (.int (-1) :: s) h := rf_pure (i := .iconst (-1)) (len := 1) (okD_ok (by decide +kernel)) rfl
theorem e188_11 (q : ia n a j) : rf d 188 11 ls (.int x :: .int j :: .ref a :: s) (SH n, I, L, R, nc, ns, nx) = rf d 188 12 ls s (SH n, ip_up I a j.toNatClampNeg x, L, R, nc, ns, nx) := g_ias (by decide +kernel) q
theorem e188_12 : rf d 188 12 [some (.ref a), l1, l2] s h = rf d 188 13 [some (.ref a), l1, l2] (.ref a :: s) h := rf_pure (i := .aload_n 0) (len := 1) (okD_ok (by decide +kernel)) rfl
theorem e188_13 (hR : LYR R) : rf d 188 13 ls (.ref 265 :: s) (SH n, I, L, R, nc, ns, nx) = rf d 188 16 ls (.ref 303 :: s) (SH n, I, L, R, nc, ns, nx) := g_R (idx := 127) (by decide +kernel) ow188 f_8_127 rfl rfl (by decide) (ly_265_53 hR)
theorem e188_16 : rf d 188 16 ls s h = rf d 188 18 ls (.int 8 :: s) h := rf_pure (i := .bipush (8)) (len := 2) (okD_ok (by decide +kernel)) rfl
theorem e188_18 : rf d 188 18 [l0, some (.int x), l2] s h = rf d 188 19 [l0, some (.int x), l2] (.int x :: s) h := rf_pure (i := .iload_n 1) (len := 1) (okD_ok (by decide +kernel)) rfl
theorem e188_19 : rf d 188 19 ls (.int y :: .int x :: s) h = rf d 188 20 ls (.int (x * y) :: s) h := rf_pure (i := .imul) (len := 1) (okD_ok (by decide +kernel)) rfl
theorem e188_20 : rf d 188 20 [l0, l1, some (.int x)] s h = rf d 188 21 [l0, l1, some (.int x)] (.int x :: s) h := rf_pure (i := .iload_n 2) (len := 1) (okD_ok (by decide +kernel)) rfl
theorem e188_21 : rf d 188 21 ls (.int y :: .int x :: s) h = rf d 188 22 ls (.int (x + y) :: s) h := rf_pure (i := .iadd) (len := 1) (okD_ok (by decide +kernel)) rfl
theorem e188_22 : rf d 188 22 ls s h = rf d 188 23 ls (.int (-1) :: s) h := rf_pure (i := .iconst (-1)) (len := 1) (okD_ok (by decide +kernel)) rfl
theorem e188_23 (q : ia n a j) : rf d 188 23 ls (.int x :: .int j :: .ref a :: s) (SH n, I, L, R, nc, ns, nx) = rf d 188 24 ls s (SH n, ip_up I a j.toNatClampNeg x, L, R, nc, ns, nx) := g_ias (by decide +kernel) q
theorem e188_24 : rf d 188 24 [some (.ref a), l1, l2] s h = rf d 188 25 [some (.ref a), l1, l2] (.ref a :: s) h := rf_pure (i := .aload_n 0) (len := 1) (okD_ok (by decide +kernel)) rfl
theorem e188_25 (hR : LYR R) : rf d 188 25 ls (.ref 265 :: s) (SH n, I, L, R, nc, ns, nx) = rf d 188 28 ls (.ref 304 :: s) (SH n, I, L, R, nc, ns, nx) := g_R (idx := 130) (by decide +kernel) ow188 f_8_130 rfl rfl (by decide) (ly_265_54 hR)
theorem e188_28 : rf d 188 28 ls s h = rf d 188 30 ls (.int 8 :: s) h := rf_pure (i := .bipush (8)) (len := 2) (okD_ok (by decide +kernel)) rfl
theorem e188_30 : rf d 188 30 [l0, some (.int x), l2] s h = rf d 188 31 [l0, some (.int x), l2] (.int x :: s) h := rf_pure (i := .iload_n 1) (len := 1) (okD_ok (by decide +kernel)) rfl
theorem e188_31 : rf d 188 31 ls (.int y :: .int x :: s) h = rf d 188 32 ls (.int (x * y) :: s) h := rf_pure (i := .imul) (len := 1) (okD_ok (by decide +kernel)) rfl
theorem e188_32 : rf d 188 32 [l0, l1, some (.int x)] s h = rf d 188 33 [l0, l1, some (.int x)] (.int x :: s) h := rf_pure (i := .iload_n 2) (len := 1) (okD_ok (by decide +kernel)) rfl
theorem e188_33 : rf d 188 33 ls (.int y :: .int x :: s) h = rf d 188 34 ls (.int (x + y) :: s) h := rf_pure (i := .iadd) (len := 1) (okD_ok (by decide +kernel)) rfl
theorem e188_34 : rf d 188 34 ls s h = rf d 188 35 ls (.int (-1) :: s) h := rf_pure (i := .iconst (-1)) (len := 1) (okD_ok (by decide +kernel)) rfl
theorem e188_35 (q : ia n a j) : rf d 188 35 ls (.int x :: .int j :: .ref a :: s) (SH n, I, L, R, nc, ns, nx) = rf d 188 36 ls s (SH n, ip_up I a j.toNatClampNeg x, L, R, nc, ns, nx) := g_ias (by decide +kernel) q
theorem e188_36 : rf d 188 36 ls [] h = some (.inl none, h) := g_rv (by decide +kernel) rt188
theorem en189 : cf d 189 [.ref a] h = rf d 189 0 [some (.ref a)] [] h := rfl
theorem e189_0 : rf d 189 0 [some (.ref a)] s h = rf d 189 1 [some (.ref a)] (.ref a :: s) h := rf_pure (i := .aload_n 0) (len := 1) (okD_ok (by decide +kernel)) rfl
theorem e189_1 : rf d 189 1 ls (.ref 265 :: s) (SH n, I, L, R, nc, ns, nx) = rf d 189 4 ls (.int (I 265 0) :: s) (SH n, I, L, R, nc, ns, nx) := g_I (idx := 142) (by decide +kernel) ow189 f_8_142 rfl rfl (by decide)
theorem e189_4 : rf d 189 4 ls [.int x] h = some (.inl (some (.int x)), h) := g_ri (by decide +kernel) rt189
theorem en190 : cf d 190 [.ref a, .int x0, .int x1, .int x2, .int x3, .int x4] h = rf d 190 0 [some (.ref a), some (.int x0), some (.int x1), some (.int x2), some (.int x3), some (.int x4), none, none] [] h := rfl
theorem e190_0 : rf d 190 0 [some (.ref a), l1, l2, l3, l4, l5, l6, l7] s h = rf d 190 1 [some (.ref a), l1, l2, l3, l4, l5, l6, l7] (.ref a :: s) h := rf_pure (i := .aload_n 0) (len := 1) (okD_ok (by decide +kernel)) rfl
theorem e190_1 : rf d 190 1 ls s h = rf d 190 2 ls (.int 0 :: s) h := rf_pure (i := .iconst (0)) (len := 1) (okD_ok (by decide +kernel)) rfl
theorem e190_2 : rf d 190 2 ls (.int x :: .ref 265 :: s) (SH n, I, L, R, nc, ns, nx) = rf d 190 5 ls s (SH n, ip_up I 265 0 x, L, R, nc, ns, nx) := g_pI (idx := 142) (by decide +kernel) ow190 f_8_142 rfl (by decide +kernel) rfl (by decide)
theorem e190_5 : rf d 190 5 [some (.ref a), l1, l2, l3, l4, l5, l6, l7] s h = rf d 190 6 [some (.ref a), l1, l2, l3, l4, l5, l6, l7] (.ref a :: s) h := rf_pure (i := .aload_n 0) (len := 1) (okD_ok (by decide +kernel)) rfl
theorem e190_6 : rf d 190 6 ls (.ref 265 :: s) (SH n, I, L, R, nc, ns, nx) = rf d 190 9 ls (.int (I 265 2) :: s) (SH n, I, L, R, nc, ns, nx) := g_I (idx := 145) (by decide +kernel) ow190 f_8_145 rfl rfl (by decide)
theorem e190_9 : rf d 190 9 ls s h = rf d 190 11 ls (.int 20 :: s) h := rf_pure (i := .bipush (20)) (len := 2) (okD_ok (by decide +kernel)) rfl
theorem e190_11 : rf d 190 11 ls (.int y :: .int x :: s) h = rf d 190 12 ls (.int (x + y) :: s) h := rf_pure (i := .iadd) (len := 1) (okD_ok (by decide +kernel)) rfl
theorem e190_12 : rf d 190 12 ls s h = rf d 190 15 ls (.int 400 :: s) h := rf_pure (i := .sipush (400)) (len := 3) (okD_ok (by decide +kernel)) rfl
theorem e190_15 : rf d 190 15 ls (.int y :: .int x :: s) h = if x ≤ y then rf d 190 20 ls s h else rf d 190 18 ls s h := g_ic (c := .le) (off := 5) _ (by decide +kernel) rfl cmp_d
theorem e190_18 : rf d 190 18 ls s h = rf d 190 19 ls (.int (-1) :: s) h := rf_pure (i := .iconst (-1)) (len := 1) (okD_ok (by decide +kernel)) rfl
theorem e190_19 : rf d 190 19 ls [.int x] h = some (.inl (some (.int x)), h) := g_ri (by decide +kernel) rt190
theorem e190_20 : rf d 190 20 ls s h = rf d 190 21 ls (.int 0 :: s) h := rf_pure (i := .iconst (0)) (len := 1) (okD_ok (by decide +kernel)) rfl
theorem e190_21 (hn : ip_nl l5 = true) : rf d 190 21 [l0, l1, l2, l3, l4, l5, l6, l7] (.int x :: s) h = rf d 190 23 [l0, l1, l2, l3, l4, l5, some (.int x), l7] s h := g_sti (i := .istore 6) (len := 2) (q := 5) (p := 2) (by decide +kernel) rfl rfl hn
theorem e190_23 : rf d 190 23 [l0, l1, l2, l3, l4, l5, some (.int x), l7] s h = rf d 190 25 [l0, l1, l2, l3, l4, l5, some (.int x), l7] (.int x :: s) h := rf_pure (i := .iload 6) (len := 2) (okD_ok (by decide +kernel)) rfl
theorem e190_25 : rf d 190 25 ls s h = rf d 190 27 ls (.int 20 :: s) h := rf_pure (i := .bipush (20)) (len := 2) (okD_ok (by decide +kernel)) rfl
theorem e190_27 : rf d 190 27 ls (.int y :: .int x :: s) h = if y ≤ x then rf d 190 120 ls s h else rf d 190 30 ls s h := g_ic (c := .ge) (off := 93) _ (by decide +kernel) rfl cmp_d
theorem e190_30 : rf d 190 30 [l0, l1, l2, l3, l4, l5, some (.int x), l7] s h = rf d 190 32 [l0, l1, l2, l3, l4, l5, some (.int x), l7] (.int x :: s) h := rf_pure (i := .iload 6) (len := 2) (okD_ok (by decide +kernel)) rfl
theorem e190_32 : rf d 190 32 ls s h = rf d 190 33 ls (.int 4 :: s) h := rf_pure (i := .iconst (4)) (len := 1) (okD_ok (by decide +kernel)) rfl
theorem e190_33 : rf d 190 33 ls (.int y :: .int x :: s) h = if y ≤ x then rf d 190 40 ls s h else rf d 190 36 ls s h := g_ic (c := .ge) (off := 7) _ (by decide +kernel) rfl cmp_d
theorem e190_36 : rf d 190 36 [l0, some (.int x), l2, l3, l4, l5, l6, l7] s h = rf d 190 37 [l0, some (.int x), l2, l3, l4, l5, l6, l7] (.int x :: s) h := rf_pure (i := .iload_n 1) (len := 1) (okD_ok (by decide +kernel)) rfl
theorem e190_37 : rf d 190 37 ls s h = rf d 190 76 ls s h := rf_goto ⟨okD_ok (i := .goto (39)) (len := 3) (by decide +kernel), rfl⟩
theorem e190_40 : rf d 190 40 [l0, l1, l2, l3, l4, l5, some (.int x), l7] s h = rf d 190 42 [l0, l1, l2, l3, l4, l5, some (.int x), l7] (.int x :: s) h := rf_pure (i := .iload 6) (len := 2) (okD_ok (by decide +kernel)) rfl
theorem e190_42 : rf d 190 42 ls s h = rf d 190 44 ls (.int 8 :: s) h := rf_pure (i := .bipush (8)) (len := 2) (okD_ok (by decide +kernel)) rfl
theorem e190_44 : rf d 190 44 ls (.int y :: .int x :: s) h = if y ≤ x then rf d 190 51 ls s h else rf d 190 47 ls s h := g_ic (c := .ge) (off := 7) _ (by decide +kernel) rfl cmp_d
theorem e190_47 : rf d 190 47 [l0, l1, some (.int x), l3, l4, l5, l6, l7] s h = rf d 190 48 [l0, l1, some (.int x), l3, l4, l5, l6, l7] (.int x :: s) h := rf_pure (i := .iload_n 2) (len := 1) (okD_ok (by decide +kernel)) rfl
theorem e190_48 : rf d 190 48 ls s h = rf d 190 76 ls s h := rf_goto ⟨okD_ok (i := .goto (28)) (len := 3) (by decide +kernel), rfl⟩
theorem e190_51 : rf d 190 51 [l0, l1, l2, l3, l4, l5, some (.int x), l7] s h = rf d 190 53 [l0, l1, l2, l3, l4, l5, some (.int x), l7] (.int x :: s) h := rf_pure (i := .iload 6) (len := 2) (okD_ok (by decide +kernel)) rfl
theorem e190_53 : rf d 190 53 ls s h = rf d 190 55 ls (.int 12 :: s) h := rf_pure (i := .bipush (12)) (len := 2) (okD_ok (by decide +kernel)) rfl
theorem e190_55 : rf d 190 55 ls (.int y :: .int x :: s) h = if y ≤ x then rf d 190 62 ls s h else rf d 190 58 ls s h := g_ic (c := .ge) (off := 7) _ (by decide +kernel) rfl cmp_d
theorem e190_58 : rf d 190 58 [l0, l1, l2, some (.int x), l4, l5, l6, l7] s h = rf d 190 59 [l0, l1, l2, some (.int x), l4, l5, l6, l7] (.int x :: s) h := rf_pure (i := .iload_n 3) (len := 1) (okD_ok (by decide +kernel)) rfl
theorem e190_59 : rf d 190 59 ls s h = rf d 190 76 ls s h := rf_goto ⟨okD_ok (i := .goto (17)) (len := 3) (by decide +kernel), rfl⟩
theorem e190_62 : rf d 190 62 [l0, l1, l2, l3, l4, l5, some (.int x), l7] s h = rf d 190 64 [l0, l1, l2, l3, l4, l5, some (.int x), l7] (.int x :: s) h := rf_pure (i := .iload 6) (len := 2) (okD_ok (by decide +kernel)) rfl
theorem e190_64 : rf d 190 64 ls s h = rf d 190 66 ls (.int 16 :: s) h := rf_pure (i := .bipush (16)) (len := 2) (okD_ok (by decide +kernel)) rfl
theorem e190_66 : rf d 190 66 ls (.int y :: .int x :: s) h = if y ≤ x then rf d 190 74 ls s h else rf d 190 69 ls s h := g_ic (c := .ge) (off := 8) _ (by decide +kernel) rfl cmp_d
theorem e190_69 : rf d 190 69 [l0, l1, l2, l3, some (.int x), l5, l6, l7] s h = rf d 190 71 [l0, l1, l2, l3, some (.int x), l5, l6, l7] (.int x :: s) h := rf_pure (i := .iload 4) (len := 2) (okD_ok (by decide +kernel)) rfl
theorem e190_71 : rf d 190 71 ls s h = rf d 190 76 ls s h := rf_goto ⟨okD_ok (i := .goto (5)) (len := 3) (by decide +kernel), rfl⟩
theorem e190_74 : rf d 190 74 [l0, l1, l2, l3, l4, some (.int x), l6, l7] s h = rf d 190 76 [l0, l1, l2, l3, l4, some (.int x), l6, l7] (.int x :: s) h := rf_pure (i := .iload 5) (len := 2) (okD_ok (by decide +kernel)) rfl
theorem e190_76 (hn : ip_nl l6 = true) : rf d 190 76 [l0, l1, l2, l3, l4, l5, l6, l7] (.int x :: s) h = rf d 190 78 [l0, l1, l2, l3, l4, l5, l6, some (.int x)] s h := g_sti (i := .istore 7) (len := 2) (q := 6) (p := 2) (by decide +kernel) rfl rfl hn
theorem e190_78 : rf d 190 78 [some (.ref a), l1, l2, l3, l4, l5, l6, l7] s h = rf d 190 79 [some (.ref a), l1, l2, l3, l4, l5, l6, l7] (.ref a :: s) h := rf_pure (i := .aload_n 0) (len := 1) (okD_ok (by decide +kernel)) rfl
theorem e190_79 (hR : LYR R) : rf d 190 79 ls (.ref 265 :: s) (SH n, I, L, R, nc, ns, nx) = rf d 190 82 ls (.ref 266 :: s) (SH n, I, L, R, nc, ns, nx) := g_R (idx := 7) (by decide +kernel) ow190 f_8_7 rfl rfl (by decide) (ly_265_1 hR)
theorem e190_82 : rf d 190 82 [some (.ref a), l1, l2, l3, l4, l5, l6, l7] s h = rf d 190 83 [some (.ref a), l1, l2, l3, l4, l5, l6, l7] (.ref a :: s) h := rf_pure (i := .aload_n 0) (len := 1) (okD_ok (by decide +kernel)) rfl
theorem e190_83 : rf d 190 83 ls (.ref 265 :: s) (SH n, I, L, R, nc, ns, nx) = rf d 190 86 ls (.int (I 265 2) :: s) (SH n, I, L, R, nc, ns, nx) := g_I (idx := 145) (by decide +kernel) ow190 f_8_145 rfl rfl (by decide)
theorem e190_86 : rf d 190 86 [l0, l1, l2, l3, l4, l5, l6, some (.int x)] s h = rf d 190 88 [l0, l1, l2, l3, l4, l5, l6, some (.int x)] (.int x :: s) h := rf_pure (i := .iload 7) (len := 2) (okD_ok (by decide +kernel)) rfl
theorem e190_88 : rf d 190 88 ls s h = rf d 190 90 ls (.int 24 :: s) h := rf_pure (i := .bipush (24)) (len := 2) (okD_ok (by decide +kernel)) rfl
theorem e190_90 : rf d 190 90 ls s h = rf d 190 92 ls (.int 8 :: s) h := rf_pure (i := .bipush (8)) (len := 2) (okD_ok (by decide +kernel)) rfl
theorem e190_92 : rf d 190 92 [l0, l1, l2, l3, l4, l5, some (.int x), l7] s h = rf d 190 94 [l0, l1, l2, l3, l4, l5, some (.int x), l7] (.int x :: s) h := rf_pure (i := .iload 6) (len := 2) (okD_ok (by decide +kernel)) rfl
theorem e190_94 : rf d 190 94 ls s h = rf d 190 95 ls (.int 4 :: s) h := rf_pure (i := .iconst (4)) (len := 1) (okD_ok (by decide +kernel)) rfl
theorem e190_95 (hy : ¬ y = 0) : rf d 190 95 ls (.int y :: .int x :: s) h = rf d 190 96 ls (.int (x - x / y * y) :: s) h := g_iz (i := .irem) (len := 1) (f := fun x y => x - x / y * y) (by decide +kernel) rfl hy
theorem e190_96 : rf d 190 96 ls (.int y :: .int x :: s) h = rf d 190 97 ls (.int (x * y) :: s) h := rf_pure (i := .imul) (len := 1) (okD_ok (by decide +kernel)) rfl
theorem e190_97 : rf d 190 97 ls (.int y :: .int x :: s) h = rf d 190 98 ls (.int (x - y) :: s) h := rf_pure (i := .isub) (len := 1) (okD_ok (by decide +kernel)) rfl
theorem e190_98 : rf d 190 98 ls (.int y :: .int x :: s) h = rf d 190 99 ls (.int (x >>> (y &&& 31)) :: s) h := rf_pure (i := .ishr) (len := 1) (okD_ok (by decide +kernel)) rfl
theorem e190_99 : rf d 190 99 ls s h = rf d 190 102 ls (.int 255 :: s) h := rf_pure (i := .sipush (255)) (len := 3) (okD_ok (by decide +kernel)) rfl
theorem e190_102 : rf d 190 102 ls (.int y :: .int x :: s) h = rf d 190 103 ls (.int (x &&& y) :: s) h := rf_pure (i := .iand) (len := 1) (okD_ok (by decide +kernel)) rfl
theorem e190_103 (q : ia n a j) : rf d 190 103 ls (.int x :: .int j :: .ref a :: s) (SH n, I, L, R, nc, ns, nx) = rf d 190 104 ls s (SH n, ip_up I a j.toNatClampNeg x, L, R, nc, ns, nx) := g_ias (by decide +kernel) q
theorem e190_104 : rf d 190 104 [some (.ref a), l1, l2, l3, l4, l5, l6, l7] s h = rf d 190 105 [some (.ref a), l1, l2, l3, l4, l5, l6, l7] (.ref a :: s) h := rf_pure (i := .aload_n 0) (len := 1) (okD_ok (by decide +kernel)) rfl
theorem e190_105 : rf d 190 105 ls (.int x :: s) h = rf d 190 106 ls (.int x :: .int x :: s) h := rf_pure (i := .dup) (len := 1) (okD_ok (by decide +kernel)) rfl
theorem e190_105r : rf d 190 105 ls (.ref a :: s) h = rf d 190 106 ls (.ref a :: .ref a :: s) h := rf_pure (i := .dup) (len := 1) (okD_ok (by decide +kernel)) rfl
theorem e190_106 : rf d 190 106 ls (.ref 265 :: s) (SH n, I, L, R, nc, ns, nx) = rf d 190 109 ls (.int (I 265 2) :: s) (SH n, I, L, R, nc, ns, nx) := g_I (idx := 145) (by decide +kernel) ow190 f_8_145 rfl rfl (by decide)
theorem e190_109 : rf d 190 109 ls s h = rf d 190 110 ls (.int 1 :: s) h := rf_pure (i := .iconst (1)) (len := 1) (okD_ok (by decide +kernel)) rfl
theorem e190_110 : rf d 190 110 ls (.int y :: .int x :: s) h = rf d 190 111 ls (.int (x + y) :: s) h := rf_pure (i := .iadd) (len := 1) (okD_ok (by decide +kernel)) rfl
theorem e190_111 : rf d 190 111 ls (.int x :: .ref 265 :: s) (SH n, I, L, R, nc, ns, nx) = rf d 190 114 ls s (SH n, ip_up I 265 2 x, L, R, nc, ns, nx) := g_pI (idx := 145) (by decide +kernel) ow190 f_8_145 rfl (by decide +kernel) rfl (by decide)
theorem e190_114 (hn : ip_nl l5 = true) : rf d 190 114 [l0, l1, l2, l3, l4, l5, some (.int x), l7] s h = rf d 190 117 [l0, l1, l2, l3, l4, l5, some (.int (x + 1)), l7] s h := g_inc (q := 5) (z := 1) (w := 1) (x := x) (by decide) (by decide +kernel) rfl rfl hn
theorem e190_117 : rf d 190 117 ls s h = rf d 190 23 ls s h := rf_goto ⟨okD_ok (i := .goto (-94)) (len := 3) (by decide +kernel), rfl⟩
theorem e190_120 : rf d 190 120 [some (.ref a), l1, l2, l3, l4, l5, l6, l7] s h = rf d 190 121 [some (.ref a), l1, l2, l3, l4, l5, l6, l7] (.ref a :: s) h := rf_pure (i := .aload_n 0) (len := 1) (okD_ok (by decide +kernel)) rfl
theorem e190_121 : rf d 190 121 ls (.ref 265 :: s) (SH n, I, L, R, nc, ns, nx) = rf d 190 124 ls (.int (I 265 2) :: s) (SH n, I, L, R, nc, ns, nx) := g_I (idx := 145) (by decide +kernel) ow190 f_8_145 rfl rfl (by decide)
theorem e190_124 : rf d 190 124 ls [.int x] h = some (.inl (some (.int x)), h) := g_ri (by decide +kernel) rt190
theorem en191 : cf d 191 [.ref a, .int x0] h = rf d 191 0 [some (.ref a), some (.int x0)] [] h := rfl
theorem e191_0 : rf d 191 0 [some (.ref a), l1] s h = rf d 191 1 [some (.ref a), l1] (.ref a :: s) h := rf_pure (i := .aload_n 0) (len := 1) (okD_ok (by decide +kernel)) rfl
theorem e191_1 : rf d 191 1 ls s h = rf d 191 2 ls (.int 0 :: s) h := rf_pure (i := .iconst (0)) (len := 1) (okD_ok (by decide +kernel)) rfl
theorem e191_2 : rf d 191 2 ls (.int x :: .ref 265 :: s) (SH n, I, L, R, nc, ns, nx) = rf d 191 5 ls s (SH n, ip_up I 265 0 x, L, R, nc, ns, nx) := g_pI (idx := 142) (by decide +kernel) ow191 f_8_142 rfl (by decide +kernel) rfl (by decide)
theorem e191_5 : rf d 191 5 [l0, some (.int x)] s h = rf d 191 6 [l0, some (.int x)] (.int x :: s) h := rf_pure (i := .iload_n 1) (len := 1) (okD_ok (by decide +kernel)) rfl
theorem e191_6 : rf d 191 6 ls (.int x :: s) h = if x < 0 then rf d 191 17 ls s h else rf d 191 9 ls s h := g_if (c := .lt) (off := 11) _ (by decide +kernel) rfl cmp_d
theorem e191_9 : rf d 191 9 [l0, some (.int x)] s h = rf d 191 10 [l0, some (.int x)] (.int x :: s) h := rf_pure (i := .iload_n 1) (len := 1) (okD_ok (by decide +kernel)) rfl
theorem e191_10 : rf d 191 10 [some (.ref a), l1] s h = rf d 191 11 [some (.ref a), l1] (.ref a :: s) h := rf_pure (i := .aload_n 0) (len := 1) (okD_ok (by decide +kernel)) rfl
theorem e191_11 : rf d 191 11 ls (.ref 265 :: s) (SH n, I, L, R, nc, ns, nx) = rf d 191 14 ls (.int (I 265 2) :: s) (SH n, I, L, R, nc, ns, nx) := g_I (idx := 145) (by decide +kernel) ow191 f_8_145 rfl rfl (by decide)
theorem e191_14 : rf d 191 14 ls (.int y :: .int x :: s) h = if x ≤ y then rf d 191 19 ls s h else rf d 191 17 ls s h := g_ic (c := .le) (off := 5) _ (by decide +kernel) rfl cmp_d
theorem e191_17 : rf d 191 17 ls s h = rf d 191 18 ls (.int 0 :: s) h := rf_pure (i := .iconst (0)) (len := 1) (okD_ok (by decide +kernel)) rfl
theorem e191_18 (hx : x = 0 ∨ x = 1) : rf d 191 18 ls [.int x] h = some (.inl (some (.int x)), h) := g_rz (by decide +kernel) rt191 hx
theorem e191_19 : rf d 191 19 [some (.ref a), l1] s h = rf d 191 20 [some (.ref a), l1] (.ref a :: s) h := rf_pure (i := .aload_n 0) (len := 1) (okD_ok (by decide +kernel)) rfl
theorem e191_20 : rf d 191 20 [l0, some (.int x)] s h = rf d 191 21 [l0, some (.int x)] (.int x :: s) h := rf_pure (i := .iload_n 1) (len := 1) (okD_ok (by decide +kernel)) rfl
theorem e191_21 : rf d 191 21 ls (.int x :: .ref 265 :: s) (SH n, I, L, R, nc, ns, nx) = rf d 191 24 ls s (SH n, ip_up I 265 2 x, L, R, nc, ns, nx) := g_pI (idx := 145) (by decide +kernel) ow191 f_8_145 rfl (by decide +kernel) rfl (by decide)
theorem e191_24 : rf d 191 24 ls s h = rf d 191 25 ls (.int 1 :: s) h := rf_pure (i := .iconst (1)) (len := 1) (okD_ok (by decide +kernel)) rfl
theorem e191_25 (hx : x = 0 ∨ x = 1) : rf d 191 25 ls [.int x] h = some (.inl (some (.int x)), h) := g_rz (by decide +kernel) rt191 hx
theorem en192 : cf d 192 [.ref a] h = rf d 192 0 [some (.ref a), none] [] h := rfl
theorem e192_0 : rf d 192 0 [some (.ref a), l1] s h = rf d 192 1 [some (.ref a), l1] (.ref a :: s) h := rf_pure (i := .aload_n 0) (len := 1) (okD_ok (by decide +kernel)) rfl
theorem e192_1 : rf d 192 1 [some (.ref a), l1] s h = rf d 192 2 [some (.ref a), l1] (.ref a :: s) h := rf_pure (i := .aload_n 0) (len := 1) (okD_ok (by decide +kernel)) rfl
theorem e192_2 : rf d 192 2 ls (.ref 265 :: s) (SH n, I, L, R, nc, ns, nx) = rf d 192 5 ls (.int (I 265 2) :: s) (SH n, I, L, R, nc, ns, nx) := g_I (idx := 145) (by decide +kernel) ow192 f_8_145 rfl rfl (by decide)
theorem e192_5 : rf d 192 5 ls (.int x :: .ref 265 :: s) (SH n, I, L, R, nc, ns, nx) = rf d 192 8 ls s (SH n, ip_up I 265 3 x, L, R, nc, ns, nx) := g_pI (idx := 151) (by decide +kernel) ow192 f_8_151 rfl (by decide +kernel) rfl (by decide)
theorem e192_8 : rf d 192 8 [some (.ref a), l1] s h = rf d 192 9 [some (.ref a), l1] (.ref a :: s) h := rf_pure (i := .aload_n 0) (len := 1) (okD_ok (by decide +kernel)) rfl
theorem e192_9 : rf d 192 9 ls s h = rf d 192 10 ls (.int 0 :: s) h := rf_pure (i := .iconst (0)) (len := 1) (okD_ok (by decide +kernel)) rfl
theorem e192_10 : rf d 192 10 ls (.int x :: .ref 265 :: s) (SH n, I, L, R, nc, ns, nx) = rf d 192 13 ls s (SH n, ip_up I 265 2 x, L, R, nc, ns, nx) := g_pI (idx := 145) (by decide +kernel) ow192 f_8_145 rfl (by decide +kernel) rfl (by decide)
theorem e192_13 : rf d 192 13 [some (.ref a), l1] s h = rf d 192 14 [some (.ref a), l1] (.ref a :: s) h := rf_pure (i := .aload_n 0) (len := 1) (okD_ok (by decide +kernel)) rfl
theorem e192_14 : rf d 192 14 ls s h = rf d 192 15 ls (.int 0 :: s) h := rf_pure (i := .iconst (0)) (len := 1) (okD_ok (by decide +kernel)) rfl
theorem e192_15 : rf d 192 15 ls (.int x :: .ref 265 :: s) (SH n, I, L, R, nc, ns, nx) = rf d 192 18 ls s (SH n, ip_up I 265 4 x, L, R, nc, ns, nx) := g_pI (idx := 148) (by decide +kernel) ow192 f_8_148 rfl (by decide +kernel) rfl (by decide)
theorem e192_18 : rf d 192 18 [some (.ref a), l1] s h = rf d 192 19 [some (.ref a), l1] (.ref a :: s) h := rf_pure (i := .aload_n 0) (len := 1) (okD_ok (by decide +kernel)) rfl
theorem e192_19 : rf d 192 19 ls s h = rf d 192 20 ls (.int (-1) :: s) h := rf_pure (i := .iconst (-1)) (len := 1) (okD_ok (by decide +kernel)) rfl
theorem e192_20 : rf d 192 20 ls (.int x :: .ref 265 :: s) (SH n, I, L, R, nc, ns, nx) = rf d 192 23 ls s (SH n, ip_up I 265 5 x, L, R, nc, ns, nx) := g_pI (idx := 13) (by decide +kernel) ow192 f_8_13 rfl (by decide +kernel) rfl (by decide)
theorem e192_23 : rf d 192 23 [some (.ref a), l1] s h = rf d 192 24 [some (.ref a), l1] (.ref a :: s) h := rf_pure (i := .aload_n 0) (len := 1) (okD_ok (by decide +kernel)) rfl
theorem e192_24 : rf d 192 24 ls s h = rf d 192 25 ls (.int 0 :: s) h := rf_pure (i := .iconst (0)) (len := 1) (okD_ok (by decide +kernel)) rfl
theorem e192_25 : rf d 192 25 ls (.int x :: .ref 265 :: s) (SH n, I, L, R, nc, ns, nx) = rf d 192 28 ls s (SH n, ip_up I 265 6 x, L, R, nc, ns, nx) := g_pI (idx := 218) (by decide +kernel) ow192 f_8_218 rfl (by decide +kernel) rfl (by decide)
theorem e192_28 : rf d 192 28 [some (.ref a), l1] s h = rf d 192 29 [some (.ref a), l1] (.ref a :: s) h := rf_pure (i := .aload_n 0) (len := 1) (okD_ok (by decide +kernel)) rfl
theorem e192_29 : rf d 192 29 ls s h = rf d 192 30 ls (.int 0 :: s) h := rf_pure (i := .iconst (0)) (len := 1) (okD_ok (by decide +kernel)) rfl
theorem e192_30 (hx : x = 0 ∨ x = 1) : rf d 192 30 ls (.int x :: .ref 265 :: s) (SH n, I, L, R, nc, ns, nx) = rf d 192 33 ls s (SH n, ip_up I 265 7 x, L, R, nc, ns, nx) := g_pZ (idx := 267) (by decide +kernel) ow192 f_8_267 rfl (by decide +kernel) rfl (by decide) hx
theorem e192_33 : rf d 192 33 [some (.ref a), l1] s h = rf d 192 34 [some (.ref a), l1] (.ref a :: s) h := rf_pure (i := .aload_n 0) (len := 1) (okD_ok (by decide +kernel)) rfl
theorem e192_34 : rf d 192 34 ls s h = rf d 192 35 ls (.int 0 :: s) h := rf_pure (i := .iconst (0)) (len := 1) (okD_ok (by decide +kernel)) rfl
theorem e192_35 : rf d 192 35 ls (.int x :: .ref 265 :: s) (SH n, I, L, R, nc, ns, nx) = rf d 192 38 ls s (SH n, ip_up I 265 8 x, L, R, nc, ns, nx) := g_pI (idx := 261) (by decide +kernel) ow192 f_8_261 rfl (by decide +kernel) rfl (by decide)
theorem e192_38 : rf d 192 38 [some (.ref a), l1] s h = rf d 192 39 [some (.ref a), l1] (.ref a :: s) h := rf_pure (i := .aload_n 0) (len := 1) (okD_ok (by decide +kernel)) rfl
theorem e192_39 : rf d 192 39 ls s h = rf d 192 40 ls (.int 0 :: s) h := rf_pure (i := .iconst (0)) (len := 1) (okD_ok (by decide +kernel)) rfl
theorem e192_40 : rf d 192 40 ls (.int x :: .ref 265 :: s) (SH n, I, L, R, nc, ns, nx) = rf d 192 43 ls s (SH n, ip_up I 265 9 x, L, R, nc, ns, nx) := g_pI (idx := 241) (by decide +kernel) ow192 f_8_241 rfl (by decide +kernel) rfl (by decide)
theorem e192_43 : rf d 192 43 ls s h = rf d 192 44 ls (.int 0 :: s) h := rf_pure (i := .iconst (0)) (len := 1) (okD_ok (by decide +kernel)) rfl
theorem e192_44 (hn : ip_nl l0 = true) : rf d 192 44 [l0, l1] (.int x :: s) h = rf d 192 45 [l0, some (.int x)] s h := g_sti (i := .istore_n 1) (len := 1) (q := 0) (p := 1) (by decide +kernel) rfl rfl hn
theorem e192_45 : rf d 192 45 [l0, some (.int x)] s h = rf d 192 46 [l0, some (.int x)] (.int x :: s) h := rf_pure (i := .iload_n 1) (len := 1) (okD_ok (by decide +kernel)) rfl
theorem e192_46 : rf d 192 46 ls s h = rf d 192 48 ls (.int 6 :: s) h := rf_pure (i := .bipush (6)) (len := 2) (okD_ok (by decide +kernel)) rfl
theorem e192_48 : rf d 192 48 ls (.int y :: .int x :: s) h = if y ≤ x then rf d 192 70 ls s h else rf d 192 51 ls s h := g_ic (c := .ge) (off := 22) _ (by decide +kernel) rfl cmp_d
theorem e192_51 : rf d 192 51 [some (.ref a), l1] s h = rf d 192 52 [some (.ref a), l1] (.ref a :: s) h := rf_pure (i := .aload_n 0) (len := 1) (okD_ok (by decide +kernel)) rfl
theorem e192_52 (hR : LYR R) : rf d 192 52 ls (.ref 265 :: s) (SH n, I, L, R, nc, ns, nx) = rf d 192 55 ls (.ref 270 :: s) (SH n, I, L, R, nc, ns, nx) := g_R (idx := 27) (by decide +kernel) ow192 f_8_27 rfl rfl (by decide) (ly_265_13 hR)
theorem e192_55 : rf d 192 55 [l0, some (.int x)] s h = rf d 192 56 [l0, some (.int x)] (.int x :: s) h := rf_pure (i := .iload_n 1) (len := 1) (okD_ok (by decide +kernel)) rfl
theorem e192_56 : rf d 192 56 ls s h = rf d 192 57 ls (.int 1 :: s) h := rf_pure (i := .iconst (1)) (len := 1) (okD_ok (by decide +kernel)) rfl
theorem e192_57 : rf d 192 57 ls s h = rf d 192 58 ls (.int 3 :: s) h := rf_pure (i := .iconst (3)) (len := 1) (okD_ok (by decide +kernel)) rfl
theorem e192_58 : rf d 192 58 [l0, some (.int x)] s h = rf d 192 59 [l0, some (.int x)] (.int x :: s) h := rf_pure (i := .iload_n 1) (len := 1) (okD_ok (by decide +kernel)) rfl
theorem e192_59 : rf d 192 59 ls s h = rf d 192 60 ls (.int 3 :: s) h := rf_pure (i := .iconst (3)) (len := 1) (okD_ok (by decide +kernel)) rfl
theorem e192_60 (hy : ¬ y = 0) : rf d 192 60 ls (.int y :: .int x :: s) h = rf d 192 61 ls (.int (x - x / y * y) :: s) h := g_iz (i := .irem) (len := 1) (f := fun x y => x - x / y * y) (by decide +kernel) rfl hy
theorem e192_61 : rf d 192 61 ls (.int y :: .int x :: s) h = rf d 192 62 ls (.int (x * y) :: s) h := rf_pure (i := .imul) (len := 1) (okD_ok (by decide +kernel)) rfl
theorem e192_62 : rf d 192 62 ls (.int y :: .int x :: s) h = rf d 192 63 ls (.int (x + y) :: s) h := rf_pure (i := .iadd) (len := 1) (okD_ok (by decide +kernel)) rfl
theorem e192_63 (q : ia n a j) : rf d 192 63 ls (.int x :: .int j :: .ref a :: s) (SH n, I, L, R, nc, ns, nx) = rf d 192 64 ls s (SH n, ip_up I a j.toNatClampNeg x, L, R, nc, ns, nx) := g_ias (by decide +kernel) q
theorem e192_64 (hn : ip_nl l0 = true) : rf d 192 64 [l0, some (.int x)] s h = rf d 192 67 [l0, some (.int (x + 1))] s h := g_inc (q := 0) (z := 1) (w := 1) (x := x) (by decide) (by decide +kernel) rfl rfl hn
theorem e192_67 : rf d 192 67 ls s h = rf d 192 45 ls s h := rf_goto ⟨okD_ok (i := .goto (-22)) (len := 3) (by decide +kernel), rfl⟩
theorem e192_70 : rf d 192 70 [some (.ref a), l1] s h = rf d 192 71 [some (.ref a), l1] (.ref a :: s) h := rf_pure (i := .aload_n 0) (len := 1) (okD_ok (by decide +kernel)) rfl
theorem e192_71 : rf d 192 71 ls (.ref 265 :: s) (SH n, I, L, R, nc, ns, nx) = rf d 192 74 ls (.int (I 265 5) :: s) (SH n, I, L, R, nc, ns, nx) := g_I (idx := 13) (by decide +kernel) ow192 f_8_13 rfl rfl (by decide)
theorem e192_74 : rf d 192 74 ls s h = rf d 192 75 ls (.int (-1) :: s) h := rf_pure (i := .iconst (-1)) (len := 1) (okD_ok (by decide +kernel)) rfl
theorem e192_75 : rf d 192 75 ls (.int y :: .int x :: s) h = if ¬ x = y then rf d 192 147 ls s h else rf d 192 78 ls s h := g_ic (c := .ne) (off := 72) _ (by decide +kernel) rfl cmp_d
theorem e192_78 : rf d 192 78 [some (.ref a), l1] s h = rf d 192 79 [some (.ref a), l1] (.ref a :: s) h := rf_pure (i := .aload_n 0) (len := 1) (okD_ok (by decide +kernel)) rfl
theorem e192_79 (hcat : ip_cat s ≤ 8) : rf (d + 1) 192 79 ls (.ref 265 :: s) (SH n, I, L, R, nc, ns, nx) = rf_k (d + 1) 192 79 ls s (cf d 193 [.ref 265] (SH n, I, L, R, nc, ns, nx)) := g_cv (idx := 154) (t := 8) [] (by decide +kernel) ow192 ms_8_154 mt_8_154 cy193_8 rfl rfl mL193 rfl rfl (by decide) hcat
theorem e192_82 : rf d 192 82 ls s h = rf d 192 83 ls (.int (-1) :: s) h := rf_pure (i := .iconst (-1)) (len := 1) (okD_ok (by decide +kernel)) rfl
theorem e192_83 : rf d 192 83 ls (.int y :: .int x :: s) h = if x = y then rf d 192 147 ls s h else rf d 192 86 ls s h := g_ic (c := .eq) (off := 64) _ (by decide +kernel) rfl cmp_d
theorem e192_86 : rf d 192 86 [some (.ref a), l1] s h = rf d 192 87 [some (.ref a), l1] (.ref a :: s) h := rf_pure (i := .aload_n 0) (len := 1) (okD_ok (by decide +kernel)) rfl
theorem e192_87 : rf d 192 87 ls s h = rf d 192 89 ls (.ref (tx 28) :: s) h := g_ks (idx := 177) (i := .ldc 177) (len := 2) (by decide +kernel) rfl rfl ow192 kn_8_177 ks_8_177
theorem e192_89 (hcat : ip_cat s ≤ 8) : rf (d + 1) 192 89 ls (.ref a0 :: .ref 265 :: s) (SH n, I, L, R, nc, ns, nx) = rf_k (d + 1) 192 89 ls s (cf d 194 [.ref 265, .ref a0] (SH n, I, L, R, nc, ns, nx)) := g_cv (idx := 170) (t := 8) [.ref a0] (by decide +kernel) ow192 ms_8_170 mt_8_170 cy194_8 rfl rfl mL194 rfl rfl (by decide) hcat
theorem e192_92 : rf d 192 92 ls (.int x :: s) h = if x = 0 then rf d 192 102 ls s h else rf d 192 95 ls s h := g_if (c := .eq) (off := 10) _ (by decide +kernel) rfl cmp_d
theorem e192_95 : rf d 192 95 [some (.ref a), l1] s h = rf d 192 96 [some (.ref a), l1] (.ref a :: s) h := rf_pure (i := .aload_n 0) (len := 1) (okD_ok (by decide +kernel)) rfl
theorem e192_96 (hcat : ip_cat s ≤ 8) : rf (d + 1) 192 96 ls (.ref 265 :: s) (SH n, I, L, R, nc, ns, nx) = rf_k (d + 1) 192 96 ls s (cf d 196 [.ref 265] (SH n, I, L, R, nc, ns, nx)) := g_cv (idx := 282) (t := 8) [] (by decide +kernel) ow192 ms_8_282 mt_8_282 cy196_8 rfl rfl mL196 rfl rfl (by decide) hcat
theorem e192_99 : rf d 192 99 ls s h = rf d 192 138 ls s h := rf_goto ⟨okD_ok (i := .goto (39)) (len := 3) (by decide +kernel), rfl⟩
theorem e192_102 : rf d 192 102 [some (.ref a), l1] s h = rf d 192 103 [some (.ref a), l1] (.ref a :: s) h := rf_pure (i := .aload_n 0) (len := 1) (okD_ok (by decide +kernel)) rfl
theorem e192_103 : rf d 192 103 ls s h = rf d 192 105 ls (.ref (tx 33) :: s) h := g_ks (idx := 186) (i := .ldc 186) (len := 2) (by decide +kernel) rfl rfl ow192 kn_8_186 ks_8_186
theorem e192_105 (hcat : ip_cat s ≤ 8) : rf (d + 1) 192 105 ls (.ref a0 :: .ref 265 :: s) (SH n, I, L, R, nc, ns, nx) = rf_k (d + 1) 192 105 ls s (cf d 194 [.ref 265, .ref a0] (SH n, I, L, R, nc, ns, nx)) := g_cv (idx := 170) (t := 8) [.ref a0] (by decide +kernel) ow192 ms_8_170 mt_8_170 cy194_8 rfl rfl mL194 rfl rfl (by decide) hcat
theorem e192_108 : rf d 192 108 ls (.int x :: s) h = if x = 0 then rf d 192 118 ls s h else rf d 192 111 ls s h := g_if (c := .eq) (off := 10) _ (by decide +kernel) rfl cmp_d
theorem e192_111 : rf d 192 111 [some (.ref a), l1] s h = rf d 192 112 [some (.ref a), l1] (.ref a :: s) h := rf_pure (i := .aload_n 0) (len := 1) (okD_ok (by decide +kernel)) rfl
theorem e192_112 (hcat : ip_cat s ≤ 8) : rf (d + 1) 192 112 ls (.ref 265 :: s) (SH n, I, L, R, nc, ns, nx) = rf_k (d + 1) 192 112 ls s (cf d 203 [.ref 265] (SH n, I, L, R, nc, ns, nx)) := g_cv (idx := 285) (t := 8) [] (by decide +kernel) ow192 ms_8_285 mt_8_285 cy203_8 rfl rfl mL203 rfl rfl (by decide) hcat
theorem e192_115 : rf d 192 115 ls s h = rf d 192 138 ls s h := rf_goto ⟨okD_ok (i := .goto (23)) (len := 3) (by decide +kernel), rfl⟩
theorem e192_118 : rf d 192 118 [some (.ref a), l1] s h = rf d 192 119 [some (.ref a), l1] (.ref a :: s) h := rf_pure (i := .aload_n 0) (len := 1) (okD_ok (by decide +kernel)) rfl
theorem e192_119 : rf d 192 119 ls s h = rf d 192 121 ls (.ref (tx 34) :: s) h := g_ks (idx := 192) (i := .ldc 192) (len := 2) (by decide +kernel) rfl rfl ow192 kn_8_192 ks_8_192
theorem e192_121 (hcat : ip_cat s ≤ 8) : rf (d + 1) 192 121 ls (.ref a0 :: .ref 265 :: s) (SH n, I, L, R, nc, ns, nx) = rf_k (d + 1) 192 121 ls s (cf d 194 [.ref 265, .ref a0] (SH n, I, L, R, nc, ns, nx)) := g_cv (idx := 170) (t := 8) [.ref a0] (by decide +kernel) ow192 ms_8_170 mt_8_170 cy194_8 rfl rfl mL194 rfl rfl (by decide) hcat
theorem e192_124 : rf d 192 124 ls (.int x :: s) h = if x = 0 then rf d 192 134 ls s h else rf d 192 127 ls s h := g_if (c := .eq) (off := 10) _ (by decide +kernel) rfl cmp_d
theorem e192_127 : rf d 192 127 [some (.ref a), l1] s h = rf d 192 128 [some (.ref a), l1] (.ref a :: s) h := rf_pure (i := .aload_n 0) (len := 1) (okD_ok (by decide +kernel)) rfl
theorem e192_128 (hcat : ip_cat s ≤ 8) : rf (d + 1) 192 128 ls (.ref 265 :: s) (SH n, I, L, R, nc, ns, nx) = rf_k (d + 1) 192 128 ls s (cf d 206 [.ref 265] (SH n, I, L, R, nc, ns, nx)) := g_cv (idx := 288) (t := 8) [] (by decide +kernel) ow192 ms_8_288 mt_8_288 cy206_8 rfl rfl mL206 rfl rfl (by decide) hcat
theorem e192_131 : rf d 192 131 ls s h = rf d 192 138 ls s h := rf_goto ⟨okD_ok (i := .goto (7)) (len := 3) (by decide +kernel), rfl⟩
theorem e192_134 : rf d 192 134 [some (.ref a), l1] s h = rf d 192 135 [some (.ref a), l1] (.ref a :: s) h := rf_pure (i := .aload_n 0) (len := 1) (okD_ok (by decide +kernel)) rfl
theorem e192_135 (hcat : ip_cat s ≤ 8) : rf (d + 1) 192 135 ls (.ref 265 :: s) (SH n, I, L, R, nc, ns, nx) = rf_k (d + 1) 192 135 ls s (cf d 197 [.ref 265] (SH n, I, L, R, nc, ns, nx)) := g_cv (idx := 174) (t := 8) [] (by decide +kernel) ow192 ms_8_174 mt_8_174 cy197_8 rfl rfl mL197 rfl rfl (by decide) hcat
theorem e192_138 : rf d 192 138 [some (.ref a), l1] s h = rf d 192 139 [some (.ref a), l1] (.ref a :: s) h := rf_pure (i := .aload_n 0) (len := 1) (okD_ok (by decide +kernel)) rfl
theorem e192_139 : rf d 192 139 ls s h = rf d 192 141 ls (.int 59 :: s) h := rf_pure (i := .bipush (59)) (len := 2) (okD_ok (by decide +kernel)) rfl
theorem e192_141 (hcat : ip_cat s ≤ 8) : rf (d + 1) 192 141 ls (.int x0 :: .ref 265 :: s) (SH n, I, L, R, nc, ns, nx) = rf_k (d + 1) 192 141 ls s (cf d 213 [.ref 265, .int x0] (SH n, I, L, R, nc, ns, nx)) := g_cv (idx := 278) (t := 8) [.int x0] (by decide +kernel) ow192 ms_8_278 mt_8_278 cy213_8 rfl rfl mL213 rfl rfl (by decide) hcat
theorem e192_144 : rf d 192 144 ls s h = rf d 192 70 ls s h := rf_goto ⟨okD_ok (i := .goto (-74)) (len := 3) (by decide +kernel), rfl⟩
theorem e192_147 : rf d 192 147 [some (.ref a), l1] s h = rf d 192 148 [some (.ref a), l1] (.ref a :: s) h := rf_pure (i := .aload_n 0) (len := 1) (okD_ok (by decide +kernel)) rfl
theorem e192_148 : rf d 192 148 ls (.ref 265 :: s) (SH n, I, L, R, nc, ns, nx) = rf d 192 151 ls (.int (I 265 5) :: s) (SH n, I, L, R, nc, ns, nx) := g_I (idx := 13) (by decide +kernel) ow192 f_8_13 rfl rfl (by decide)
theorem e192_151 : rf d 192 151 ls s h = rf d 192 152 ls (.int (-1) :: s) h := rf_pure (i := .iconst (-1)) (len := 1) (okD_ok (by decide +kernel)) rfl
theorem e192_152 : rf d 192 152 ls (.int y :: .int x :: s) h = if ¬ x = y then rf d 192 166 ls s h else rf d 192 155 ls s h := g_ic (c := .ne) (off := 14) _ (by decide +kernel) rfl cmp_d
theorem e192_155 : rf d 192 155 [some (.ref a), l1] s h = rf d 192 156 [some (.ref a), l1] (.ref a :: s) h := rf_pure (i := .aload_n 0) (len := 1) (okD_ok (by decide +kernel)) rfl
theorem e192_156 : rf d 192 156 ls (.ref 265 :: s) (SH n, I, L, R, nc, ns, nx) = rf d 192 159 ls (.int (I 265 7) :: s) (SH n, I, L, R, nc, ns, nx) := g_I (idx := 267) (by decide +kernel) ow192 f_8_267 rfl rfl (by decide)
theorem e192_159 : rf d 192 159 ls (.int x :: s) h = if ¬ x = 0 then rf d 192 166 ls s h else rf d 192 162 ls s h := g_if (c := .ne) (off := 7) _ (by decide +kernel) rfl cmp_d
theorem e192_162 : rf d 192 162 [some (.ref a), l1] s h = rf d 192 163 [some (.ref a), l1] (.ref a :: s) h := rf_pure (i := .aload_n 0) (len := 1) (okD_ok (by decide +kernel)) rfl
theorem e192_163 (hcat : ip_cat s ≤ 8) : rf (d + 1) 192 163 ls (.ref 265 :: s) (SH n, I, L, R, nc, ns, nx) = rf_k (d + 1) 192 163 ls s (cf d 197 [.ref 265] (SH n, I, L, R, nc, ns, nx)) := g_cv (idx := 174) (t := 8) [] (by decide +kernel) ow192 ms_8_174 mt_8_174 cy197_8 rfl rfl mL197 rfl rfl (by decide) hcat
theorem e192_166 : rf d 192 166 [some (.ref a), l1] s h = rf d 192 167 [some (.ref a), l1] (.ref a :: s) h := rf_pure (i := .aload_n 0) (len := 1) (okD_ok (by decide +kernel)) rfl
theorem e192_167 : rf d 192 167 [some (.ref a), l1] s h = rf d 192 168 [some (.ref a), l1] (.ref a :: s) h := rf_pure (i := .aload_n 0) (len := 1) (okD_ok (by decide +kernel)) rfl
theorem e192_168 : rf d 192 168 ls (.ref 265 :: s) (SH n, I, L, R, nc, ns, nx) = rf d 192 171 ls (.int (I 265 5) :: s) (SH n, I, L, R, nc, ns, nx) := g_I (idx := 13) (by decide +kernel) ow192 f_8_13 rfl rfl (by decide)
theorem e192_171 : rf d 192 171 ls s h = rf d 192 172 ls (.int (-1) :: s) h := rf_pure (i := .iconst (-1)) (len := 1) (okD_ok (by decide +kernel)) rfl
theorem e192_172 : rf d 192 172 ls (.int y :: .int x :: s) h = if ¬ x = y then rf d 192 179 ls s h else rf d 192 175 ls s h := g_ic (c := .ne) (off := 7) _ (by decide +kernel) rfl cmp_d
theorem e192_175 : rf d 192 175 ls s h = rf d 192 176 ls (.int 0 :: s) h := rf_pure (i := .iconst (0)) (len := 1) (okD_ok (by decide +kernel)) rfl
theorem e192_176 : rf d 192 176 ls s h = rf d 192 180 ls s h := rf_goto ⟨okD_ok (i := .goto (4)) (len := 3) (by decide +kernel), rfl⟩
theorem e192_179 : rf d 192 179 ls s h = rf d 192 180 ls (.int 1 :: s) h := rf_pure (i := .iconst (1)) (len := 1) (okD_ok (by decide +kernel)) rfl
theorem e192_180 : rf d 192 180 ls (.int x :: .ref 265 :: s) (SH n, I, L, R, nc, ns, nx) = rf d 192 183 ls s (SH n, ip_up I 265 0 x, L, R, nc, ns, nx) := g_pI (idx := 142) (by decide +kernel) ow192 f_8_142 rfl (by decide +kernel) rfl (by decide)
theorem e192_183 : rf d 192 183 [some (.ref a), l1] s h = rf d 192 184 [some (.ref a), l1] (.ref a :: s) h := rf_pure (i := .aload_n 0) (len := 1) (okD_ok (by decide +kernel)) rfl
theorem e192_184 : rf d 192 184 ls (.ref 265 :: s) (SH n, I, L, R, nc, ns, nx) = rf d 192 187 ls (.int (I 265 0) :: s) (SH n, I, L, R, nc, ns, nx) := g_I (idx := 142) (by decide +kernel) ow192 f_8_142 rfl rfl (by decide)
theorem e192_187 : rf d 192 187 ls (.int x :: s) h = if x ≤ 0 then rf d 192 192 ls s h else rf d 192 190 ls s h := g_if (c := .le) (off := 5) _ (by decide +kernel) rfl cmp_d
theorem e192_190 : rf d 192 190 ls s h = rf d 192 191 ls (.int 0 :: s) h := rf_pure (i := .iconst (0)) (len := 1) (okD_ok (by decide +kernel)) rfl
theorem e192_191 : rf d 192 191 ls [.int x] h = some (.inl (some (.int x)), h) := g_ri (by decide +kernel) rt192
theorem e192_192 : rf d 192 192 [some (.ref a), l1] s h = rf d 192 193 [some (.ref a), l1] (.ref a :: s) h := rf_pure (i := .aload_n 0) (len := 1) (okD_ok (by decide +kernel)) rfl
theorem e192_193 : rf d 192 193 [some (.ref a), l1] s h = rf d 192 194 [some (.ref a), l1] (.ref a :: s) h := rf_pure (i := .aload_n 0) (len := 1) (okD_ok (by decide +kernel)) rfl
theorem e192_194 : rf d 192 194 ls (.ref 265 :: s) (SH n, I, L, R, nc, ns, nx) = rf d 192 197 ls (.int (I 265 6) :: s) (SH n, I, L, R, nc, ns, nx) := g_I (idx := 218) (by decide +kernel) ow192 f_8_218 rfl rfl (by decide)
theorem e192_197 : rf d 192 197 ls (.int x :: .ref 265 :: s) (SH n, I, L, R, nc, ns, nx) = rf d 192 200 ls s (SH n, ip_up I 265 17 x, L, R, nc, ns, nx) := g_pI (idx := 291) (by decide +kernel) ow192 f_8_291 rfl (by decide +kernel) rfl (by decide)
theorem e192_200 : rf d 192 200 [some (.ref a), l1] s h = rf d 192 201 [some (.ref a), l1] (.ref a :: s) h := rf_pure (i := .aload_n 0) (len := 1) (okD_ok (by decide +kernel)) rfl
theorem e192_201 : rf d 192 201 [some (.ref a), l1] s h = rf d 192 202 [some (.ref a), l1] (.ref a :: s) h := rf_pure (i := .aload_n 0) (len := 1) (okD_ok (by decide +kernel)) rfl
theorem e192_202 : rf d 192 202 ls (.ref 265 :: s) (SH n, I, L, R, nc, ns, nx) = rf d 192 205 ls (.int (I 265 8) :: s) (SH n, I, L, R, nc, ns, nx) := g_I (idx := 261) (by decide +kernel) ow192 f_8_261 rfl rfl (by decide)
theorem e192_205 : rf d 192 205 ls (.int x :: .ref 265 :: s) (SH n, I, L, R, nc, ns, nx) = rf d 192 208 ls s (SH n, ip_up I 265 18 x, L, R, nc, ns, nx) := g_pI (idx := 294) (by decide +kernel) ow192 f_8_294 rfl (by decide +kernel) rfl (by decide)
theorem e192_208 : rf d 192 208 [some (.ref a), l1] s h = rf d 192 209 [some (.ref a), l1] (.ref a :: s) h := rf_pure (i := .aload_n 0) (len := 1) (okD_ok (by decide +kernel)) rfl
theorem e192_209 : rf d 192 209 [some (.ref a), l1] s h = rf d 192 210 [some (.ref a), l1] (.ref a :: s) h := rf_pure (i := .aload_n 0) (len := 1) (okD_ok (by decide +kernel)) rfl
theorem e192_210 : rf d 192 210 ls (.ref 265 :: s) (SH n, I, L, R, nc, ns, nx) = rf d 192 213 ls (.int (I 265 9) :: s) (SH n, I, L, R, nc, ns, nx) := g_I (idx := 241) (by decide +kernel) ow192 f_8_241 rfl rfl (by decide)
theorem e192_213 : rf d 192 213 ls (.int x :: .ref 265 :: s) (SH n, I, L, R, nc, ns, nx) = rf d 192 216 ls s (SH n, ip_up I 265 19 x, L, R, nc, ns, nx) := g_pI (idx := 297) (by decide +kernel) ow192 f_8_297 rfl (by decide +kernel) rfl (by decide)
theorem e192_216 : rf d 192 216 ls s h = rf d 192 217 ls (.int 0 :: s) h := rf_pure (i := .iconst (0)) (len := 1) (okD_ok (by decide +kernel)) rfl
theorem e192_217 (hn : ip_nl l0 = true) : rf d 192 217 [l0, l1] (.int x :: s) h = rf d 192 218 [l0, some (.int x)] s h := g_sti (i := .istore_n 1) (len := 1) (q := 0) (p := 1) (by decide +kernel) rfl rfl hn
theorem e192_218 : rf d 192 218 [l0, some (.int x)] s h = rf d 192 219 [l0, some (.int x)] (.int x :: s) h := rf_pure (i := .iload_n 1) (len := 1) (okD_ok (by decide +kernel)) rfl
theorem e192_219 : rf d 192 219 ls s h = rf d 192 221 ls (.int 8 :: s) h := rf_pure (i := .bipush (8)) (len := 2) (okD_ok (by decide +kernel)) rfl
theorem e192_221 : rf d 192 221 ls (.int y :: .int x :: s) h = if y ≤ x then rf d 192 266 ls s h else rf d 192 224 ls s h := g_ic (c := .ge) (off := 45) _ (by decide +kernel) rfl cmp_d
theorem e192_224 : rf d 192 224 [some (.ref a), l1] s h = rf d 192 225 [some (.ref a), l1] (.ref a :: s) h := rf_pure (i := .aload_n 0) (len := 1) (okD_ok (by decide +kernel)) rfl
theorem e192_225 (hR : LYR R) : rf d 192 225 ls (.ref 265 :: s) (SH n, I, L, R, nc, ns, nx) = rf d 192 228 ls (.ref 274 :: s) (SH n, I, L, R, nc, ns, nx) := g_R (idx := 39) (by decide +kernel) ow192 f_8_39 rfl rfl (by decide) (ly_265_20 hR)
theorem e192_228 : rf d 192 228 [l0, some (.int x)] s h = rf d 192 229 [l0, some (.int x)] (.int x :: s) h := rf_pure (i := .iload_n 1) (len := 1) (okD_ok (by decide +kernel)) rfl
theorem e192_229 : rf d 192 229 [some (.ref a), l1] s h = rf d 192 230 [some (.ref a), l1] (.ref a :: s) h := rf_pure (i := .aload_n 0) (len := 1) (okD_ok (by decide +kernel)) rfl
theorem e192_230 (hR : LYR R) : rf d 192 230 ls (.ref 265 :: s) (SH n, I, L, R, nc, ns, nx) = rf d 192 233 ls (.ref 267 :: s) (SH n, I, L, R, nc, ns, nx) := g_R (idx := 17) (by decide +kernel) ow192 f_8_17 rfl rfl (by decide) (ly_265_10 hR)
theorem e192_233 : rf d 192 233 [l0, some (.int x)] s h = rf d 192 234 [l0, some (.int x)] (.int x :: s) h := rf_pure (i := .iload_n 1) (len := 1) (okD_ok (by decide +kernel)) rfl
theorem e192_234 (q : la n a j) : rf d 192 234 ls (.int j :: .ref a :: s) (SH n, I, L, R, nc, ns, nx) = rf d 192 235 ls (.long (L a j.toNatClampNeg) :: s) (SH n, I, L, R, nc, ns, nx) := g_lal (by decide +kernel) q
theorem e192_235 (q : la n a j) : rf d 192 235 ls (.long u :: .int j :: .ref a :: s) (SH n, I, L, R, nc, ns, nx) = rf d 192 236 ls s (SH n, I, ip_up L a j.toNatClampNeg u, R, nc, ns, nx) := g_las (by decide +kernel) q
theorem e192_236 : rf d 192 236 [some (.ref a), l1] s h = rf d 192 237 [some (.ref a), l1] (.ref a :: s) h := rf_pure (i := .aload_n 0) (len := 1) (okD_ok (by decide +kernel)) rfl
theorem e192_237 (hR : LYR R) : rf d 192 237 ls (.ref 265 :: s) (SH n, I, L, R, nc, ns, nx) = rf d 192 240 ls (.ref 275 :: s) (SH n, I, L, R, nc, ns, nx) := g_R (idx := 42) (by decide +kernel) ow192 f_8_42 rfl rfl (by decide) (ly_265_21 hR)
theorem e192_240 : rf d 192 240 [l0, some (.int x)] s h = rf d 192 241 [l0, some (.int x)] (.int x :: s) h := rf_pure (i := .iload_n 1) (len := 1) (okD_ok (by decide +kernel)) rfl
theorem e192_241 : rf d 192 241 [some (.ref a), l1] s h = rf d 192 242 [some (.ref a), l1] (.ref a :: s) h := rf_pure (i := .aload_n 0) (len := 1) (okD_ok (by decide +kernel)) rfl
theorem e192_242 (hR : LYR R) : rf d 192 242 ls (.ref 265 :: s) (SH n, I, L, R, nc, ns, nx) = rf d 192 245 ls (.ref 268 :: s) (SH n, I, L, R, nc, ns, nx) := g_R (idx := 21) (by decide +kernel) ow192 f_8_21 rfl rfl (by decide) (ly_265_11 hR)
theorem e192_245 : rf d 192 245 [l0, some (.int x)] s h = rf d 192 246 [l0, some (.int x)] (.int x :: s) h := rf_pure (i := .iload_n 1) (len := 1) (okD_ok (by decide +kernel)) rfl
theorem e192_246 (q : ia n a j) : rf d 192 246 ls (.int j :: .ref a :: s) (SH n, I, L, R, nc, ns, nx) = rf d 192 247 ls (.int (I a j.toNatClampNeg) :: s) (SH n, I, L, R, nc, ns, nx) := g_ial (by decide +kernel) q
theorem e192_247 (q : ia n a j) : rf d 192 247 ls (.int x :: .int j :: .ref a :: s) (SH n, I, L, R, nc, ns, nx) = rf d 192 248 ls s (SH n, ip_up I a j.toNatClampNeg x, L, R, nc, ns, nx) := g_ias (by decide +kernel) q
theorem e192_248 : rf d 192 248 [some (.ref a), l1] s h = rf d 192 249 [some (.ref a), l1] (.ref a :: s) h := rf_pure (i := .aload_n 0) (len := 1) (okD_ok (by decide +kernel)) rfl
theorem e192_249 (hR : LYR R) : rf d 192 249 ls (.ref 265 :: s) (SH n, I, L, R, nc, ns, nx) = rf d 192 252 ls (.ref 276 :: s) (SH n, I, L, R, nc, ns, nx) := g_R (idx := 45) (by decide +kernel) ow192 f_8_45 rfl rfl (by decide) (ly_265_22 hR)
theorem e192_252 : rf d 192 252 [l0, some (.int x)] s h = rf d 192 253 [l0, some (.int x)] (.int x :: s) h := rf_pure (i := .iload_n 1) (len := 1) (okD_ok (by decide +kernel)) rfl
theorem e192_253 : rf d 192 253 [some (.ref a), l1] s h = rf d 192 254 [some (.ref a), l1] (.ref a :: s) h := rf_pure (i := .aload_n 0) (len := 1) (okD_ok (by decide +kernel)) rfl
theorem e192_254 (hR : LYR R) : rf d 192 254 ls (.ref 265 :: s) (SH n, I, L, R, nc, ns, nx) = rf d 192 257 ls (.ref 269 :: s) (SH n, I, L, R, nc, ns, nx) := g_R (idx := 24) (by decide +kernel) ow192 f_8_24 rfl rfl (by decide) (ly_265_12 hR)
theorem e192_257 : rf d 192 257 [l0, some (.int x)] s h = rf d 192 258 [l0, some (.int x)] (.int x :: s) h := rf_pure (i := .iload_n 1) (len := 1) (okD_ok (by decide +kernel)) rfl
theorem e192_258 (q : ia n a j) : rf d 192 258 ls (.int j :: .ref a :: s) (SH n, I, L, R, nc, ns, nx) = rf d 192 259 ls (.int (I a j.toNatClampNeg) :: s) (SH n, I, L, R, nc, ns, nx) := g_ial (by decide +kernel) q
theorem e192_259 (q : ia n a j) : rf d 192 259 ls (.int x :: .int j :: .ref a :: s) (SH n, I, L, R, nc, ns, nx) = rf d 192 260 ls s (SH n, ip_up I a j.toNatClampNeg x, L, R, nc, ns, nx) := g_ias (by decide +kernel) q
theorem e192_260 (hn : ip_nl l0 = true) : rf d 192 260 [l0, some (.int x)] s h = rf d 192 263 [l0, some (.int (x + 1))] s h := g_inc (q := 0) (z := 1) (w := 1) (x := x) (by decide) (by decide +kernel) rfl rfl hn
theorem e192_263 : rf d 192 263 ls s h = rf d 192 218 ls s h := rf_goto ⟨okD_ok (i := .goto (-45)) (len := 3) (by decide +kernel), rfl⟩
theorem e192_266 : rf d 192 266 ls s h = rf d 192 267 ls (.int 0 :: s) h := rf_pure (i := .iconst (0)) (len := 1) (okD_ok (by decide +kernel)) rfl
theorem e192_267 (hn : ip_nl l0 = true) : rf d 192 267 [l0, l1] (.int x :: s) h = rf d 192 268 [l0, some (.int x)] s h := g_sti (i := .istore_n 1) (len := 1) (q := 0) (p := 1) (by decide +kernel) rfl rfl hn
theorem e192_268 : rf d 192 268 [l0, some (.int x)] s h = rf d 192 269 [l0, some (.int x)] (.int x :: s) h := rf_pure (i := .iload_n 1) (len := 1) (okD_ok (by decide +kernel)) rfl
theorem e192_269 : rf d 192 269 ls s h = rf d 192 271 ls (.int 6 :: s) h := rf_pure (i := .bipush (6)) (len := 2) (okD_ok (by decide +kernel)) rfl
theorem e192_271 : rf d 192 271 ls (.int y :: .int x :: s) h = if y ≤ x then rf d 192 292 ls s h else rf d 192 274 ls s h := g_ic (c := .ge) (off := 21) _ (by decide +kernel) rfl cmp_d
theorem e192_274 : rf d 192 274 [some (.ref a), l1] s h = rf d 192 275 [some (.ref a), l1] (.ref a :: s) h := rf_pure (i := .aload_n 0) (len := 1) (okD_ok (by decide +kernel)) rfl
theorem e192_275 (hR : LYR R) : rf d 192 275 ls (.ref 265 :: s) (SH n, I, L, R, nc, ns, nx) = rf d 192 278 ls (.ref 277 :: s) (SH n, I, L, R, nc, ns, nx) := g_R (idx := 48) (by decide +kernel) ow192 f_8_48 rfl rfl (by decide) (ly_265_23 hR)
theorem e192_278 : rf d 192 278 [l0, some (.int x)] s h = rf d 192 279 [l0, some (.int x)] (.int x :: s) h := rf_pure (i := .iload_n 1) (len := 1) (okD_ok (by decide +kernel)) rfl
theorem e192_279 : rf d 192 279 [some (.ref a), l1] s h = rf d 192 280 [some (.ref a), l1] (.ref a :: s) h := rf_pure (i := .aload_n 0) (len := 1) (okD_ok (by decide +kernel)) rfl
theorem e192_280 (hR : LYR R) : rf d 192 280 ls (.ref 265 :: s) (SH n, I, L, R, nc, ns, nx) = rf d 192 283 ls (.ref 270 :: s) (SH n, I, L, R, nc, ns, nx) := g_R (idx := 27) (by decide +kernel) ow192 f_8_27 rfl rfl (by decide) (ly_265_13 hR)
theorem e192_283 : rf d 192 283 [l0, some (.int x)] s h = rf d 192 284 [l0, some (.int x)] (.int x :: s) h := rf_pure (i := .iload_n 1) (len := 1) (okD_ok (by decide +kernel)) rfl
theorem e192_284 (q : ia n a j) : rf d 192 284 ls (.int j :: .ref a :: s) (SH n, I, L, R, nc, ns, nx) = rf d 192 285 ls (.int (I a j.toNatClampNeg) :: s) (SH n, I, L, R, nc, ns, nx) := g_ial (by decide +kernel) q
theorem e192_285 (q : ia n a j) : rf d 192 285 ls (.int x :: .int j :: .ref a :: s) (SH n, I, L, R, nc, ns, nx) = rf d 192 286 ls s (SH n, ip_up I a j.toNatClampNeg x, L, R, nc, ns, nx) := g_ias (by decide +kernel) q
theorem e192_286 (hn : ip_nl l0 = true) : rf d 192 286 [l0, some (.int x)] s h = rf d 192 289 [l0, some (.int (x + 1))] s h := g_inc (q := 0) (z := 1) (w := 1) (x := x) (by decide) (by decide +kernel) rfl rfl hn
theorem e192_289 : rf d 192 289 ls s h = rf d 192 268 ls s h := rf_goto ⟨okD_ok (i := .goto (-21)) (len := 3) (by decide +kernel), rfl⟩
theorem e192_292 : rf d 192 292 ls s h = rf d 192 293 ls (.int 0 :: s) h := rf_pure (i := .iconst (0)) (len := 1) (okD_ok (by decide +kernel)) rfl
theorem e192_293 (hn : ip_nl l0 = true) : rf d 192 293 [l0, l1] (.int x :: s) h = rf d 192 294 [l0, some (.int x)] s h := g_sti (i := .istore_n 1) (len := 1) (q := 0) (p := 1) (by decide +kernel) rfl rfl hn
theorem e192_294 : rf d 192 294 [l0, some (.int x)] s h = rf d 192 295 [l0, some (.int x)] (.int x :: s) h := rf_pure (i := .iload_n 1) (len := 1) (okD_ok (by decide +kernel)) rfl
theorem e192_295 : rf d 192 295 [some (.ref a), l1] s h = rf d 192 296 [some (.ref a), l1] (.ref a :: s) h := rf_pure (i := .aload_n 0) (len := 1) (okD_ok (by decide +kernel)) rfl
theorem e192_296 : rf d 192 296 ls (.ref 265 :: s) (SH n, I, L, R, nc, ns, nx) = rf d 192 299 ls (.int (I 265 19) :: s) (SH n, I, L, R, nc, ns, nx) := g_I (idx := 297) (by decide +kernel) ow192 f_8_297 rfl rfl (by decide)
theorem e192_299 : rf d 192 299 ls (.int y :: .int x :: s) h = if y ≤ x then rf d 192 344 ls s h else rf d 192 302 ls s h := g_ic (c := .ge) (off := 45) _ (by decide +kernel) rfl cmp_d
theorem e192_302 : rf d 192 302 [some (.ref a), l1] s h = rf d 192 303 [some (.ref a), l1] (.ref a :: s) h := rf_pure (i := .aload_n 0) (len := 1) (okD_ok (by decide +kernel)) rfl
theorem e192_303 (hR : LYR R) : rf d 192 303 ls (.ref 265 :: s) (SH n, I, L, R, nc, ns, nx) = rf d 192 306 ls (.ref 278 :: s) (SH n, I, L, R, nc, ns, nx) := g_R (idx := 51) (by decide +kernel) ow192 f_8_51 rfl rfl (by decide) (ly_265_24 hR)
theorem e192_306 : rf d 192 306 [l0, some (.int x)] s h = rf d 192 307 [l0, some (.int x)] (.int x :: s) h := rf_pure (i := .iload_n 1) (len := 1) (okD_ok (by decide +kernel)) rfl
theorem e192_307 : rf d 192 307 [some (.ref a), l1] s h = rf d 192 308 [some (.ref a), l1] (.ref a :: s) h := rf_pure (i := .aload_n 0) (len := 1) (okD_ok (by decide +kernel)) rfl
theorem e192_308 (hR : LYR R) : rf d 192 308 ls (.ref 265 :: s) (SH n, I, L, R, nc, ns, nx) = rf d 192 311 ls (.ref 271 :: s) (SH n, I, L, R, nc, ns, nx) := g_R (idx := 30) (by decide +kernel) ow192 f_8_30 rfl rfl (by decide) (ly_265_14 hR)
theorem e192_311 : rf d 192 311 [l0, some (.int x)] s h = rf d 192 312 [l0, some (.int x)] (.int x :: s) h := rf_pure (i := .iload_n 1) (len := 1) (okD_ok (by decide +kernel)) rfl
theorem e192_312 (q : ia n a j) : rf d 192 312 ls (.int j :: .ref a :: s) (SH n, I, L, R, nc, ns, nx) = rf d 192 313 ls (.int (I a j.toNatClampNeg) :: s) (SH n, I, L, R, nc, ns, nx) := g_ial (by decide +kernel) q
theorem e192_313 (q : ia n a j) : rf d 192 313 ls (.int x :: .int j :: .ref a :: s) (SH n, I, L, R, nc, ns, nx) = rf d 192 314 ls s (SH n, ip_up I a j.toNatClampNeg x, L, R, nc, ns, nx) := g_ias (by decide +kernel) q
theorem e192_314 : rf d 192 314 [some (.ref a), l1] s h = rf d 192 315 [some (.ref a), l1] (.ref a :: s) h := rf_pure (i := .aload_n 0) (len := 1) (okD_ok (by decide +kernel)) rfl
theorem e192_315 (hR : LYR R) : rf d 192 315 ls (.ref 265 :: s) (SH n, I, L, R, nc, ns, nx) = rf d 192 318 ls (.ref 279 :: s) (SH n, I, L, R, nc, ns, nx) := g_R (idx := 54) (by decide +kernel) ow192 f_8_54 rfl rfl (by decide) (ly_265_25 hR)
theorem e192_318 : rf d 192 318 [l0, some (.int x)] s h = rf d 192 319 [l0, some (.int x)] (.int x :: s) h := rf_pure (i := .iload_n 1) (len := 1) (okD_ok (by decide +kernel)) rfl
theorem e192_319 : rf d 192 319 [some (.ref a), l1] s h = rf d 192 320 [some (.ref a), l1] (.ref a :: s) h := rf_pure (i := .aload_n 0) (len := 1) (okD_ok (by decide +kernel)) rfl
theorem e192_320 (hR : LYR R) : rf d 192 320 ls (.ref 265 :: s) (SH n, I, L, R, nc, ns, nx) = rf d 192 323 ls (.ref 272 :: s) (SH n, I, L, R, nc, ns, nx) := g_R (idx := 33) (by decide +kernel) ow192 f_8_33 rfl rfl (by decide) (ly_265_15 hR)
theorem e192_323 : rf d 192 323 [l0, some (.int x)] s h = rf d 192 324 [l0, some (.int x)] (.int x :: s) h := rf_pure (i := .iload_n 1) (len := 1) (okD_ok (by decide +kernel)) rfl
theorem e192_324 (q : ia n a j) : rf d 192 324 ls (.int j :: .ref a :: s) (SH n, I, L, R, nc, ns, nx) = rf d 192 325 ls (.int (I a j.toNatClampNeg) :: s) (SH n, I, L, R, nc, ns, nx) := g_ial (by decide +kernel) q
theorem e192_325 (q : ia n a j) : rf d 192 325 ls (.int x :: .int j :: .ref a :: s) (SH n, I, L, R, nc, ns, nx) = rf d 192 326 ls s (SH n, ip_up I a j.toNatClampNeg x, L, R, nc, ns, nx) := g_ias (by decide +kernel) q
theorem e192_326 : rf d 192 326 [some (.ref a), l1] s h = rf d 192 327 [some (.ref a), l1] (.ref a :: s) h := rf_pure (i := .aload_n 0) (len := 1) (okD_ok (by decide +kernel)) rfl
theorem e192_327 (hR : LYR R) : rf d 192 327 ls (.ref 265 :: s) (SH n, I, L, R, nc, ns, nx) = rf d 192 330 ls (.ref 280 :: s) (SH n, I, L, R, nc, ns, nx) := g_R (idx := 57) (by decide +kernel) ow192 f_8_57 rfl rfl (by decide) (ly_265_26 hR)
theorem e192_330 : rf d 192 330 [l0, some (.int x)] s h = rf d 192 331 [l0, some (.int x)] (.int x :: s) h := rf_pure (i := .iload_n 1) (len := 1) (okD_ok (by decide +kernel)) rfl
theorem e192_331 : rf d 192 331 [some (.ref a), l1] s h = rf d 192 332 [some (.ref a), l1] (.ref a :: s) h := rf_pure (i := .aload_n 0) (len := 1) (okD_ok (by decide +kernel)) rfl
theorem e192_332 (hR : LYR R) : rf d 192 332 ls (.ref 265 :: s) (SH n, I, L, R, nc, ns, nx) = rf d 192 335 ls (.ref 273 :: s) (SH n, I, L, R, nc, ns, nx) := g_R (idx := 36) (by decide +kernel) ow192 f_8_36 rfl rfl (by decide) (ly_265_16 hR)
theorem e192_335 : rf d 192 335 [l0, some (.int x)] s h = rf d 192 336 [l0, some (.int x)] (.int x :: s) h := rf_pure (i := .iload_n 1) (len := 1) (okD_ok (by decide +kernel)) rfl
theorem e192_336 (q : ia n a j) : rf d 192 336 ls (.int j :: .ref a :: s) (SH n, I, L, R, nc, ns, nx) = rf d 192 337 ls (.int (I a j.toNatClampNeg) :: s) (SH n, I, L, R, nc, ns, nx) := g_ial (by decide +kernel) q
theorem e192_337 (q : ia n a j) : rf d 192 337 ls (.int x :: .int j :: .ref a :: s) (SH n, I, L, R, nc, ns, nx) = rf d 192 338 ls s (SH n, ip_up I a j.toNatClampNeg x, L, R, nc, ns, nx) := g_ias (by decide +kernel) q
theorem e192_338 (hn : ip_nl l0 = true) : rf d 192 338 [l0, some (.int x)] s h = rf d 192 341 [l0, some (.int (x + 1))] s h := g_inc (q := 0) (z := 1) (w := 1) (x := x) (by decide) (by decide +kernel) rfl rfl hn
theorem e192_341 : rf d 192 341 ls s h = rf d 192 294 ls s h := rf_goto ⟨okD_ok (i := .goto (-47)) (len := 3) (by decide +kernel), rfl⟩
theorem e192_344 : rf d 192 344 [some (.ref a), l1] s h = rf d 192 345 [some (.ref a), l1] (.ref a :: s) h := rf_pure (i := .aload_n 0) (len := 1) (okD_ok (by decide +kernel)) rfl
theorem e192_345 (hcat : ip_cat s ≤ 8) : rf (d + 1) 192 345 ls (.ref 265 :: s) (SH n, I, L, R, nc, ns, nx) = rf_k (d + 1) 192 345 ls s (cf d 184 [.ref 265] (SH n, I, L, R, nc, ns, nx)) := g_cv (idx := 139) (t := 8) [] (by decide +kernel) ow192 ms_8_139 mt_8_139 cy184_8 rfl rfl mL184 rfl rfl (by decide) hcat
theorem e192_348 : rf d 192 348 [some (.ref a), l1] s h = rf d 192 349 [some (.ref a), l1] (.ref a :: s) h := rf_pure (i := .aload_n 0) (len := 1) (okD_ok (by decide +kernel)) rfl
theorem e192_349 : rf d 192 349 ls (.ref 265 :: s) (SH n, I, L, R, nc, ns, nx) = rf d 192 352 ls (.int (I 265 17) :: s) (SH n, I, L, R, nc, ns, nx) := g_I (idx := 291) (by decide +kernel) ow192 f_8_291 rfl rfl (by decide)
theorem e192_352 : rf d 192 352 ls [.int x] h = some (.inl (some (.int x)), h) := g_ri (by decide +kernel) rt192
theorem en193 : cf d 193 [.ref a] h = rf d 193 0 [some (.ref a)] [] h := rfl
theorem e193_0 : rf d 193 0 [some (.ref a)] s h = rf d 193 1 [some (.ref a)] (.ref a :: s) h := rf_pure (i := .aload_n 0) (len := 1) (okD_ok (by decide +kernel)) rfl
theorem e193_1 : rf d 193 1 ls (.ref 265 :: s) (SH n, I, L, R, nc, ns, nx) = rf d 193 4 ls (.int (I 265 4) :: s) (SH n, I, L, R, nc, ns, nx) := g_I (idx := 148) (by decide +kernel) ow193 f_8_148 rfl rfl (by decide)
theorem e193_4 : rf d 193 4 [some (.ref a)] s h = rf d 193 5 [some (.ref a)] (.ref a :: s) h := rf_pure (i := .aload_n 0) (len := 1) (okD_ok (by decide +kernel)) rfl
theorem e193_5 : rf d 193 5 ls (.ref 265 :: s) (SH n, I, L, R, nc, ns, nx) = rf d 193 8 ls (.int (I 265 3) :: s) (SH n, I, L, R, nc, ns, nx) := g_I (idx := 151) (by decide +kernel) ow193 f_8_151 rfl rfl (by decide)
theorem e193_8 : rf d 193 8 ls (.int y :: .int x :: s) h = if y ≤ x then rf d 193 66 ls s h else rf d 193 11 ls s h := g_ic (c := .ge) (off := 58) _ (by decide +kernel) rfl cmp_d
theorem e193_11 : rf d 193 11 [some (.ref a)] s h = rf d 193 12 [some (.ref a)] (.ref a :: s) h := rf_pure (i := .aload_n 0) (len := 1) (okD_ok (by decide +kernel)) rfl
theorem e193_12 (hR : LYR R) : rf d 193 12 ls (.ref 265 :: s) (SH n, I, L, R, nc, ns, nx) = rf d 193 15 ls (.ref 266 :: s) (SH n, I, L, R, nc, ns, nx) := g_R (idx := 7) (by decide +kernel) ow193 f_8_7 rfl rfl (by decide) (ly_265_1 hR)
theorem e193_15 : rf d 193 15 [some (.ref a)] s h = rf d 193 16 [some (.ref a)] (.ref a :: s) h := rf_pure (i := .aload_n 0) (len := 1) (okD_ok (by decide +kernel)) rfl
theorem e193_16 : rf d 193 16 ls (.ref 265 :: s) (SH n, I, L, R, nc, ns, nx) = rf d 193 19 ls (.int (I 265 4) :: s) (SH n, I, L, R, nc, ns, nx) := g_I (idx := 148) (by decide +kernel) ow193 f_8_148 rfl rfl (by decide)
theorem e193_19 (q : ia n a j) : rf d 193 19 ls (.int j :: .ref a :: s) (SH n, I, L, R, nc, ns, nx) = rf d 193 20 ls (.int (I a j.toNatClampNeg) :: s) (SH n, I, L, R, nc, ns, nx) := g_ial (by decide +kernel) q
theorem e193_20 : rf d 193 20 ls s h = rf d 193 22 ls (.int 32 :: s) h := rf_pure (i := .bipush (32)) (len := 2) (okD_ok (by decide +kernel)) rfl
theorem e193_22 : rf d 193 22 ls (.int y :: .int x :: s) h = if x = y then rf d 193 53 ls s h else rf d 193 25 ls s h := g_ic (c := .eq) (off := 31) _ (by decide +kernel) rfl cmp_d
theorem e193_25 : rf d 193 25 [some (.ref a)] s h = rf d 193 26 [some (.ref a)] (.ref a :: s) h := rf_pure (i := .aload_n 0) (len := 1) (okD_ok (by decide +kernel)) rfl
theorem e193_26 (hR : LYR R) : rf d 193 26 ls (.ref 265 :: s) (SH n, I, L, R, nc, ns, nx) = rf d 193 29 ls (.ref 266 :: s) (SH n, I, L, R, nc, ns, nx) := g_R (idx := 7) (by decide +kernel) ow193 f_8_7 rfl rfl (by decide) (ly_265_1 hR)
theorem e193_29 : rf d 193 29 [some (.ref a)] s h = rf d 193 30 [some (.ref a)] (.ref a :: s) h := rf_pure (i := .aload_n 0) (len := 1) (okD_ok (by decide +kernel)) rfl
theorem e193_30 : rf d 193 30 ls (.ref 265 :: s) (SH n, I, L, R, nc, ns, nx) = rf d 193 33 ls (.int (I 265 4) :: s) (SH n, I, L, R, nc, ns, nx) := g_I (idx := 148) (by decide +kernel) ow193 f_8_148 rfl rfl (by decide)
theorem e193_33 (q : ia n a j) : rf d 193 33 ls (.int j :: .ref a :: s) (SH n, I, L, R, nc, ns, nx) = rf d 193 34 ls (.int (I a j.toNatClampNeg) :: s) (SH n, I, L, R, nc, ns, nx) := g_ial (by decide +kernel) q
theorem e193_34 : rf d 193 34 ls s h = rf d 193 36 ls (.int 9 :: s) h := rf_pure (i := .bipush (9)) (len := 2) (okD_ok (by decide +kernel)) rfl
theorem e193_36 : rf d 193 36 ls (.int y :: .int x :: s) h = if x = y then rf d 193 53 ls s h else rf d 193 39 ls s h := g_ic (c := .eq) (off := 17) _ (by decide +kernel) rfl cmp_d
theorem e193_39 : rf d 193 39 [some (.ref a)] s h = rf d 193 40 [some (.ref a)] (.ref a :: s) h := rf_pure (i := .aload_n 0) (len := 1) (okD_ok (by decide +kernel)) rfl
theorem e193_40 (hR : LYR R) : rf d 193 40 ls (.ref 265 :: s) (SH n, I, L, R, nc, ns, nx) = rf d 193 43 ls (.ref 266 :: s) (SH n, I, L, R, nc, ns, nx) := g_R (idx := 7) (by decide +kernel) ow193 f_8_7 rfl rfl (by decide) (ly_265_1 hR)
theorem e193_43 : rf d 193 43 [some (.ref a)] s h = rf d 193 44 [some (.ref a)] (.ref a :: s) h := rf_pure (i := .aload_n 0) (len := 1) (okD_ok (by decide +kernel)) rfl
theorem e193_44 : rf d 193 44 ls (.ref 265 :: s) (SH n, I, L, R, nc, ns, nx) = rf d 193 47 ls (.int (I 265 4) :: s) (SH n, I, L, R, nc, ns, nx) := g_I (idx := 148) (by decide +kernel) ow193 f_8_148 rfl rfl (by decide)
theorem e193_47 (q : ia n a j) : rf d 193 47 ls (.int j :: .ref a :: s) (SH n, I, L, R, nc, ns, nx) = rf d 193 48 ls (.int (I a j.toNatClampNeg) :: s) (SH n, I, L, R, nc, ns, nx) := g_ial (by decide +kernel) q
theorem e193_48 : rf d 193 48 ls s h = rf d 193 50 ls (.int 10 :: s) h := rf_pure (i := .bipush (10)) (len := 2) (okD_ok (by decide +kernel)) rfl
theorem e193_50 : rf d 193 50 ls (.int y :: .int x :: s) h = if ¬ x = y then rf d 193 66 ls s h else rf d 193 53 ls s h := g_ic (c := .ne) (off := 16) _ (by decide +kernel) rfl cmp_d
theorem e193_53 : rf d 193 53 [some (.ref a)] s h = rf d 193 54 [some (.ref a)] (.ref a :: s) h := rf_pure (i := .aload_n 0) (len := 1) (okD_ok (by decide +kernel)) rfl
theorem e193_54 : rf d 193 54 ls (.int x :: s) h = rf d 193 55 ls (.int x :: .int x :: s) h := rf_pure (i := .dup) (len := 1) (okD_ok (by decide +kernel)) rfl
theorem e193_54r : rf d 193 54 ls (.ref a :: s) h = rf d 193 55 ls (.ref a :: .ref a :: s) h := rf_pure (i := .dup) (len := 1) (okD_ok (by decide +kernel)) rfl
theorem e193_55 : rf d 193 55 ls (.ref 265 :: s) (SH n, I, L, R, nc, ns, nx) = rf d 193 58 ls (.int (I 265 4) :: s) (SH n, I, L, R, nc, ns, nx) := g_I (idx := 148) (by decide +kernel) ow193 f_8_148 rfl rfl (by decide)
theorem e193_58 : rf d 193 58 ls s h = rf d 193 59 ls (.int 1 :: s) h := rf_pure (i := .iconst (1)) (len := 1) (okD_ok (by decide +kernel)) rfl
theorem e193_59 : rf d 193 59 ls (.int y :: .int x :: s) h = rf d 193 60 ls (.int (x + y) :: s) h := rf_pure (i := .iadd) (len := 1) (okD_ok (by decide +kernel)) rfl
theorem e193_60 : rf d 193 60 ls (.int x :: .ref 265 :: s) (SH n, I, L, R, nc, ns, nx) = rf d 193 63 ls s (SH n, ip_up I 265 4 x, L, R, nc, ns, nx) := g_pI (idx := 148) (by decide +kernel) ow193 f_8_148 rfl (by decide +kernel) rfl (by decide)
theorem e193_63 : rf d 193 63 ls s h = rf d 193 0 ls s h := rf_goto ⟨okD_ok (i := .goto (-63)) (len := 3) (by decide +kernel), rfl⟩
theorem e193_66 : rf d 193 66 [some (.ref a)] s h = rf d 193 67 [some (.ref a)] (.ref a :: s) h := rf_pure (i := .aload_n 0) (len := 1) (okD_ok (by decide +kernel)) rfl
theorem e193_67 : rf d 193 67 ls (.ref 265 :: s) (SH n, I, L, R, nc, ns, nx) = rf d 193 70 ls (.int (I 265 4) :: s) (SH n, I, L, R, nc, ns, nx) := g_I (idx := 148) (by decide +kernel) ow193 f_8_148 rfl rfl (by decide)
theorem e193_70 : rf d 193 70 [some (.ref a)] s h = rf d 193 71 [some (.ref a)] (.ref a :: s) h := rf_pure (i := .aload_n 0) (len := 1) (okD_ok (by decide +kernel)) rfl
theorem e193_71 : rf d 193 71 ls (.ref 265 :: s) (SH n, I, L, R, nc, ns, nx) = rf d 193 74 ls (.int (I 265 3) :: s) (SH n, I, L, R, nc, ns, nx) := g_I (idx := 151) (by decide +kernel) ow193 f_8_151 rfl rfl (by decide)
theorem e193_74 : rf d 193 74 ls (.int y :: .int x :: s) h = if y ≤ x then rf d 193 89 ls s h else rf d 193 77 ls s h := g_ic (c := .ge) (off := 15) _ (by decide +kernel) rfl cmp_d
theorem e193_77 : rf d 193 77 [some (.ref a)] s h = rf d 193 78 [some (.ref a)] (.ref a :: s) h := rf_pure (i := .aload_n 0) (len := 1) (okD_ok (by decide +kernel)) rfl
theorem e193_78 (hR : LYR R) : rf d 193 78 ls (.ref 265 :: s) (SH n, I, L, R, nc, ns, nx) = rf d 193 81 ls (.ref 266 :: s) (SH n, I, L, R, nc, ns, nx) := g_R (idx := 7) (by decide +kernel) ow193 f_8_7 rfl rfl (by decide) (ly_265_1 hR)
theorem e193_81 : rf d 193 81 [some (.ref a)] s h = rf d 193 82 [some (.ref a)] (.ref a :: s) h := rf_pure (i := .aload_n 0) (len := 1) (okD_ok (by decide +kernel)) rfl
theorem e193_82 : rf d 193 82 ls (.ref 265 :: s) (SH n, I, L, R, nc, ns, nx) = rf d 193 85 ls (.int (I 265 4) :: s) (SH n, I, L, R, nc, ns, nx) := g_I (idx := 148) (by decide +kernel) ow193 f_8_148 rfl rfl (by decide)
theorem e193_85 (q : ia n a j) : rf d 193 85 ls (.int j :: .ref a :: s) (SH n, I, L, R, nc, ns, nx) = rf d 193 86 ls (.int (I a j.toNatClampNeg) :: s) (SH n, I, L, R, nc, ns, nx) := g_ial (by decide +kernel) q
theorem e193_86 : rf d 193 86 ls s h = rf d 193 90 ls s h := rf_goto ⟨okD_ok (i := .goto (4)) (len := 3) (by decide +kernel), rfl⟩
theorem e193_89 : rf d 193 89 ls s h = rf d 193 90 ls (.int (-1) :: s) h := rf_pure (i := .iconst (-1)) (len := 1) (okD_ok (by decide +kernel)) rfl
theorem e193_90 : rf d 193 90 ls [.int x] h = some (.inl (some (.int x)), h) := g_ri (by decide +kernel) rt193
theorem en194 : cf d 194 [.ref a, .ref a0] h = rf d 194 0 [some (.ref a), some (.ref a0), none] [] h := rfl
theorem e194_0 : rf d 194 0 [some (.ref a), l1, l2] s h = rf d 194 1 [some (.ref a), l1, l2] (.ref a :: s) h := rf_pure (i := .aload_n 0) (len := 1) (okD_ok (by decide +kernel)) rfl
theorem e194_1 (hcat : ip_cat s ≤ 8) : rf (d + 1) 194 1 ls (.ref 265 :: s) (SH n, I, L, R, nc, ns, nx) = rf_k (d + 1) 194 1 ls s (cf d 195 [.ref 265] (SH n, I, L, R, nc, ns, nx)) := g_cv (idx := 158) (t := 8) [] (by decide +kernel) ow194 ms_8_158 mt_8_158 cy195_8 rfl rfl mL195 rfl rfl (by decide) hcat
theorem e194_4 : rf d 194 4 [l0, some (.ref a), l2] s h = rf d 194 5 [l0, some (.ref a), l2] (.ref a :: s) h := rf_pure (i := .aload_n 1) (len := 1) (okD_ok (by decide +kernel)) rfl
theorem e194_5 (ht : t < 39) (hcat : ip_cat s ≤ 8) : rf d 194 5 ls (.ref (tx t) :: s) h = rf d 194 8 ls (.int (Int32.ofNat (ip_tb.getD t []).length) :: s) h := g_sl (idx := 161) (by decide +kernel) ow194 (by decide +kernel) ht hcat
theorem e194_8 : rf d 194 8 ls (.int y :: .int x :: s) h = if x = y then rf d 194 13 ls s h else rf d 194 11 ls s h := g_ic (c := .eq) (off := 5) _ (by decide +kernel) rfl cmp_d
theorem e194_11 : rf d 194 11 ls s h = rf d 194 12 ls (.int 0 :: s) h := rf_pure (i := .iconst (0)) (len := 1) (okD_ok (by decide +kernel)) rfl
theorem e194_12 (hx : x = 0 ∨ x = 1) : rf d 194 12 ls [.int x] h = some (.inl (some (.int x)), h) := g_rz (by decide +kernel) rt194 hx
theorem e194_13 : rf d 194 13 ls s h = rf d 194 14 ls (.int 0 :: s) h := rf_pure (i := .iconst (0)) (len := 1) (okD_ok (by decide +kernel)) rfl
theorem e194_14 (hn : ip_nl l1 = true) : rf d 194 14 [l0, l1, l2] (.int x :: s) h = rf d 194 15 [l0, l1, some (.int x)] s h := g_sti (i := .istore_n 2) (len := 1) (q := 1) (p := 1) (by decide +kernel) rfl rfl hn
theorem e194_15 : rf d 194 15 [l0, l1, some (.int x)] s h = rf d 194 16 [l0, l1, some (.int x)] (.int x :: s) h := rf_pure (i := .iload_n 2) (len := 1) (okD_ok (by decide +kernel)) rfl
theorem e194_16 : rf d 194 16 [l0, some (.ref a), l2] s h = rf d 194 17 [l0, some (.ref a), l2] (.ref a :: s) h := rf_pure (i := .aload_n 1) (len := 1) (okD_ok (by decide +kernel)) rfl
theorem e194_17 (ht : t < 39) (hcat : ip_cat s ≤ 8) : rf d 194 17 ls (.ref (tx t) :: s) h = rf d 194 20 ls (.int (Int32.ofNat (ip_tb.getD t []).length) :: s) h := g_sl (idx := 161) (by decide +kernel) ow194 (by decide +kernel) ht hcat
theorem e194_20 : rf d 194 20 ls (.int y :: .int x :: s) h = if y ≤ x then rf d 194 50 ls s h else rf d 194 23 ls s h := g_ic (c := .ge) (off := 30) _ (by decide +kernel) rfl cmp_d
theorem e194_23 : rf d 194 23 [some (.ref a), l1, l2] s h = rf d 194 24 [some (.ref a), l1, l2] (.ref a :: s) h := rf_pure (i := .aload_n 0) (len := 1) (okD_ok (by decide +kernel)) rfl
theorem e194_24 (hR : LYR R) : rf d 194 24 ls (.ref 265 :: s) (SH n, I, L, R, nc, ns, nx) = rf d 194 27 ls (.ref 266 :: s) (SH n, I, L, R, nc, ns, nx) := g_R (idx := 7) (by decide +kernel) ow194 f_8_7 rfl rfl (by decide) (ly_265_1 hR)
theorem e194_27 : rf d 194 27 [some (.ref a), l1, l2] s h = rf d 194 28 [some (.ref a), l1, l2] (.ref a :: s) h := rf_pure (i := .aload_n 0) (len := 1) (okD_ok (by decide +kernel)) rfl
theorem e194_28 : rf d 194 28 ls (.ref 265 :: s) (SH n, I, L, R, nc, ns, nx) = rf d 194 31 ls (.int (I 265 4) :: s) (SH n, I, L, R, nc, ns, nx) := g_I (idx := 148) (by decide +kernel) ow194 f_8_148 rfl rfl (by decide)
theorem e194_31 : rf d 194 31 [l0, l1, some (.int x)] s h = rf d 194 32 [l0, l1, some (.int x)] (.int x :: s) h := rf_pure (i := .iload_n 2) (len := 1) (okD_ok (by decide +kernel)) rfl
theorem e194_32 : rf d 194 32 ls (.int y :: .int x :: s) h = rf d 194 33 ls (.int (x + y) :: s) h := rf_pure (i := .iadd) (len := 1) (okD_ok (by decide +kernel)) rfl
theorem e194_33 (q : ia n a j) : rf d 194 33 ls (.int j :: .ref a :: s) (SH n, I, L, R, nc, ns, nx) = rf d 194 34 ls (.int (I a j.toNatClampNeg) :: s) (SH n, I, L, R, nc, ns, nx) := g_ial (by decide +kernel) q
theorem e194_34 : rf d 194 34 [l0, some (.ref a), l2] s h = rf d 194 35 [l0, some (.ref a), l2] (.ref a :: s) h := rf_pure (i := .aload_n 1) (len := 1) (okD_ok (by decide +kernel)) rfl
theorem e194_35 : rf d 194 35 [l0, l1, some (.int x)] s h = rf d 194 36 [l0, l1, some (.int x)] (.int x :: s) h := rf_pure (i := .iload_n 2) (len := 1) (okD_ok (by decide +kernel)) rfl
theorem e194_36 (ht : t < 39) (hcat : ip_cat s ≤ 8) (hj : inb j (ip_tb.getD t []).length) : rf d 194 36 ls (.int j :: .ref (tx t) :: s) h = rf d 194 39 ls (.int (Int32.ofNat ((ip_tb.getD t []).getD j.toNatClampNeg 0)) :: s) h := g_sc (idx := 166) (by decide +kernel) ow194 (by decide +kernel) ht hcat hj
theorem e194_39 : rf d 194 39 ls (.int y :: .int x :: s) h = if x = y then rf d 194 44 ls s h else rf d 194 42 ls s h := g_ic (c := .eq) (off := 5) _ (by decide +kernel) rfl cmp_d
theorem e194_42 : rf d 194 42 ls s h = rf d 194 43 ls (.int 0 :: s) h := rf_pure (i := .iconst (0)) (len := 1) (okD_ok (by decide +kernel)) rfl
theorem e194_43 (hx : x = 0 ∨ x = 1) : rf d 194 43 ls [.int x] h = some (.inl (some (.int x)), h) := g_rz (by decide +kernel) rt194 hx
theorem e194_44 (hn : ip_nl l1 = true) : rf d 194 44 [l0, l1, some (.int x)] s h = rf d 194 47 [l0, l1, some (.int (x + 1))] s h := g_inc (q := 1) (z := 1) (w := 1) (x := x) (by decide) (by decide +kernel) rfl rfl hn
theorem e194_47 : rf d 194 47 ls s h = rf d 194 15 ls s h := rf_goto ⟨okD_ok (i := .goto (-32)) (len := 3) (by decide +kernel), rfl⟩
theorem e194_50 : rf d 194 50 ls s h = rf d 194 51 ls (.int 1 :: s) h := rf_pure (i := .iconst (1)) (len := 1) (okD_ok (by decide +kernel)) rfl
theorem e194_51 (hx : x = 0 ∨ x = 1) : rf d 194 51 ls [.int x] h = some (.inl (some (.int x)), h) := g_rz (by decide +kernel) rt194 hx
theorem en195 : cf d 195 [.ref a] h = rf d 195 0 [some (.ref a), none, none] [] h := rfl
theorem e195_0 : rf d 195 0 [some (.ref a), l1, l2] s h = rf d 195 1 [some (.ref a), l1, l2] (.ref a :: s) h := rf_pure (i := .aload_n 0) (len := 1) (okD_ok (by decide +kernel)) rfl
theorem e195_1 (hcat : ip_cat s ≤ 8) : rf (d + 1) 195 1 ls (.ref 265 :: s) (SH n, I, L, R, nc, ns, nx) = rf_k (d + 1) 195 1 ls s (cf d 193 [.ref 265] (SH n, I, L, R, nc, ns, nx)) := g_cv (idx := 154) (t := 8) [] (by decide +kernel) ow195 ms_8_154 mt_8_154 cy193_8 rfl rfl mL193 rfl rfl (by decide) hcat
theorem e195_4 (hn : ip_nl l0 = true) : rf d 195 4 [l0, l1, l2] (.int x :: s) h = rf d 195 5 [l0, some (.int x), l2] s h := g_sti (i := .istore_n 1) (len := 1) (q := 0) (p := 1) (by decide +kernel) rfl rfl hn
theorem e195_5 : rf d 195 5 [some (.ref a), l1, l2] s h = rf d 195 6 [some (.ref a), l1, l2] (.ref a :: s) h := rf_pure (i := .aload_n 0) (len := 1) (okD_ok (by decide +kernel)) rfl
theorem e195_6 : rf d 195 6 ls (.ref 265 :: s) (SH n, I, L, R, nc, ns, nx) = rf d 195 9 ls (.int (I 265 4) :: s) (SH n, I, L, R, nc, ns, nx) := g_I (idx := 148) (by decide +kernel) ow195 f_8_148 rfl rfl (by decide)
theorem e195_9 (hn : ip_nl l1 = true) : rf d 195 9 [l0, l1, l2] (.int x :: s) h = rf d 195 10 [l0, l1, some (.int x)] s h := g_sti (i := .istore_n 2) (len := 1) (q := 1) (p := 1) (by decide +kernel) rfl rfl hn
theorem e195_10 : rf d 195 10 [l0, some (.int x), l2] s h = rf d 195 11 [l0, some (.int x), l2] (.int x :: s) h := rf_pure (i := .iload_n 1) (len := 1) (okD_ok (by decide +kernel)) rfl
theorem e195_11 : rf d 195 11 ls s h = rf d 195 12 ls (.int (-1) :: s) h := rf_pure (i := .iconst (-1)) (len := 1) (okD_ok (by decide +kernel)) rfl
theorem e195_12 : rf d 195 12 ls (.int y :: .int x :: s) h = if x = y then rf d 195 51 ls s h else rf d 195 15 ls s h := g_ic (c := .eq) (off := 39) _ (by decide +kernel) rfl cmp_d
theorem e195_15 : rf d 195 15 [l0, l1, some (.int x)] s h = rf d 195 16 [l0, l1, some (.int x)] (.int x :: s) h := rf_pure (i := .iload_n 2) (len := 1) (okD_ok (by decide +kernel)) rfl
theorem e195_16 : rf d 195 16 [some (.ref a), l1, l2] s h = rf d 195 17 [some (.ref a), l1, l2] (.ref a :: s) h := rf_pure (i := .aload_n 0) (len := 1) (okD_ok (by decide +kernel)) rfl
theorem e195_17 : rf d 195 17 ls (.ref 265 :: s) (SH n, I, L, R, nc, ns, nx) = rf d 195 20 ls (.int (I 265 3) :: s) (SH n, I, L, R, nc, ns, nx) := g_I (idx := 151) (by decide +kernel) ow195 f_8_151 rfl rfl (by decide)
theorem e195_20 : rf d 195 20 ls (.int y :: .int x :: s) h = if y ≤ x then rf d 195 51 ls s h else rf d 195 23 ls s h := g_ic (c := .ge) (off := 31) _ (by decide +kernel) rfl cmp_d
theorem e195_23 : rf d 195 23 [some (.ref a), l1, l2] s h = rf d 195 24 [some (.ref a), l1, l2] (.ref a :: s) h := rf_pure (i := .aload_n 0) (len := 1) (okD_ok (by decide +kernel)) rfl
theorem e195_24 (hR : LYR R) : rf d 195 24 ls (.ref 265 :: s) (SH n, I, L, R, nc, ns, nx) = rf d 195 27 ls (.ref 266 :: s) (SH n, I, L, R, nc, ns, nx) := g_R (idx := 7) (by decide +kernel) ow195 f_8_7 rfl rfl (by decide) (ly_265_1 hR)
theorem e195_27 : rf d 195 27 [l0, l1, some (.int x)] s h = rf d 195 28 [l0, l1, some (.int x)] (.int x :: s) h := rf_pure (i := .iload_n 2) (len := 1) (okD_ok (by decide +kernel)) rfl
theorem e195_28 (q : ia n a j) : rf d 195 28 ls (.int j :: .ref a :: s) (SH n, I, L, R, nc, ns, nx) = rf d 195 29 ls (.int (I a j.toNatClampNeg) :: s) (SH n, I, L, R, nc, ns, nx) := g_ial (by decide +kernel) q
theorem e195_29 : rf d 195 29 ls s h = rf d 195 31 ls (.int 97 :: s) h := rf_pure (i := .bipush (97)) (len := 2) (okD_ok (by decide +kernel)) rfl
theorem e195_31 : rf d 195 31 ls (.int y :: .int x :: s) h = if x < y then rf d 195 51 ls s h else rf d 195 34 ls s h := g_ic (c := .lt) (off := 20) _ (by decide +kernel) rfl cmp_d
theorem e195_34 : rf d 195 34 [some (.ref a), l1, l2] s h = rf d 195 35 [some (.ref a), l1, l2] (.ref a :: s) h := rf_pure (i := .aload_n 0) (len := 1) (okD_ok (by decide +kernel)) rfl
theorem e195_35 (hR : LYR R) : rf d 195 35 ls (.ref 265 :: s) (SH n, I, L, R, nc, ns, nx) = rf d 195 38 ls (.ref 266 :: s) (SH n, I, L, R, nc, ns, nx) := g_R (idx := 7) (by decide +kernel) ow195 f_8_7 rfl rfl (by decide) (ly_265_1 hR)
theorem e195_38 : rf d 195 38 [l0, l1, some (.int x)] s h = rf d 195 39 [l0, l1, some (.int x)] (.int x :: s) h := rf_pure (i := .iload_n 2) (len := 1) (okD_ok (by decide +kernel)) rfl
theorem e195_39 (q : ia n a j) : rf d 195 39 ls (.int j :: .ref a :: s) (SH n, I, L, R, nc, ns, nx) = rf d 195 40 ls (.int (I a j.toNatClampNeg) :: s) (SH n, I, L, R, nc, ns, nx) := g_ial (by decide +kernel) q
theorem e195_40 : rf d 195 40 ls s h = rf d 195 42 ls (.int 122 :: s) h := rf_pure (i := .bipush (122)) (len := 2) (okD_ok (by decide +kernel)) rfl
theorem e195_42 : rf d 195 42 ls (.int y :: .int x :: s) h = if y < x then rf d 195 51 ls s h else rf d 195 45 ls s h := g_ic (c := .gt) (off := 9) _ (by decide +kernel) rfl cmp_d
theorem e195_45 (hn : ip_nl l1 = true) : rf d 195 45 [l0, l1, some (.int x)] s h = rf d 195 48 [l0, l1, some (.int (x + 1))] s h := g_inc (q := 1) (z := 1) (w := 1) (x := x) (by decide) (by decide +kernel) rfl rfl hn
theorem e195_48 : rf d 195 48 ls s h = rf d 195 10 ls s h := rf_goto ⟨okD_ok (i := .goto (-38)) (len := 3) (by decide +kernel), rfl⟩
theorem e195_51 : rf d 195 51 [l0, l1, some (.int x)] s h = rf d 195 52 [l0, l1, some (.int x)] (.int x :: s) h := rf_pure (i := .iload_n 2) (len := 1) (okD_ok (by decide +kernel)) rfl
theorem e195_52 : rf d 195 52 [some (.ref a), l1, l2] s h = rf d 195 53 [some (.ref a), l1, l2] (.ref a :: s) h := rf_pure (i := .aload_n 0) (len := 1) (okD_ok (by decide +kernel)) rfl
theorem e195_53 : rf d 195 53 ls (.ref 265 :: s) (SH n, I, L, R, nc, ns, nx) = rf d 195 56 ls (.int (I 265 4) :: s) (SH n, I, L, R, nc, ns, nx) := g_I (idx := 148) (by decide +kernel) ow195 f_8_148 rfl rfl (by decide)
theorem e195_56 : rf d 195 56 ls (.int y :: .int x :: s) h = rf d 195 57 ls (.int (x - y) :: s) h := rf_pure (i := .isub) (len := 1) (okD_ok (by decide +kernel)) rfl
theorem e195_57 : rf d 195 57 ls [.int x] h = some (.inl (some (.int x)), h) := g_ri (by decide +kernel) rt195
theorem en196 : cf d 196 [.ref a] h = rf d 196 0 [some (.ref a), none, none, none] [] h := rfl
theorem e196_0 : rf d 196 0 [some (.ref a), l1, l2, l3] s h = rf d 196 1 [some (.ref a), l1, l2, l3] (.ref a :: s) h := rf_pure (i := .aload_n 0) (len := 1) (okD_ok (by decide +kernel)) rfl
theorem e196_1 : rf d 196 1 ls (.ref 265 :: s) (SH n, I, L, R, nc, ns, nx) = rf d 196 4 ls (.int (I 265 6) :: s) (SH n, I, L, R, nc, ns, nx) := g_I (idx := 218) (by decide +kernel) ow196 f_8_218 rfl rfl (by decide)
theorem e196_4 : rf d 196 4 ls s h = rf d 196 6 ls (.int 8 :: s) h := rf_pure (i := .bipush (8)) (len := 2) (okD_ok (by decide +kernel)) rfl
theorem e196_6 : rf d 196 6 ls (.int y :: .int x :: s) h = if ¬ x = y then rf d 196 13 ls s h else rf d 196 9 ls s h := g_ic (c := .ne) (off := 7) _ (by decide +kernel) rfl cmp_d
theorem e196_9 : rf d 196 9 [some (.ref a), l1, l2, l3] s h = rf d 196 10 [some (.ref a), l1, l2, l3] (.ref a :: s) h := rf_pure (i := .aload_n 0) (len := 1) (okD_ok (by decide +kernel)) rfl
theorem e196_10 (hcat : ip_cat s ≤ 8) : rf (d + 1) 196 10 ls (.ref 265 :: s) (SH n, I, L, R, nc, ns, nx) = rf_k (d + 1) 196 10 ls s (cf d 197 [.ref 265] (SH n, I, L, R, nc, ns, nx)) := g_cv (idx := 174) (t := 8) [] (by decide +kernel) ow196 ms_8_174 mt_8_174 cy197_8 rfl rfl mL197 rfl rfl (by decide) hcat
theorem e196_13 : rf d 196 13 [some (.ref a), l1, l2, l3] s h = rf d 196 14 [some (.ref a), l1, l2, l3] (.ref a :: s) h := rf_pure (i := .aload_n 0) (len := 1) (okD_ok (by decide +kernel)) rfl
theorem e196_14 : rf d 196 14 ls (.ref 265 :: s) (SH n, I, L, R, nc, ns, nx) = rf d 196 17 ls (.int (I 265 5) :: s) (SH n, I, L, R, nc, ns, nx) := g_I (idx := 13) (by decide +kernel) ow196 f_8_13 rfl rfl (by decide)
theorem e196_17 : rf d 196 17 ls s h = rf d 196 18 ls (.int (-1) :: s) h := rf_pure (i := .iconst (-1)) (len := 1) (okD_ok (by decide +kernel)) rfl
theorem e196_18 : rf d 196 18 ls (.int y :: .int x :: s) h = if x = y then rf d 196 22 ls s h else rf d 196 21 ls s h := g_ic (c := .eq) (off := 4) _ (by decide +kernel) rfl cmp_d
theorem e196_21 : rf d 196 21 ls [] h = some (.inl none, h) := g_rv (by decide +kernel) rt196
theorem e196_22 : rf d 196 22 [some (.ref a), l1, l2, l3] s h = rf d 196 23 [some (.ref a), l1, l2, l3] (.ref a :: s) h := rf_pure (i := .aload_n 0) (len := 1) (okD_ok (by decide +kernel)) rfl
theorem e196_23 : rf d 196 23 ls (.int x :: s) h = rf d 196 24 ls (.int x :: .int x :: s) h := rf_pure (i := .dup) (len := 1) (okD_ok (by decide +kernel)) rfl
theorem e196_23r : rf d 196 23 ls (.ref a :: s) h = rf d 196 24 ls (.ref a :: .ref a :: s) h := rf_pure (i := .dup) (len := 1) (okD_ok (by decide +kernel)) rfl
theorem e196_24 : rf d 196 24 ls (.ref 265 :: s) (SH n, I, L, R, nc, ns, nx) = rf d 196 27 ls (.int (I 265 4) :: s) (SH n, I, L, R, nc, ns, nx) := g_I (idx := 148) (by decide +kernel) ow196 f_8_148 rfl rfl (by decide)
theorem e196_27 : rf d 196 27 ls s h = rf d 196 28 ls (.int 5 :: s) h := rf_pure (i := .iconst (5)) (len := 1) (okD_ok (by decide +kernel)) rfl
theorem e196_28 : rf d 196 28 ls (.int y :: .int x :: s) h = rf d 196 29 ls (.int (x + y) :: s) h := rf_pure (i := .iadd) (len := 1) (okD_ok (by decide +kernel)) rfl
theorem e196_29 : rf d 196 29 ls (.int x :: .ref 265 :: s) (SH n, I, L, R, nc, ns, nx) = rf d 196 32 ls s (SH n, ip_up I 265 4 x, L, R, nc, ns, nx) := g_pI (idx := 148) (by decide +kernel) ow196 f_8_148 rfl (by decide +kernel) rfl (by decide)
theorem e196_32 : rf d 196 32 [some (.ref a), l1, l2, l3] s h = rf d 196 33 [some (.ref a), l1, l2, l3] (.ref a :: s) h := rf_pure (i := .aload_n 0) (len := 1) (okD_ok (by decide +kernel)) rfl
theorem e196_33 (hcat : ip_cat s ≤ 8) : rf (d + 1) 196 33 ls (.ref 265 :: s) (SH n, I, L, R, nc, ns, nx) = rf_k (d + 1) 196 33 ls s (cf d 198 [.ref 265] (SH n, I, L, R, nc, ns, nx)) := g_cv (idx := 225) (t := 8) [] (by decide +kernel) ow196 ms_8_225 mt_8_225 cy198_8 rfl rfl mL198 rfl rfl (by decide) hcat
theorem e196_36 : rf d 196 36 ls (.int x :: s) h = if x = 0 then rf d 196 47 ls s h else rf d 196 39 ls s h := g_if (c := .eq) (off := 11) _ (by decide +kernel) rfl cmp_d
theorem e196_39 : rf d 196 39 [some (.ref a), l1, l2, l3] s h = rf d 196 40 [some (.ref a), l1, l2, l3] (.ref a :: s) h := rf_pure (i := .aload_n 0) (len := 1) (okD_ok (by decide +kernel)) rfl
theorem e196_40 (hcat : ip_cat s ≤ 8) : rf (d + 1) 196 40 ls (.ref 265 :: s) (SH n, I, L, R, nc, ns, nx) = rf_k (d + 1) 196 40 ls s (cf d 200 [.ref 265] (SH n, I, L, R, nc, ns, nx)) := g_cv (idx := 228) (t := 8) [] (by decide +kernel) ow196 ms_8_228 mt_8_228 cy200_8 rfl rfl mL200 rfl rfl (by decide) hcat
theorem e196_43 : rf d 196 43 ls s h = rf d 196 44 ls (.int (-1) :: s) h := rf_pure (i := .iconst (-1)) (len := 1) (okD_ok (by decide +kernel)) rfl
theorem e196_44 : rf d 196 44 ls (.int y :: .int x :: s) h = if x = y then rf d 196 51 ls s h else rf d 196 47 ls s h := g_ic (c := .eq) (off := 7) _ (by decide +kernel) rfl cmp_d
theorem e196_47 : rf d 196 47 [some (.ref a), l1, l2, l3] s h = rf d 196 48 [some (.ref a), l1, l2, l3] (.ref a :: s) h := rf_pure (i := .aload_n 0) (len := 1) (okD_ok (by decide +kernel)) rfl
theorem e196_48 (hcat : ip_cat s ≤ 8) : rf (d + 1) 196 48 ls (.ref 265 :: s) (SH n, I, L, R, nc, ns, nx) = rf_k (d + 1) 196 48 ls s (cf d 197 [.ref 265] (SH n, I, L, R, nc, ns, nx)) := g_cv (idx := 174) (t := 8) [] (by decide +kernel) ow196 ms_8_174 mt_8_174 cy197_8 rfl rfl mL197 rfl rfl (by decide) hcat
theorem e196_51 : rf d 196 51 [some (.ref a), l1, l2, l3] s h = rf d 196 52 [some (.ref a), l1, l2, l3] (.ref a :: s) h := rf_pure (i := .aload_n 0) (len := 1) (okD_ok (by decide +kernel)) rfl
theorem e196_52 : rf d 196 52 ls (.ref 265 :: s) (SH n, I, L, R, nc, ns, nx) = rf d 196 55 ls (.int (I 265 5) :: s) (SH n, I, L, R, nc, ns, nx) := g_I (idx := 13) (by decide +kernel) ow196 f_8_13 rfl rfl (by decide)
theorem e196_55 : rf d 196 55 ls s h = rf d 196 56 ls (.int (-1) :: s) h := rf_pure (i := .iconst (-1)) (len := 1) (okD_ok (by decide +kernel)) rfl
theorem e196_56 : rf d 196 56 ls (.int y :: .int x :: s) h = if x = y then rf d 196 60 ls s h else rf d 196 59 ls s h := g_ic (c := .eq) (off := 4) _ (by decide +kernel) rfl cmp_d
theorem e196_59 : rf d 196 59 ls [] h = some (.inl none, h) := g_rv (by decide +kernel) rt196
theorem e196_60 : rf d 196 60 [some (.ref a), l1, l2, l3] s h = rf d 196 61 [some (.ref a), l1, l2, l3] (.ref a :: s) h := rf_pure (i := .aload_n 0) (len := 1) (okD_ok (by decide +kernel)) rfl
theorem e196_61 : rf d 196 61 ls (.ref 265 :: s) (SH n, I, L, R, nc, ns, nx) = rf d 196 64 ls (.int (I 265 6) :: s) (SH n, I, L, R, nc, ns, nx) := g_I (idx := 218) (by decide +kernel) ow196 f_8_218 rfl rfl (by decide)
theorem e196_64 (hn : ip_nl l0 = true) : rf d 196 64 [l0, l1, l2, l3] (.int x :: s) h = rf d 196 65 [l0, some (.int x), l2, l3] s h := g_sti (i := .istore_n 1) (len := 1) (q := 0) (p := 1) (by decide +kernel) rfl rfl hn
theorem e196_65 : rf d 196 65 [some (.ref a), l1, l2, l3] s h = rf d 196 66 [some (.ref a), l1, l2, l3] (.ref a :: s) h := rf_pure (i := .aload_n 0) (len := 1) (okD_ok (by decide +kernel)) rfl
theorem e196_66 (hR : LYR R) : rf d 196 66 ls (.ref 265 :: s) (SH n, I, L, R, nc, ns, nx) = rf d 196 69 ls (.ref 267 :: s) (SH n, I, L, R, nc, ns, nx) := g_R (idx := 17) (by decide +kernel) ow196 f_8_17 rfl rfl (by decide) (ly_265_10 hR)
theorem e196_69 : rf d 196 69 [l0, some (.int x), l2, l3] s h = rf d 196 70 [l0, some (.int x), l2, l3] (.int x :: s) h := rf_pure (i := .iload_n 1) (len := 1) (okD_ok (by decide +kernel)) rfl
theorem e196_70 : rf d 196 70 [some (.ref a), l1, l2, l3] s h = rf d 196 71 [some (.ref a), l1, l2, l3] (.ref a :: s) h := rf_pure (i := .aload_n 0) (len := 1) (okD_ok (by decide +kernel)) rfl
theorem e196_71 (hcat : ip_cat s ≤ 8) : rf (d + 1) 196 71 ls (.ref 265 :: s) (SH n, I, L, R, nc, ns, nx) = rf_k (d + 1) 196 71 ls s (cf d 201 [.ref 265] (SH n, I, L, R, nc, ns, nx)) := g_cv (idx := 214) (t := 8) [] (by decide +kernel) ow196 ms_8_214 mt_8_214 cy201_8 rfl rfl mL201 rfl rfl (by decide) hcat
theorem e196_74 (q : la n a j) : rf d 196 74 ls (.long u :: .int j :: .ref a :: s) (SH n, I, L, R, nc, ns, nx) = rf d 196 75 ls s (SH n, I, ip_up L a j.toNatClampNeg u, R, nc, ns, nx) := g_las (by decide +kernel) q
theorem e196_75 : rf d 196 75 [some (.ref a), l1, l2, l3] s h = rf d 196 76 [some (.ref a), l1, l2, l3] (.ref a :: s) h := rf_pure (i := .aload_n 0) (len := 1) (okD_ok (by decide +kernel)) rfl
theorem e196_76 : rf d 196 76 ls (.int x :: s) h = rf d 196 77 ls (.int x :: .int x :: s) h := rf_pure (i := .dup) (len := 1) (okD_ok (by decide +kernel)) rfl
theorem e196_76r : rf d 196 76 ls (.ref a :: s) h = rf d 196 77 ls (.ref a :: .ref a :: s) h := rf_pure (i := .dup) (len := 1) (okD_ok (by decide +kernel)) rfl
theorem e196_77 : rf d 196 77 ls (.ref 265 :: s) (SH n, I, L, R, nc, ns, nx) = rf d 196 80 ls (.int (I 265 4) :: s) (SH n, I, L, R, nc, ns, nx) := g_I (idx := 148) (by decide +kernel) ow196 f_8_148 rfl rfl (by decide)
theorem e196_80 : rf d 196 80 [some (.ref a), l1, l2, l3] s h = rf d 196 81 [some (.ref a), l1, l2, l3] (.ref a :: s) h := rf_pure (i := .aload_n 0) (len := 1) (okD_ok (by decide +kernel)) rfl
theorem e196_81 (hcat : ip_cat s ≤ 8) : rf (d + 1) 196 81 ls (.ref 265 :: s) (SH n, I, L, R, nc, ns, nx) = rf_k (d + 1) 196 81 ls s (cf d 195 [.ref 265] (SH n, I, L, R, nc, ns, nx)) := g_cv (idx := 158) (t := 8) [] (by decide +kernel) ow196 ms_8_158 mt_8_158 cy195_8 rfl rfl mL195 rfl rfl (by decide) hcat
theorem e196_84 : rf d 196 84 ls (.int y :: .int x :: s) h = rf d 196 85 ls (.int (x + y) :: s) h := rf_pure (i := .iadd) (len := 1) (okD_ok (by decide +kernel)) rfl
theorem e196_85 : rf d 196 85 ls (.int x :: .ref 265 :: s) (SH n, I, L, R, nc, ns, nx) = rf d 196 88 ls s (SH n, ip_up I 265 4 x, L, R, nc, ns, nx) := g_pI (idx := 148) (by decide +kernel) ow196 f_8_148 rfl (by decide +kernel) rfl (by decide)
theorem e196_88 : rf d 196 88 [some (.ref a), l1, l2, l3] s h = rf d 196 89 [some (.ref a), l1, l2, l3] (.ref a :: s) h := rf_pure (i := .aload_n 0) (len := 1) (okD_ok (by decide +kernel)) rfl
theorem e196_89 (hR : LYR R) : rf d 196 89 ls (.ref 265 :: s) (SH n, I, L, R, nc, ns, nx) = rf d 196 92 ls (.ref 268 :: s) (SH n, I, L, R, nc, ns, nx) := g_R (idx := 21) (by decide +kernel) ow196 f_8_21 rfl rfl (by decide) (ly_265_11 hR)
theorem e196_92 : rf d 196 92 [l0, some (.int x), l2, l3] s h = rf d 196 93 [l0, some (.int x), l2, l3] (.int x :: s) h := rf_pure (i := .iload_n 1) (len := 1) (okD_ok (by decide +kernel)) rfl
theorem e196_93 : rf d 196 93 [some (.ref a), l1, l2, l3] s h = rf d 196 94 [some (.ref a), l1, l2, l3] (.ref a :: s) h := rf_pure (i := .aload_n 0) (len := 1) (okD_ok (by decide +kernel)) rfl
theorem e196_94 : rf d 196 94 ls s h = rf d 196 96 ls (.ref (tx 29) :: s) h := g_ks (idx := 179) (i := .ldc 179) (len := 2) (by decide +kernel) rfl rfl ow196 kn_8_179 ks_8_179
theorem e196_96 (hcat : ip_cat s ≤ 8) : rf (d + 1) 196 96 ls (.ref a0 :: .ref 265 :: s) (SH n, I, L, R, nc, ns, nx) = rf_k (d + 1) 196 96 ls s (cf d 202 [.ref 265, .ref a0] (SH n, I, L, R, nc, ns, nx)) := g_cv (idx := 231) (t := 8) [.ref a0] (by decide +kernel) ow196 ms_8_231 mt_8_231 cy202_8 rfl rfl mL202 rfl rfl (by decide) hcat
theorem e196_99 : rf d 196 99 ls (.int x :: s) h = if x = 0 then rf d 196 106 ls s h else rf d 196 102 ls s h := g_if (c := .eq) (off := 7) _ (by decide +kernel) rfl cmp_d
theorem e196_102 : rf d 196 102 ls s h = rf d 196 103 ls (.int 0 :: s) h := rf_pure (i := .iconst (0)) (len := 1) (okD_ok (by decide +kernel)) rfl
theorem e196_103 : rf d 196 103 ls s h = rf d 196 120 ls s h := rf_goto ⟨okD_ok (i := .goto (17)) (len := 3) (by decide +kernel), rfl⟩
theorem e196_106 : rf d 196 106 [some (.ref a), l1, l2, l3] s h = rf d 196 107 [some (.ref a), l1, l2, l3] (.ref a :: s) h := rf_pure (i := .aload_n 0) (len := 1) (okD_ok (by decide +kernel)) rfl
theorem e196_107 : rf d 196 107 ls s h = rf d 196 109 ls (.ref (tx 30) :: s) h := g_ks (idx := 181) (i := .ldc 181) (len := 2) (by decide +kernel) rfl rfl ow196 kn_8_181 ks_8_181
theorem e196_109 (hcat : ip_cat s ≤ 8) : rf (d + 1) 196 109 ls (.ref a0 :: .ref 265 :: s) (SH n, I, L, R, nc, ns, nx) = rf_k (d + 1) 196 109 ls s (cf d 202 [.ref 265, .ref a0] (SH n, I, L, R, nc, ns, nx)) := g_cv (idx := 231) (t := 8) [.ref a0] (by decide +kernel) ow196 ms_8_231 mt_8_231 cy202_8 rfl rfl mL202 rfl rfl (by decide) hcat
theorem e196_112 : rf d 196 112 ls (.int x :: s) h = if x = 0 then rf d 196 119 ls s h else rf d 196 115 ls s h := g_if (c := .eq) (off := 7) _ (by decide +kernel) rfl cmp_d
theorem e196_115 : rf d 196 115 ls s h = rf d 196 116 ls (.int 1 :: s) h := rf_pure (i := .iconst (1)) (len := 1) (okD_ok (by decide +kernel)) rfl
theorem e196_116 : rf d 196 116 ls s h = rf d 196 120 ls s h := rf_goto ⟨okD_ok (i := .goto (4)) (len := 3) (by decide +kernel), rfl⟩
theorem e196_119 : rf d 196 119 ls s h = rf d 196 120 ls (.int 2 :: s) h := rf_pure (i := .iconst (2)) (len := 1) (okD_ok (by decide +kernel)) rfl
theorem e196_120 (q : ia n a j) : rf d 196 120 ls (.int x :: .int j :: .ref a :: s) (SH n, I, L, R, nc, ns, nx) = rf d 196 121 ls s (SH n, ip_up I a j.toNatClampNeg x, L, R, nc, ns, nx) := g_ias (by decide +kernel) q
theorem e196_121 : rf d 196 121 [some (.ref a), l1, l2, l3] s h = rf d 196 122 [some (.ref a), l1, l2, l3] (.ref a :: s) h := rf_pure (i := .aload_n 0) (len := 1) (okD_ok (by decide +kernel)) rfl
theorem e196_122 (hR : LYR R) : rf d 196 122 ls (.ref 265 :: s) (SH n, I, L, R, nc, ns, nx) = rf d 196 125 ls (.ref 268 :: s) (SH n, I, L, R, nc, ns, nx) := g_R (idx := 21) (by decide +kernel) ow196 f_8_21 rfl rfl (by decide) (ly_265_11 hR)
theorem e196_125 : rf d 196 125 [l0, some (.int x), l2, l3] s h = rf d 196 126 [l0, some (.int x), l2, l3] (.int x :: s) h := rf_pure (i := .iload_n 1) (len := 1) (okD_ok (by decide +kernel)) rfl
theorem e196_126 (q : ia n a j) : rf d 196 126 ls (.int j :: .ref a :: s) (SH n, I, L, R, nc, ns, nx) = rf d 196 127 ls (.int (I a j.toNatClampNeg) :: s) (SH n, I, L, R, nc, ns, nx) := g_ial (by decide +kernel) q
theorem e196_127 : rf d 196 127 ls s h = rf d 196 128 ls (.int 2 :: s) h := rf_pure (i := .iconst (2)) (len := 1) (okD_ok (by decide +kernel)) rfl
theorem e196_128 : rf d 196 128 ls (.int y :: .int x :: s) h = if ¬ x = y then rf d 196 144 ls s h else rf d 196 131 ls s h := g_ic (c := .ne) (off := 16) _ (by decide +kernel) rfl cmp_d
theorem e196_131 : rf d 196 131 [some (.ref a), l1, l2, l3] s h = rf d 196 132 [some (.ref a), l1, l2, l3] (.ref a :: s) h := rf_pure (i := .aload_n 0) (len := 1) (okD_ok (by decide +kernel)) rfl
theorem e196_132 : rf d 196 132 ls s h = rf d 196 134 ls (.ref (tx 31) :: s) h := g_ks (idx := 183) (i := .ldc 183) (len := 2) (by decide +kernel) rfl rfl ow196 kn_8_183 ks_8_183
theorem e196_134 (hcat : ip_cat s ≤ 8) : rf (d + 1) 196 134 ls (.ref a0 :: .ref 265 :: s) (SH n, I, L, R, nc, ns, nx) = rf_k (d + 1) 196 134 ls s (cf d 202 [.ref 265, .ref a0] (SH n, I, L, R, nc, ns, nx)) := g_cv (idx := 231) (t := 8) [.ref a0] (by decide +kernel) ow196 ms_8_231 mt_8_231 cy202_8 rfl rfl mL202 rfl rfl (by decide) hcat
theorem e196_137 : rf d 196 137 ls (.int x :: s) h = if ¬ x = 0 then rf d 196 144 ls s h else rf d 196 140 ls s h := g_if (c := .ne) (off := 7) _ (by decide +kernel) rfl cmp_d
theorem e196_140 : rf d 196 140 [some (.ref a), l1, l2, l3] s h = rf d 196 141 [some (.ref a), l1, l2, l3] (.ref a :: s) h := rf_pure (i := .aload_n 0) (len := 1) (okD_ok (by decide +kernel)) rfl
theorem e196_141 (hcat : ip_cat s ≤ 8) : rf (d + 1) 196 141 ls (.ref 265 :: s) (SH n, I, L, R, nc, ns, nx) = rf_k (d + 1) 196 141 ls s (cf d 197 [.ref 265] (SH n, I, L, R, nc, ns, nx)) := g_cv (idx := 174) (t := 8) [] (by decide +kernel) ow196 ms_8_174 mt_8_174 cy197_8 rfl rfl mL197 rfl rfl (by decide) hcat
theorem e196_144 : rf d 196 144 [some (.ref a), l1, l2, l3] s h = rf d 196 145 [some (.ref a), l1, l2, l3] (.ref a :: s) h := rf_pure (i := .aload_n 0) (len := 1) (okD_ok (by decide +kernel)) rfl
theorem e196_145 (hR : LYR R) : rf d 196 145 ls (.ref 265 :: s) (SH n, I, L, R, nc, ns, nx) = rf d 196 148 ls (.ref 269 :: s) (SH n, I, L, R, nc, ns, nx) := g_R (idx := 24) (by decide +kernel) ow196 f_8_24 rfl rfl (by decide) (ly_265_12 hR)
theorem e196_148 : rf d 196 148 [l0, some (.int x), l2, l3] s h = rf d 196 149 [l0, some (.int x), l2, l3] (.int x :: s) h := rf_pure (i := .iload_n 1) (len := 1) (okD_ok (by decide +kernel)) rfl
theorem e196_149 : rf d 196 149 ls s h = rf d 196 150 ls (.int 0 :: s) h := rf_pure (i := .iconst (0)) (len := 1) (okD_ok (by decide +kernel)) rfl
theorem e196_150 (q : ia n a j) : rf d 196 150 ls (.int x :: .int j :: .ref a :: s) (SH n, I, L, R, nc, ns, nx) = rf d 196 151 ls s (SH n, ip_up I a j.toNatClampNeg x, L, R, nc, ns, nx) := g_ias (by decide +kernel) q
theorem e196_151 : rf d 196 151 [some (.ref a), l1, l2, l3] s h = rf d 196 152 [some (.ref a), l1, l2, l3] (.ref a :: s) h := rf_pure (i := .aload_n 0) (len := 1) (okD_ok (by decide +kernel)) rfl
theorem e196_152 : rf d 196 152 ls s h = rf d 196 154 ls (.ref (tx 32) :: s) h := g_ks (idx := 185) (i := .ldc 185) (len := 2) (by decide +kernel) rfl rfl ow196 kn_8_185 ks_8_185
theorem e196_154 (hcat : ip_cat s ≤ 8) : rf (d + 1) 196 154 ls (.ref a0 :: .ref 265 :: s) (SH n, I, L, R, nc, ns, nx) = rf_k (d + 1) 196 154 ls s (cf d 202 [.ref 265, .ref a0] (SH n, I, L, R, nc, ns, nx)) := g_cv (idx := 231) (t := 8) [.ref a0] (by decide +kernel) ow196 ms_8_231 mt_8_231 cy202_8 rfl rfl mL202 rfl rfl (by decide) hcat
theorem e196_157 (hn : ip_nl l1 = true) : rf d 196 157 [l0, l1, l2, l3] (.int x :: s) h = rf d 196 158 [l0, l1, some (.int x), l3] s h := g_sti (i := .istore_n 2) (len := 1) (q := 1) (p := 1) (by decide +kernel) rfl rfl hn
theorem e196_158 : rf d 196 158 [l0, l1, some (.int x), l3] s h = rf d 196 159 [l0, l1, some (.int x), l3] (.int x :: s) h := rf_pure (i := .iload_n 2) (len := 1) (okD_ok (by decide +kernel)) rfl
theorem e196_159 : rf d 196 159 ls (.int x :: s) h = if x = 0 then rf d 196 274 ls s h else rf d 196 162 ls s h := g_if (c := .eq) (off := 115) _ (by decide +kernel) rfl cmp_d
theorem e196_162 : rf d 196 162 [some (.ref a), l1, l2, l3] s h = rf d 196 163 [some (.ref a), l1, l2, l3] (.ref a :: s) h := rf_pure (i := .aload_n 0) (len := 1) (okD_ok (by decide +kernel)) rfl
theorem e196_163 : rf d 196 163 ls (.ref 265 :: s) (SH n, I, L, R, nc, ns, nx) = rf d 196 166 ls (.int (I 265 5) :: s) (SH n, I, L, R, nc, ns, nx) := g_I (idx := 13) (by decide +kernel) ow196 f_8_13 rfl rfl (by decide)
theorem e196_166 : rf d 196 166 ls s h = rf d 196 167 ls (.int (-1) :: s) h := rf_pure (i := .iconst (-1)) (len := 1) (okD_ok (by decide +kernel)) rfl
theorem e196_167 : rf d 196 167 ls (.int y :: .int x :: s) h = if ¬ x = y then rf d 196 274 ls s h else rf d 196 170 ls s h := g_ic (c := .ne) (off := 107) _ (by decide +kernel) rfl cmp_d
theorem e196_170 : rf d 196 170 [some (.ref a), l1, l2, l3] s h = rf d 196 171 [some (.ref a), l1, l2, l3] (.ref a :: s) h := rf_pure (i := .aload_n 0) (len := 1) (okD_ok (by decide +kernel)) rfl
theorem e196_171 (hcat : ip_cat s ≤ 8) : rf (d + 1) 196 171 ls (.ref 265 :: s) (SH n, I, L, R, nc, ns, nx) = rf_k (d + 1) 196 171 ls s (cf d 198 [.ref 265] (SH n, I, L, R, nc, ns, nx)) := g_cv (idx := 225) (t := 8) [] (by decide +kernel) ow196 ms_8_225 mt_8_225 cy198_8 rfl rfl mL198 rfl rfl (by decide) hcat
theorem e196_174 : rf d 196 174 ls (.int x :: s) h = if x = 0 then rf d 196 184 ls s h else rf d 196 177 ls s h := g_if (c := .eq) (off := 10) _ (by decide +kernel) rfl cmp_d
theorem e196_177 : rf d 196 177 [some (.ref a), l1, l2, l3] s h = rf d 196 178 [some (.ref a), l1, l2, l3] (.ref a :: s) h := rf_pure (i := .aload_n 0) (len := 1) (okD_ok (by decide +kernel)) rfl
theorem e196_178 (hcat : ip_cat s ≤ 8) : rf (d + 1) 196 178 ls (.ref 265 :: s) (SH n, I, L, R, nc, ns, nx) = rf_k (d + 1) 196 178 ls s (cf d 200 [.ref 265] (SH n, I, L, R, nc, ns, nx)) := g_cv (idx := 228) (t := 8) [] (by decide +kernel) ow196 ms_8_228 mt_8_228 cy200_8 rfl rfl mL200 rfl rfl (by decide) hcat
theorem e196_181 : rf d 196 181 ls s h = rf d 196 185 ls s h := rf_goto ⟨okD_ok (i := .goto (4)) (len := 3) (by decide +kernel), rfl⟩
theorem e196_184 : rf d 196 184 ls s h = rf d 196 185 ls (.int (-1) :: s) h := rf_pure (i := .iconst (-1)) (len := 1) (okD_ok (by decide +kernel)) rfl
theorem e196_185 (hn : ip_nl l2 = true) : rf d 196 185 [l0, l1, l2, l3] (.int x :: s) h = rf d 196 186 [l0, l1, l2, some (.int x)] s h := g_sti (i := .istore_n 3) (len := 1) (q := 2) (p := 1) (by decide +kernel) rfl rfl hn
theorem e196_186 : rf d 196 186 [l0, l1, l2, some (.int x)] s h = rf d 196 187 [l0, l1, l2, some (.int x)] (.int x :: s) h := rf_pure (i := .iload_n 3) (len := 1) (okD_ok (by decide +kernel)) rfl
theorem e196_187 : rf d 196 187 ls s h = rf d 196 188 ls (.int (-1) :: s) h := rf_pure (i := .iconst (-1)) (len := 1) (okD_ok (by decide +kernel)) rfl
theorem e196_188 : rf d 196 188 ls (.int y :: .int x :: s) h = if x = y then rf d 196 204 ls s h else rf d 196 191 ls s h := g_ic (c := .eq) (off := 16) _ (by decide +kernel) rfl cmp_d
theorem e196_191 : rf d 196 191 [some (.ref a), l1, l2, l3] s h = rf d 196 192 [some (.ref a), l1, l2, l3] (.ref a :: s) h := rf_pure (i := .aload_n 0) (len := 1) (okD_ok (by decide +kernel)) rfl
theorem e196_192 (hR : LYR R) : rf d 196 192 ls (.ref 265 :: s) (SH n, I, L, R, nc, ns, nx) = rf d 196 195 ls (.ref 269 :: s) (SH n, I, L, R, nc, ns, nx) := g_R (idx := 24) (by decide +kernel) ow196 f_8_24 rfl rfl (by decide) (ly_265_12 hR)
theorem e196_195 : rf d 196 195 [l0, some (.int x), l2, l3] s h = rf d 196 196 [l0, some (.int x), l2, l3] (.int x :: s) h := rf_pure (i := .iload_n 1) (len := 1) (okD_ok (by decide +kernel)) rfl
theorem e196_196 (q : ia n a j) : rf d 196 196 ls (.int j :: .ref a :: s) (SH n, I, L, R, nc, ns, nx) = rf d 196 197 ls (.int (I a j.toNatClampNeg) :: s) (SH n, I, L, R, nc, ns, nx) := g_ial (by decide +kernel) q
theorem e196_197 : rf d 196 197 [l0, l1, l2, some (.int x)] s h = rf d 196 198 [l0, l1, l2, some (.int x)] (.int x :: s) h := rf_pure (i := .iload_n 3) (len := 1) (okD_ok (by decide +kernel)) rfl
theorem e196_198 (hcat : ip_cat s ≤ 8) : rf (d + 1) 196 198 ls (.int x1 :: .int x0 :: s) h = rf_k (d + 1) 196 198 ls s (cf d 186 [.int x0, .int x1] h) := g_cs (idx := 234) [.int x1, .int x0] (by decide +kernel) ow196 ms_8_234 mt_8_234 (by decide) rfl mL186 rfl hcat
theorem e196_201 : rf d 196 201 ls (.int x :: s) h = if x = 0 then rf d 196 208 ls s h else rf d 196 204 ls s h := g_if (c := .eq) (off := 7) _ (by decide +kernel) rfl cmp_d
theorem e196_204 : rf d 196 204 [some (.ref a), l1, l2, l3] s h = rf d 196 205 [some (.ref a), l1, l2, l3] (.ref a :: s) h := rf_pure (i := .aload_n 0) (len := 1) (okD_ok (by decide +kernel)) rfl
theorem e196_205 (hcat : ip_cat s ≤ 8) : rf (d + 1) 196 205 ls (.ref 265 :: s) (SH n, I, L, R, nc, ns, nx) = rf_k (d + 1) 196 205 ls s (cf d 197 [.ref 265] (SH n, I, L, R, nc, ns, nx)) := g_cv (idx := 174) (t := 8) [] (by decide +kernel) ow196 ms_8_174 mt_8_174 cy197_8 rfl rfl mL197 rfl rfl (by decide) hcat
theorem e196_208 : rf d 196 208 [some (.ref a), l1, l2, l3] s h = rf d 196 209 [some (.ref a), l1, l2, l3] (.ref a :: s) h := rf_pure (i := .aload_n 0) (len := 1) (okD_ok (by decide +kernel)) rfl
theorem e196_209 : rf d 196 209 ls (.ref 265 :: s) (SH n, I, L, R, nc, ns, nx) = rf d 196 212 ls (.int (I 265 5) :: s) (SH n, I, L, R, nc, ns, nx) := g_I (idx := 13) (by decide +kernel) ow196 f_8_13 rfl rfl (by decide)
theorem e196_212 : rf d 196 212 ls s h = rf d 196 213 ls (.int (-1) :: s) h := rf_pure (i := .iconst (-1)) (len := 1) (okD_ok (by decide +kernel)) rfl
theorem e196_213 : rf d 196 213 ls (.int y :: .int x :: s) h = if x = y then rf d 196 217 ls s h else rf d 196 216 ls s h := g_ic (c := .eq) (off := 4) _ (by decide +kernel) rfl cmp_d
theorem e196_216 : rf d 196 216 ls [] h = some (.inl none, h) := g_rv (by decide +kernel) rt196
theorem e196_217 : rf d 196 217 [some (.ref a), l1, l2, l3] s h = rf d 196 218 [some (.ref a), l1, l2, l3] (.ref a :: s) h := rf_pure (i := .aload_n 0) (len := 1) (okD_ok (by decide +kernel)) rfl
theorem e196_218 (hR : LYR R) : rf d 196 218 ls (.ref 265 :: s) (SH n, I, L, R, nc, ns, nx) = rf d 196 221 ls (.ref 269 :: s) (SH n, I, L, R, nc, ns, nx) := g_R (idx := 24) (by decide +kernel) ow196 f_8_24 rfl rfl (by decide) (ly_265_12 hR)
theorem e196_221 : rf d 196 221 [l0, some (.int x), l2, l3] s h = rf d 196 222 [l0, some (.int x), l2, l3] (.int x :: s) h := rf_pure (i := .iload_n 1) (len := 1) (okD_ok (by decide +kernel)) rfl
theorem e196_222 : rf d 196 222 ls (.int j :: .ref a :: s) h = rf d 196 223 ls (.int j :: .ref a :: .int j :: .ref a :: s) h := rf_pure (i := .dup2) (len := 1) (okD_ok (by decide +kernel)) rfl
theorem e196_223 (q : ia n a j) : rf d 196 223 ls (.int j :: .ref a :: s) (SH n, I, L, R, nc, ns, nx) = rf d 196 224 ls (.int (I a j.toNatClampNeg) :: s) (SH n, I, L, R, nc, ns, nx) := g_ial (by decide +kernel) q
theorem e196_224 : rf d 196 224 ls s h = rf d 196 225 ls (.int 1 :: s) h := rf_pure (i := .iconst (1)) (len := 1) (okD_ok (by decide +kernel)) rfl
theorem e196_225 : rf d 196 225 [l0, l1, l2, some (.int x)] s h = rf d 196 226 [l0, l1, l2, some (.int x)] (.int x :: s) h := rf_pure (i := .iload_n 3) (len := 1) (okD_ok (by decide +kernel)) rfl
theorem e196_226 : rf d 196 226 ls (.int y :: .int x :: s) h = rf d 196 227 ls (.int (x <<< (y &&& 31)) :: s) h := rf_pure (i := .ishl) (len := 1) (okD_ok (by decide +kernel)) rfl
theorem e196_227 : rf d 196 227 ls (.int y :: .int x :: s) h = rf d 196 228 ls (.int (x ||| y) :: s) h := rf_pure (i := .ior) (len := 1) (okD_ok (by decide +kernel)) rfl
theorem e196_228 (q : ia n a j) : rf d 196 228 ls (.int x :: .int j :: .ref a :: s) (SH n, I, L, R, nc, ns, nx) = rf d 196 229 ls s (SH n, ip_up I a j.toNatClampNeg x, L, R, nc, ns, nx) := g_ias (by decide +kernel) q
theorem e196_229 : rf d 196 229 [some (.ref a), l1, l2, l3] s h = rf d 196 230 [some (.ref a), l1, l2, l3] (.ref a :: s) h := rf_pure (i := .aload_n 0) (len := 1) (okD_ok (by decide +kernel)) rfl
theorem e196_230 : rf d 196 230 ls (.int x :: s) h = rf d 196 231 ls (.int x :: .int x :: s) h := rf_pure (i := .dup) (len := 1) (okD_ok (by decide +kernel)) rfl
theorem e196_230r : rf d 196 230 ls (.ref a :: s) h = rf d 196 231 ls (.ref a :: .ref a :: s) h := rf_pure (i := .dup) (len := 1) (okD_ok (by decide +kernel)) rfl
theorem e196_231 : rf d 196 231 ls (.ref 265 :: s) (SH n, I, L, R, nc, ns, nx) = rf d 196 234 ls (.int (I 265 4) :: s) (SH n, I, L, R, nc, ns, nx) := g_I (idx := 148) (by decide +kernel) ow196 f_8_148 rfl rfl (by decide)
theorem e196_234 : rf d 196 234 [some (.ref a), l1, l2, l3] s h = rf d 196 235 [some (.ref a), l1, l2, l3] (.ref a :: s) h := rf_pure (i := .aload_n 0) (len := 1) (okD_ok (by decide +kernel)) rfl
theorem e196_235 (hcat : ip_cat s ≤ 8) : rf (d + 1) 196 235 ls (.ref 265 :: s) (SH n, I, L, R, nc, ns, nx) = rf_k (d + 1) 196 235 ls s (cf d 195 [.ref 265] (SH n, I, L, R, nc, ns, nx)) := g_cv (idx := 158) (t := 8) [] (by decide +kernel) ow196 ms_8_158 mt_8_158 cy195_8 rfl rfl mL195 rfl rfl (by decide) hcat
theorem e196_238 : rf d 196 238 ls (.int y :: .int x :: s) h = rf d 196 239 ls (.int (x + y) :: s) h := rf_pure (i := .iadd) (len := 1) (okD_ok (by decide +kernel)) rfl
theorem e196_239 : rf d 196 239 ls (.int x :: .ref 265 :: s) (SH n, I, L, R, nc, ns, nx) = rf d 196 242 ls s (SH n, ip_up I 265 4 x, L, R, nc, ns, nx) := g_pI (idx := 148) (by decide +kernel) ow196 f_8_148 rfl (by decide +kernel) rfl (by decide)
theorem e196_242 : rf d 196 242 [some (.ref a), l1, l2, l3] s h = rf d 196 243 [some (.ref a), l1, l2, l3] (.ref a :: s) h := rf_pure (i := .aload_n 0) (len := 1) (okD_ok (by decide +kernel)) rfl
theorem e196_243 (hcat : ip_cat s ≤ 8) : rf (d + 1) 196 243 ls (.ref 265 :: s) (SH n, I, L, R, nc, ns, nx) = rf_k (d + 1) 196 243 ls s (cf d 193 [.ref 265] (SH n, I, L, R, nc, ns, nx)) := g_cv (idx := 154) (t := 8) [] (by decide +kernel) ow196 ms_8_154 mt_8_154 cy193_8 rfl rfl mL193 rfl rfl (by decide) hcat
theorem e196_246 : rf d 196 246 ls s h = rf d 196 248 ls (.int 44 :: s) h := rf_pure (i := .bipush (44)) (len := 2) (okD_ok (by decide +kernel)) rfl
theorem e196_248 : rf d 196 248 ls (.int y :: .int x :: s) h = if ¬ x = y then rf d 196 255 ls s h else rf d 196 251 ls s h := g_ic (c := .ne) (off := 7) _ (by decide +kernel) rfl cmp_d
theorem e196_251 : rf d 196 251 ls s h = rf d 196 252 ls (.int 1 :: s) h := rf_pure (i := .iconst (1)) (len := 1) (okD_ok (by decide +kernel)) rfl
theorem e196_252 : rf d 196 252 ls s h = rf d 196 256 ls s h := rf_goto ⟨okD_ok (i := .goto (4)) (len := 3) (by decide +kernel), rfl⟩
theorem e196_255 : rf d 196 255 ls s h = rf d 196 256 ls (.int 0 :: s) h := rf_pure (i := .iconst (0)) (len := 1) (okD_ok (by decide +kernel)) rfl
theorem e196_256 (hn : ip_nl l1 = true) : rf d 196 256 [l0, l1, l2, l3] (.int x :: s) h = rf d 196 257 [l0, l1, some (.int x), l3] s h := g_sti (i := .istore_n 2) (len := 1) (q := 1) (p := 1) (by decide +kernel) rfl rfl hn
theorem e196_257 : rf d 196 257 [l0, l1, some (.int x), l3] s h = rf d 196 258 [l0, l1, some (.int x), l3] (.int x :: s) h := rf_pure (i := .iload_n 2) (len := 1) (okD_ok (by decide +kernel)) rfl
theorem e196_258 : rf d 196 258 ls (.int x :: s) h = if x = 0 then rf d 196 271 ls s h else rf d 196 261 ls s h := g_if (c := .eq) (off := 13) _ (by decide +kernel) rfl cmp_d
theorem e196_261 : rf d 196 261 [some (.ref a), l1, l2, l3] s h = rf d 196 262 [some (.ref a), l1, l2, l3] (.ref a :: s) h := rf_pure (i := .aload_n 0) (len := 1) (okD_ok (by decide +kernel)) rfl
theorem e196_262 : rf d 196 262 ls (.int x :: s) h = rf d 196 263 ls (.int x :: .int x :: s) h := rf_pure (i := .dup) (len := 1) (okD_ok (by decide +kernel)) rfl
theorem e196_262r : rf d 196 262 ls (.ref a :: s) h = rf d 196 263 ls (.ref a :: .ref a :: s) h := rf_pure (i := .dup) (len := 1) (okD_ok (by decide +kernel)) rfl
theorem e196_263 : rf d 196 263 ls (.ref 265 :: s) (SH n, I, L, R, nc, ns, nx) = rf d 196 266 ls (.int (I 265 4) :: s) (SH n, I, L, R, nc, ns, nx) := g_I (idx := 148) (by decide +kernel) ow196 f_8_148 rfl rfl (by decide)
theorem e196_266 : rf d 196 266 ls s h = rf d 196 267 ls (.int 1 :: s) h := rf_pure (i := .iconst (1)) (len := 1) (okD_ok (by decide +kernel)) rfl
theorem e196_267 : rf d 196 267 ls (.int y :: .int x :: s) h = rf d 196 268 ls (.int (x + y) :: s) h := rf_pure (i := .iadd) (len := 1) (okD_ok (by decide +kernel)) rfl
theorem e196_268 : rf d 196 268 ls (.int x :: .ref 265 :: s) (SH n, I, L, R, nc, ns, nx) = rf d 196 271 ls s (SH n, ip_up I 265 4 x, L, R, nc, ns, nx) := g_pI (idx := 148) (by decide +kernel) ow196 f_8_148 rfl (by decide +kernel) rfl (by decide)
theorem e196_271 : rf d 196 271 ls s h = rf d 196 158 ls s h := rf_goto ⟨okD_ok (i := .goto (-113)) (len := 3) (by decide +kernel), rfl⟩
theorem e196_274 : rf d 196 274 [some (.ref a), l1, l2, l3] s h = rf d 196 275 [some (.ref a), l1, l2, l3] (.ref a :: s) h := rf_pure (i := .aload_n 0) (len := 1) (okD_ok (by decide +kernel)) rfl
theorem e196_275 : rf d 196 275 ls (.int x :: s) h = rf d 196 276 ls (.int x :: .int x :: s) h := rf_pure (i := .dup) (len := 1) (okD_ok (by decide +kernel)) rfl
theorem e196_275r : rf d 196 275 ls (.ref a :: s) h = rf d 196 276 ls (.ref a :: .ref a :: s) h := rf_pure (i := .dup) (len := 1) (okD_ok (by decide +kernel)) rfl
theorem e196_276 : rf d 196 276 ls (.ref 265 :: s) (SH n, I, L, R, nc, ns, nx) = rf d 196 279 ls (.int (I 265 6) :: s) (SH n, I, L, R, nc, ns, nx) := g_I (idx := 218) (by decide +kernel) ow196 f_8_218 rfl rfl (by decide)
theorem e196_279 : rf d 196 279 ls s h = rf d 196 280 ls (.int 1 :: s) h := rf_pure (i := .iconst (1)) (len := 1) (okD_ok (by decide +kernel)) rfl
theorem e196_280 : rf d 196 280 ls (.int y :: .int x :: s) h = rf d 196 281 ls (.int (x + y) :: s) h := rf_pure (i := .iadd) (len := 1) (okD_ok (by decide +kernel)) rfl
theorem e196_281 : rf d 196 281 ls (.int x :: .ref 265 :: s) (SH n, I, L, R, nc, ns, nx) = rf d 196 284 ls s (SH n, ip_up I 265 6 x, L, R, nc, ns, nx) := g_pI (idx := 218) (by decide +kernel) ow196 f_8_218 rfl (by decide +kernel) rfl (by decide)
theorem e196_284 : rf d 196 284 ls [] h = some (.inl none, h) := g_rv (by decide +kernel) rt196
end S05
