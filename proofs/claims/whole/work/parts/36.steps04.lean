/-! STEPS, 4 (printed by wip/whole/gen_steps.py) -/
section S04
variable {n d a b t : Nat} {l0 l1 l2 l3 l4 l5 l6 l7 l8 l9 l10 l11 l12 l13 : Option Value} {ls : List (Option Value)} {s : List Value} {h : ip_H} {I : Nat → Nat → Int32} {L : Nat → Nat → Int64} {R : Nat → Nat → Option Nat} {nc ns : Nat} {nx : Bool} {x y j z sp dp x0 x1 x2 x3 x4 x5 : Int32} {u v u0 u1 u2 u3 : Int64} {a0 a1 a2 a3 a4 : Nat}
theorem en145 : cf d 145 [.ref a0, .int x1, .int x2, .ref a3] h = rf d 145 0 [some (.ref a0), some (.int x1), some (.int x2), some (.ref a3), none] [] h := rfl
theorem e145_0 : rf d 145 0 [l0, l1, l2, some (.ref a), l4] s h = rf d 145 1 [l0, l1, l2, some (.ref a), l4] (.ref a :: s) h := rf_pure (i := .aload_n 3) (len := 1) (okD_ok (by decide +kernel)) rfl
theorem e145_1 : rf d 145 1 ls s h = rf d 145 2 ls (.int 0 :: s) h := rf_pure (i := .iconst (0)) (len := 1) (okD_ok (by decide +kernel)) rfl
theorem e145_2 : rf d 145 2 [some (.ref a), l1, l2, l3, l4] s h = rf d 145 3 [some (.ref a), l1, l2, l3, l4] (.ref a :: s) h := rf_pure (i := .aload_n 0) (len := 1) (okD_ok (by decide +kernel)) rfl
theorem e145_3 : rf d 145 3 [l0, some (.int x), l2, l3, l4] s h = rf d 145 4 [l0, some (.int x), l2, l3, l4] (.int x :: s) h := rf_pure (i := .iload_n 1) (len := 1) (okD_ok (by decide +kernel)) rfl
theorem e145_4 : rf d 145 4 [l0, l1, some (.int x), l3, l4] s h = rf d 145 5 [l0, l1, some (.int x), l3, l4] (.int x :: s) h := rf_pure (i := .iload_n 2) (len := 1) (okD_ok (by decide +kernel)) rfl
theorem e145_5 (hcat : ip_cat s ≤ 8) : rf (d + 1) 145 5 ls (.int x1 :: .int x0 :: .ref 2 :: s) (SH n, I, L, R, nc, ns, nx) = rf_k (d + 1) 145 5 ls s (cf d 146 [.ref 2, .int x0, .int x1] (SH n, I, L, R, nc, ns, nx)) := g_cv (idx := 75) (t := 7) [.int x1, .int x0] (by decide +kernel) ow145 ms_9_75 mt_9_75 cy146_7 rfl rfl mL146 rfl rfl (by decide) hcat
theorem e145_8 : rf d 145 8 ls (.int x :: s) h = rf d 145 9 ls (.long x.toInt64 :: s) h := rf_pure (i := .i2l) (len := 1) (okD_ok (by decide +kernel)) rfl
theorem e145_9 (q : la n a j) : rf d 145 9 ls (.long u :: .int j :: .ref a :: s) (SH n, I, L, R, nc, ns, nx) = rf d 145 10 ls s (SH n, I, ip_up L a j.toNatClampNeg u, R, nc, ns, nx) := g_las (by decide +kernel) q
theorem e145_10 : rf d 145 10 ls s h = rf d 145 25 ls s h := rf_goto ⟨okD_ok (i := .goto (15)) (len := 3) (by decide +kernel), rfl⟩
theorem e145_25 : rf d 145 25 ls s h = rf d 145 26 ls (.int 0 :: s) h := rf_pure (i := .iconst (0)) (len := 1) (okD_ok (by decide +kernel)) rfl
theorem e145_26 : rf d 145 26 ls [.int x] h = some (.inl (some (.int x)), h) := g_ri (by decide +kernel) rt145
theorem en146 : cf d 146 [.ref a, .int x0, .int x1] h = rf d 146 0 [some (.ref a), some (.int x0), some (.int x1)] [] h := rfl
theorem e146_0 : rf d 146 0 [l0, some (.int x), l2] s h = rf d 146 1 [l0, some (.int x), l2] (.int x :: s) h := rf_pure (i := .iload_n 1) (len := 1) (okD_ok (by decide +kernel)) rfl
theorem e146_1 (hcat : ip_cat s ≤ 8) : rf (d + 1) 146 1 ls (.int x0 :: s) h = rf_k (d + 1) 146 1 ls s (cf d 129 [.int x0] h) := g_cs (idx := 224) [.int x0] (by decide +kernel) ow146 ms_7_224 mt_7_224 (by decide) rfl mL129 rfl hcat
theorem e146_4 : rf d 146 4 [some (.ref a), l1, l2] s h = rf d 146 5 [some (.ref a), l1, l2] (.ref a :: s) h := rf_pure (i := .aload_n 0) (len := 1) (okD_ok (by decide +kernel)) rfl
theorem e146_5 (hR : LYR R) : rf d 146 5 ls (.ref 2 :: s) (SH n, I, L, R, nc, ns, nx) = rf d 146 8 ls (.ref 23 :: s) (SH n, I, L, R, nc, ns, nx) := g_R (idx := 36) (by decide +kernel) ow146 f_7_36 rfl rfl (by decide) (ly_2_5 hR)
theorem e146_8 : rf d 146 8 [some (.ref a), l1, l2] s h = rf d 146 9 [some (.ref a), l1, l2] (.ref a :: s) h := rf_pure (i := .aload_n 0) (len := 1) (okD_ok (by decide +kernel)) rfl
theorem e146_9 : rf d 146 9 ls (.ref 2 :: s) (SH n, I, L, R, nc, ns, nx) = rf d 146 12 ls (.int (I 2 7) :: s) (SH n, I, L, R, nc, ns, nx) := g_I (idx := 43) (by decide +kernel) ow146 f_7_43 rfl rfl (by decide)
theorem e146_12 (hR : LYR R) (q : inb j 40) : rf d 146 12 ls (.int j :: .ref 23 :: s) (SH n, I, L, R, nc, ns, nx) = rf d 146 13 ls (.ref (nd j) :: s) (SH n, I, L, R, nc, ns, nx) := g_aal (by decide +kernel) hR q
theorem e146_13 (ha : isN a) : rf d 146 13 ls (.ref a :: s) (SH n, I, L, R, nc, ns, nx) = rf d 146 16 ls (.int (I a 0) :: s) (SH n, I, L, R, nc, ns, nx) := g_I (idx := 138) (by decide +kernel) ow146 f_7_138 rfl (kdN0 ha) (geN ha)
theorem e146_16 : rf d 146 16 ls (.int x :: s) h = if x = 0 then rf d 146 30 ls s h else rf d 146 19 ls s h := g_if (c := .eq) (off := 14) _ (by decide +kernel) rfl cmp_d
theorem e146_19 : rf d 146 19 ls [] h = some (.inr "java/lang/IllegalStateException", ip_hx h) := g_thr (idx := 147) (by decide +kernel) ow146 (by decide +kernel) (by decide +kernel)
theorem e146_30 : rf d 146 30 [some (.ref a), l1, l2] s h = rf d 146 31 [some (.ref a), l1, l2] (.ref a :: s) h := rf_pure (i := .aload_n 0) (len := 1) (okD_ok (by decide +kernel)) rfl
theorem e146_31 (hcat : ip_cat s ≤ 8) : rf (d + 1) 146 31 ls (.ref 2 :: s) (SH n, I, L, R, nc, ns, nx) = rf_k (d + 1) 146 31 ls s (cf d 99 [.ref 2] (SH n, I, L, R, nc, ns, nx)) := g_cv (idx := 185) (t := 7) [] (by decide +kernel) ow146 ms_7_185 mt_7_185 cy99_7 rfl rfl mL99 rfl rfl (by decide) hcat
theorem e146_34 : rf d 146 34 [l0, l1, some (.int x)] s h = rf d 146 35 [l0, l1, some (.int x)] (.int x :: s) h := rf_pure (i := .iload_n 2) (len := 1) (okD_ok (by decide +kernel)) rfl
theorem e146_35 : rf d 146 35 ls (.int x :: s) h = if x < 0 then rf d 146 43 ls s h else rf d 146 38 ls s h := g_if (c := .lt) (off := 8) _ (by decide +kernel) rfl cmp_d
theorem e146_38 : rf d 146 38 [l0, l1, some (.int x)] s h = rf d 146 39 [l0, l1, some (.int x)] (.int x :: s) h := rf_pure (i := .iload_n 2) (len := 1) (okD_ok (by decide +kernel)) rfl
theorem e146_39 : rf d 146 39 ls s h = rf d 146 40 ls (.int 2 :: s) h := rf_pure (i := .iconst (2)) (len := 1) (okD_ok (by decide +kernel)) rfl
theorem e146_40 : rf d 146 40 ls (.int y :: .int x :: s) h = if x ≤ y then rf d 146 53 ls s h else rf d 146 43 ls s h := g_ic (c := .le) (off := 13) _ (by decide +kernel) rfl cmp_d
theorem e146_43 : rf d 146 43 ls [] h = some (.inr "java/util/NoSuchElementException", ip_hx h) := g_thr (idx := 112) (by decide +kernel) ow146 (by decide +kernel) (by decide +kernel)
theorem e146_53 : rf d 146 53 [some (.ref a), l1, l2] s h = rf d 146 54 [some (.ref a), l1, l2] (.ref a :: s) h := rf_pure (i := .aload_n 0) (len := 1) (okD_ok (by decide +kernel)) rfl
theorem e146_54 (hR : LYR R) : rf d 146 54 ls (.ref 2 :: s) (SH n, I, L, R, nc, ns, nx) = rf d 146 57 ls (.ref 40 :: s) (SH n, I, L, R, nc, ns, nx) := g_R (idx := 56) (by decide +kernel) ow146 f_7_56 rfl rfl (by decide) (ly_2_9 hR)
theorem e146_57 : rf d 146 57 [some (.ref a), l1, l2] s h = rf d 146 58 [some (.ref a), l1, l2] (.ref a :: s) h := rf_pure (i := .aload_n 0) (len := 1) (okD_ok (by decide +kernel)) rfl
theorem e146_58 (hR : LYR R) : rf d 146 58 ls (.ref 2 :: s) (SH n, I, L, R, nc, ns, nx) = rf d 146 61 ls (.ref 24 :: s) (SH n, I, L, R, nc, ns, nx) := g_R (idx := 49) (by decide +kernel) ow146 f_7_49 rfl rfl (by decide) (ly_2_8 hR)
theorem e146_61 : rf d 146 61 [l0, some (.int x), l2] s h = rf d 146 62 [l0, some (.int x), l2] (.int x :: s) h := rf_pure (i := .iload_n 1) (len := 1) (okD_ok (by decide +kernel)) rfl
theorem e146_62 (hcat : ip_cat s ≤ 8) : rf (d + 1) 146 62 ls (.int x1 :: .ref a0 :: .ref 40 :: s) (SH n, I, L, R, nc, ns, nx) = rf_k (d + 1) 146 62 ls s (cf d 147 [.ref 40, .ref a0, .int x1] (SH n, I, L, R, nc, ns, nx)) := g_cv (idx := 261) (t := 3) [.int x1, .ref a0] (by decide +kernel) ow146 ms_7_261 mt_7_261 cy147_3 rfl rfl mL147 rfl rfl (by decide) hcat
theorem e146_65 : rf d 146 65 [l0, l1, some (.int x)] s h = rf d 146 66 [l0, l1, some (.int x)] (.int x :: s) h := rf_pure (i := .iload_n 2) (len := 1) (okD_ok (by decide +kernel)) rfl
theorem e146_66 : rf d 146 66 ls (.int x :: s) h = if ¬ x = 0 then rf d 146 79 ls s h else rf d 146 69 ls s h := g_if (c := .ne) (off := 13) _ (by decide +kernel) rfl cmp_d
theorem e146_69 : rf d 146 69 [some (.ref a), l1, l2] s h = rf d 146 70 [some (.ref a), l1, l2] (.ref a :: s) h := rf_pure (i := .aload_n 0) (len := 1) (okD_ok (by decide +kernel)) rfl
theorem e146_70 (hR : LYR R) : rf d 146 70 ls (.ref 2 :: s) (SH n, I, L, R, nc, ns, nx) = rf d 146 73 ls (.ref 40 :: s) (SH n, I, L, R, nc, ns, nx) := g_R (idx := 56) (by decide +kernel) ow146 f_7_56 rfl rfl (by decide) (ly_2_9 hR)
theorem e146_73 : rf d 146 73 ls (.ref 40 :: s) (SH n, I, L, R, nc, ns, nx) = rf d 146 76 ls (.int (I 40 3) :: s) (SH n, I, L, R, nc, ns, nx) := g_I (idx := 255) (by decide +kernel) ow146 f_7_255 rfl rfl (by decide)
theorem e146_76 : rf d 146 76 ls s h = rf d 146 101 ls s h := rf_goto ⟨okD_ok (i := .goto (25)) (len := 3) (by decide +kernel), rfl⟩
theorem e146_79 : rf d 146 79 [l0, l1, some (.int x)] s h = rf d 146 80 [l0, l1, some (.int x)] (.int x :: s) h := rf_pure (i := .iload_n 2) (len := 1) (okD_ok (by decide +kernel)) rfl
theorem e146_80 : rf d 146 80 ls s h = rf d 146 81 ls (.int 1 :: s) h := rf_pure (i := .iconst (1)) (len := 1) (okD_ok (by decide +kernel)) rfl
theorem e146_81 : rf d 146 81 ls (.int y :: .int x :: s) h = if ¬ x = y then rf d 146 94 ls s h else rf d 146 84 ls s h := g_ic (c := .ne) (off := 13) _ (by decide +kernel) rfl cmp_d
theorem e146_84 : rf d 146 84 [some (.ref a), l1, l2] s h = rf d 146 85 [some (.ref a), l1, l2] (.ref a :: s) h := rf_pure (i := .aload_n 0) (len := 1) (okD_ok (by decide +kernel)) rfl
theorem e146_85 (hR : LYR R) : rf d 146 85 ls (.ref 2 :: s) (SH n, I, L, R, nc, ns, nx) = rf d 146 88 ls (.ref 40 :: s) (SH n, I, L, R, nc, ns, nx) := g_R (idx := 56) (by decide +kernel) ow146 f_7_56 rfl rfl (by decide) (ly_2_9 hR)
theorem e146_88 : rf d 146 88 ls (.ref 40 :: s) (SH n, I, L, R, nc, ns, nx) = rf d 146 91 ls (.int (I 40 4) :: s) (SH n, I, L, R, nc, ns, nx) := g_I (idx := 252) (by decide +kernel) ow146 f_7_252 rfl rfl (by decide)
theorem e146_91 : rf d 146 91 ls s h = rf d 146 101 ls s h := rf_goto ⟨okD_ok (i := .goto (10)) (len := 3) (by decide +kernel), rfl⟩
theorem e146_94 : rf d 146 94 [some (.ref a), l1, l2] s h = rf d 146 95 [some (.ref a), l1, l2] (.ref a :: s) h := rf_pure (i := .aload_n 0) (len := 1) (okD_ok (by decide +kernel)) rfl
theorem e146_95 (hR : LYR R) : rf d 146 95 ls (.ref 2 :: s) (SH n, I, L, R, nc, ns, nx) = rf d 146 98 ls (.ref 40 :: s) (SH n, I, L, R, nc, ns, nx) := g_R (idx := 56) (by decide +kernel) ow146 f_7_56 rfl rfl (by decide) (ly_2_9 hR)
theorem e146_98 : rf d 146 98 ls (.ref 40 :: s) (SH n, I, L, R, nc, ns, nx) = rf d 146 101 ls (.int (I 40 5) :: s) (SH n, I, L, R, nc, ns, nx) := g_I (idx := 256) (by decide +kernel) ow146 f_7_256 rfl rfl (by decide)
theorem e146_101 : rf d 146 101 ls [.int x] h = some (.inl (some (.int x)), h) := g_ri (by decide +kernel) rt146
theorem en147 : cf d 147 [.ref a, .ref a0, .int x1] h = rf d 147 0 [some (.ref a), some (.ref a0), some (.int x1), none, none, none, none, none] [] h := rfl
theorem e147_0 : rf d 147 0 ls s h = rf d 147 1 ls (.int 0 :: s) h := rf_pure (i := .iconst (0)) (len := 1) (okD_ok (by decide +kernel)) rfl
theorem e147_1 (hn : ip_nl l2 = true) : rf d 147 1 [l0, l1, l2, l3, l4, l5, l6, l7] (.int x :: s) h = rf d 147 2 [l0, l1, l2, some (.int x), l4, l5, l6, l7] s h := g_sti (i := .istore_n 3) (len := 1) (q := 2) (p := 1) (by decide +kernel) rfl rfl hn
theorem e147_2 : rf d 147 2 [l0, l1, l2, some (.int x), l4, l5, l6, l7] s h = rf d 147 3 [l0, l1, l2, some (.int x), l4, l5, l6, l7] (.int x :: s) h := rf_pure (i := .iload_n 3) (len := 1) (okD_ok (by decide +kernel)) rfl
theorem e147_3 : rf d 147 3 ls s h = rf d 147 6 ls (.int 256 :: s) h := rf_pure (i := .sipush (256)) (len := 3) (okD_ok (by decide +kernel)) rfl
theorem e147_6 : rf d 147 6 ls (.int y :: .int x :: s) h = if y ≤ x then rf d 147 22 ls s h else rf d 147 9 ls s h := g_ic (c := .ge) (off := 16) _ (by decide +kernel) rfl cmp_d
theorem e147_9 : rf d 147 9 [some (.ref a), l1, l2, l3, l4, l5, l6, l7] s h = rf d 147 10 [some (.ref a), l1, l2, l3, l4, l5, l6, l7] (.ref a :: s) h := rf_pure (i := .aload_n 0) (len := 1) (okD_ok (by decide +kernel)) rfl
theorem e147_10 (hR : LYR R) : rf d 147 10 ls (.ref 40 :: s) (SH n, I, L, R, nc, ns, nx) = rf d 147 13 ls (.ref 62 :: s) (SH n, I, L, R, nc, ns, nx) := g_R (idx := 25) (by decide +kernel) ow147 f_3_25 rfl rfl (by decide) (ly_40_2 hR)
theorem e147_13 : rf d 147 13 [l0, l1, l2, some (.int x), l4, l5, l6, l7] s h = rf d 147 14 [l0, l1, l2, some (.int x), l4, l5, l6, l7] (.int x :: s) h := rf_pure (i := .iload_n 3) (len := 1) (okD_ok (by decide +kernel)) rfl
theorem e147_14 : rf d 147 14 ls s h = rf d 147 15 ls (.int (-1) :: s) h := rf_pure (i := .iconst (-1)) (len := 1) (okD_ok (by decide +kernel)) rfl
theorem e147_15 (q : ia n a j) : rf d 147 15 ls (.int x :: .int j :: .ref a :: s) (SH n, I, L, R, nc, ns, nx) = rf d 147 16 ls s (SH n, ip_up I a j.toNatClampNeg x, L, R, nc, ns, nx) := g_ias (by decide +kernel) q
theorem e147_16 (hn : ip_nl l2 = true) : rf d 147 16 [l0, l1, l2, some (.int x), l4, l5, l6, l7] s h = rf d 147 19 [l0, l1, l2, some (.int (x + 1)), l4, l5, l6, l7] s h := g_inc (q := 2) (z := 1) (w := 1) (x := x) (by decide) (by decide +kernel) rfl rfl hn
theorem e147_19 : rf d 147 19 ls s h = rf d 147 2 ls s h := rf_goto ⟨okD_ok (i := .goto (-17)) (len := 3) (by decide +kernel), rfl⟩
theorem e147_22 : rf d 147 22 [some (.ref a), l1, l2, l3, l4, l5, l6, l7] s h = rf d 147 23 [some (.ref a), l1, l2, l3, l4, l5, l6, l7] (.ref a :: s) h := rf_pure (i := .aload_n 0) (len := 1) (okD_ok (by decide +kernel)) rfl
theorem e147_23 : rf d 147 23 ls s h = rf d 147 24 ls (.int 0 :: s) h := rf_pure (i := .iconst (0)) (len := 1) (okD_ok (by decide +kernel)) rfl
theorem e147_24 : rf d 147 24 ls (.int x :: .ref 40 :: s) (SH n, I, L, R, nc, ns, nx) = rf d 147 27 ls s (SH n, ip_up I 40 3 x, L, R, nc, ns, nx) := g_pI (idx := 75) (by decide +kernel) ow147 f_3_75 rfl (by decide +kernel) rfl (by decide)
theorem e147_27 : rf d 147 27 [some (.ref a), l1, l2, l3, l4, l5, l6, l7] s h = rf d 147 28 [some (.ref a), l1, l2, l3, l4, l5, l6, l7] (.ref a :: s) h := rf_pure (i := .aload_n 0) (len := 1) (okD_ok (by decide +kernel)) rfl
theorem e147_28 : rf d 147 28 ls s h = rf d 147 29 ls (.int 0 :: s) h := rf_pure (i := .iconst (0)) (len := 1) (okD_ok (by decide +kernel)) rfl
theorem e147_29 : rf d 147 29 ls (.int x :: .ref 40 :: s) (SH n, I, L, R, nc, ns, nx) = rf d 147 32 ls s (SH n, ip_up I 40 4 x, L, R, nc, ns, nx) := g_pI (idx := 62) (by decide +kernel) ow147 f_3_62 rfl (by decide +kernel) rfl (by decide)
theorem e147_32 : rf d 147 32 [some (.ref a), l1, l2, l3, l4, l5, l6, l7] s h = rf d 147 33 [some (.ref a), l1, l2, l3, l4, l5, l6, l7] (.ref a :: s) h := rf_pure (i := .aload_n 0) (len := 1) (okD_ok (by decide +kernel)) rfl
theorem e147_33 : rf d 147 33 ls s h = rf d 147 34 ls (.int 0 :: s) h := rf_pure (i := .iconst (0)) (len := 1) (okD_ok (by decide +kernel)) rfl
theorem e147_34 : rf d 147 34 ls (.int x :: .ref 40 :: s) (SH n, I, L, R, nc, ns, nx) = rf d 147 37 ls s (SH n, ip_up I 40 5 x, L, R, nc, ns, nx) := g_pI (idx := 72) (by decide +kernel) ow147 f_3_72 rfl (by decide +kernel) rfl (by decide)
theorem e147_37 : rf d 147 37 [some (.ref a), l1, l2, l3, l4, l5, l6, l7] s h = rf d 147 38 [some (.ref a), l1, l2, l3, l4, l5, l6, l7] (.ref a :: s) h := rf_pure (i := .aload_n 0) (len := 1) (okD_ok (by decide +kernel)) rfl
theorem e147_38 : rf d 147 38 ls s h = rf d 147 39 ls (.int 0 :: s) h := rf_pure (i := .iconst (0)) (len := 1) (okD_ok (by decide +kernel)) rfl
theorem e147_39 : rf d 147 39 ls (.int x :: .ref 40 :: s) (SH n, I, L, R, nc, ns, nx) = rf d 147 42 ls s (SH n, ip_up I 40 6 x, L, R, nc, ns, nx) := g_pI (idx := 33) (by decide +kernel) ow147 f_3_33 rfl (by decide +kernel) rfl (by decide)
theorem e147_42 : rf d 147 42 [l0, some (.ref a), l2, l3, l4, l5, l6, l7] s h = rf d 147 43 [l0, some (.ref a), l2, l3, l4, l5, l6, l7] (.ref a :: s) h := rf_pure (i := .aload_n 1) (len := 1) (okD_ok (by decide +kernel)) rfl
theorem e147_43 (hb : isC b) (hcat : ip_cat s ≤ 8) : rf (d + 1) 147 43 ls (.ref b :: s) (SH n, I, L, R, nc, ns, nx) = rf_k (d + 1) 147 43 ls s (cf d 148 [.ref b] (SH n, I, L, R, nc, ns, nx)) := g_cv (idx := 88) (t := 0) [] (by decide +kernel) ow147 ms_3_88 mt_3_88 cy148_0 rfl rfl mL148 rfl (kdC0 hb) (geC hb) hcat
theorem e147_46 (hn : ip_nl l2 = true) : rf d 147 46 [l0, l1, l2, l3, l4, l5, l6, l7] (.int x :: s) h = rf d 147 47 [l0, l1, l2, some (.int x), l4, l5, l6, l7] s h := g_sti (i := .istore_n 3) (len := 1) (q := 2) (p := 1) (by decide +kernel) rfl rfl hn
theorem e147_47 : rf d 147 47 ls s h = rf d 147 48 ls (.int 0 :: s) h := rf_pure (i := .iconst (0)) (len := 1) (okD_ok (by decide +kernel)) rfl
theorem e147_48 (hn : ip_nl l3 = true) : rf d 147 48 [l0, l1, l2, l3, l4, l5, l6, l7] (.int x :: s) h = rf d 147 50 [l0, l1, l2, l3, some (.int x), l5, l6, l7] s h := g_sti (i := .istore 4) (len := 2) (q := 3) (p := 2) (by decide +kernel) rfl rfl hn
theorem e147_50 : rf d 147 50 ls s h = rf d 147 51 ls (.int 0 :: s) h := rf_pure (i := .iconst (0)) (len := 1) (okD_ok (by decide +kernel)) rfl
theorem e147_51 (hn : ip_nl l4 = true) : rf d 147 51 [l0, l1, l2, l3, l4, l5, l6, l7] (.int x :: s) h = rf d 147 53 [l0, l1, l2, l3, l4, some (.int x), l6, l7] s h := g_sti (i := .istore 5) (len := 2) (q := 4) (p := 2) (by decide +kernel) rfl rfl hn
theorem e147_53 : rf d 147 53 [l0, l1, l2, l3, l4, some (.int x), l6, l7] s h = rf d 147 55 [l0, l1, l2, l3, l4, some (.int x), l6, l7] (.int x :: s) h := rf_pure (i := .iload 5) (len := 2) (okD_ok (by decide +kernel)) rfl
theorem e147_55 : rf d 147 55 ls s h = rf d 147 56 ls (.int 1 :: s) h := rf_pure (i := .iconst (1)) (len := 1) (okD_ok (by decide +kernel)) rfl
theorem e147_56 : rf d 147 56 [l0, l1, l2, some (.int x), l4, l5, l6, l7] s h = rf d 147 57 [l0, l1, l2, some (.int x), l4, l5, l6, l7] (.int x :: s) h := rf_pure (i := .iload_n 3) (len := 1) (okD_ok (by decide +kernel)) rfl
theorem e147_57 (hcat : ip_cat s ≤ 8) : rf (d + 1) 147 57 ls (.int x0 :: s) h = rf_k (d + 1) 147 57 ls s (cf d 19 [.int x0] h) := g_cs (idx := 37) [.int x0] (by decide +kernel) ow147 ms_3_37 mt_3_37 (by decide) rfl mL19 rfl hcat
theorem e147_60 : rf d 147 60 ls (.int y :: .int x :: s) h = rf d 147 61 ls (.int (x <<< (y &&& 31)) :: s) h := rf_pure (i := .ishl) (len := 1) (okD_ok (by decide +kernel)) rfl
theorem e147_61 : rf d 147 61 ls (.int y :: .int x :: s) h = if y ≤ x then rf d 147 160 ls s h else rf d 147 64 ls s h := g_ic (c := .ge) (off := 99) _ (by decide +kernel) rfl cmp_d
theorem e147_64 : rf d 147 64 [l0, some (.ref a), l2, l3, l4, l5, l6, l7] s h = rf d 147 65 [l0, some (.ref a), l2, l3, l4, l5, l6, l7] (.ref a :: s) h := rf_pure (i := .aload_n 1) (len := 1) (okD_ok (by decide +kernel)) rfl
theorem e147_65 (hb : isC b) (hcat : ip_cat s ≤ 8) : rf (d + 1) 147 65 ls (.ref b :: s) (SH n, I, L, R, nc, ns, nx) = rf_k (d + 1) 147 65 ls s (cf d 143 [.ref b] (SH n, I, L, R, nc, ns, nx)) := g_cv (idx := 43) (t := 0) [] (by decide +kernel) ow147 ms_3_43 mt_3_43 cy143_0 rfl rfl mL143 rfl (kdC0 hb) (geC hb) hcat
theorem e147_68 : rf d 147 68 [l0, l1, l2, l3, some (.int x), l5, l6, l7] s h = rf d 147 70 [l0, l1, l2, l3, some (.int x), l5, l6, l7] (.int x :: s) h := rf_pure (i := .iload 4) (len := 2) (okD_ok (by decide +kernel)) rfl
theorem e147_70 (hb : isT b) (hcat : ip_cat s ≤ 8) : rf (d + 1) 147 70 ls (.int x0 :: .ref b :: s) (SH n, I, L, R, nc, ns, nx) = rf_k (d + 1) 147 70 ls s (cf d 131 [.ref b, .int x0] (SH n, I, L, R, nc, ns, nx)) := g_cv (idx := 47) (t := 6) [.int x0] (by decide +kernel) ow147 ms_3_47 mt_3_47 cy131_6 rfl rfl mL131 rfl (kdT0 hb) (geT hb) hcat
theorem e147_73 : rf d 147 73 [l0, l1, some (.int x), l3, l4, l5, l6, l7] s h = rf d 147 74 [l0, l1, some (.int x), l3, l4, l5, l6, l7] (.int x :: s) h := rf_pure (i := .iload_n 2) (len := 1) (okD_ok (by decide +kernel)) rfl
theorem e147_74 : rf d 147 74 ls (.int y :: .int x :: s) h = if y < x then rf d 147 81 ls s h else rf d 147 77 ls s h := g_ic (c := .gt) (off := 7) _ (by decide +kernel) rfl cmp_d
theorem e147_77 : rf d 147 77 ls s h = rf d 147 78 ls (.int 1 :: s) h := rf_pure (i := .iconst (1)) (len := 1) (okD_ok (by decide +kernel)) rfl
theorem e147_78 : rf d 147 78 ls s h = rf d 147 82 ls s h := rf_goto ⟨okD_ok (i := .goto (4)) (len := 3) (by decide +kernel), rfl⟩
theorem e147_81 : rf d 147 81 ls s h = rf d 147 82 ls (.int 0 :: s) h := rf_pure (i := .iconst (0)) (len := 1) (okD_ok (by decide +kernel)) rfl
theorem e147_82 (hn : ip_nl l5 = true) : rf d 147 82 [l0, l1, l2, l3, l4, l5, l6, l7] (.int x :: s) h = rf d 147 84 [l0, l1, l2, l3, l4, l5, some (.int x), l7] s h := g_sti (i := .istore 6) (len := 2) (q := 5) (p := 2) (by decide +kernel) rfl rfl hn
theorem e147_84 : rf d 147 84 [l0, l1, l2, l3, l4, l5, some (.int x), l7] s h = rf d 147 86 [l0, l1, l2, l3, l4, l5, some (.int x), l7] (.int x :: s) h := rf_pure (i := .iload 6) (len := 2) (okD_ok (by decide +kernel)) rfl
theorem e147_86 : rf d 147 86 ls (.int x :: s) h = if x = 0 then rf d 147 104 ls s h else rf d 147 89 ls s h := g_if (c := .eq) (off := 18) _ (by decide +kernel) rfl cmp_d
theorem e147_89 : rf d 147 89 [l0, some (.ref a), l2, l3, l4, l5, l6, l7] s h = rf d 147 90 [l0, some (.ref a), l2, l3, l4, l5, l6, l7] (.ref a :: s) h := rf_pure (i := .aload_n 1) (len := 1) (okD_ok (by decide +kernel)) rfl
theorem e147_90 : rf d 147 90 [l0, l1, l2, l3, some (.int x), l5, l6, l7] s h = rf d 147 92 [l0, l1, l2, l3, some (.int x), l5, l6, l7] (.int x :: s) h := rf_pure (i := .iload 4) (len := 2) (okD_ok (by decide +kernel)) rfl
theorem e147_92 : rf d 147 92 [l0, some (.ref a), l2, l3, l4, l5, l6, l7] s h = rf d 147 93 [l0, some (.ref a), l2, l3, l4, l5, l6, l7] (.ref a :: s) h := rf_pure (i := .aload_n 1) (len := 1) (okD_ok (by decide +kernel)) rfl
theorem e147_93 (hb : isC b) (hcat : ip_cat s ≤ 8) : rf (d + 1) 147 93 ls (.ref b :: s) (SH n, I, L, R, nc, ns, nx) = rf_k (d + 1) 147 93 ls s (cf d 109 [.ref b] (SH n, I, L, R, nc, ns, nx)) := g_cv (idx := 29) (t := 0) [] (by decide +kernel) ow147 ms_3_29 mt_3_29 cy109_0 rfl rfl mL109 rfl (kdC0 hb) (geC hb) hcat
theorem e147_96 : rf d 147 96 ls (.int y :: .int x :: s) h = rf d 147 97 ls (.int (x &&& y) :: s) h := rf_pure (i := .iand) (len := 1) (okD_ok (by decide +kernel)) rfl
theorem e147_97 : rf d 147 97 ls s h = rf d 147 98 ls (.int 0 :: s) h := rf_pure (i := .iconst (0)) (len := 1) (okD_ok (by decide +kernel)) rfl
theorem e147_98 (hb : isC b) (hcat : ip_cat s ≤ 8) : rf (d + 1) 147 98 ls (.int x1 :: .int x0 :: .ref b :: s) (SH n, I, L, R, nc, ns, nx) = rf_k (d + 1) 147 98 ls s (cf d 111 [.ref b, .int x0, .int x1] (SH n, I, L, R, nc, ns, nx)) := g_cv (idx := 85) (t := 0) [.int x1, .int x0] (by decide +kernel) ow147 ms_3_85 mt_3_85 cy111_0 rfl rfl mL111 rfl (kdC0 hb) (geC hb) hcat
theorem e147_101 : rf d 147 101 ls s h = rf d 147 105 ls s h := rf_goto ⟨okD_ok (i := .goto (4)) (len := 3) (by decide +kernel), rfl⟩
theorem e147_104 : rf d 147 104 ls s h = rf d 147 105 ls (.int (-1) :: s) h := rf_pure (i := .iconst (-1)) (len := 1) (okD_ok (by decide +kernel)) rfl
theorem e147_105 (hn : ip_nl l6 = true) : rf d 147 105 [l0, l1, l2, l3, l4, l5, l6, l7] (.int x :: s) h = rf d 147 107 [l0, l1, l2, l3, l4, l5, l6, some (.int x)] s h := g_sti (i := .istore 7) (len := 2) (q := 6) (p := 2) (by decide +kernel) rfl rfl hn
theorem e147_107 : rf d 147 107 [l0, l1, l2, l3, l4, l5, l6, some (.int x)] s h = rf d 147 109 [l0, l1, l2, l3, l4, l5, l6, some (.int x)] (.int x :: s) h := rf_pure (i := .iload 7) (len := 2) (okD_ok (by decide +kernel)) rfl
theorem e147_109 : rf d 147 109 ls (.int x :: s) h = if ¬ x = 0 then rf d 147 123 ls s h else rf d 147 112 ls s h := g_if (c := .ne) (off := 14) _ (by decide +kernel) rfl cmp_d
theorem e147_112 : rf d 147 112 [some (.ref a), l1, l2, l3, l4, l5, l6, l7] s h = rf d 147 113 [some (.ref a), l1, l2, l3, l4, l5, l6, l7] (.ref a :: s) h := rf_pure (i := .aload_n 0) (len := 1) (okD_ok (by decide +kernel)) rfl
theorem e147_113 : rf d 147 113 [l0, some (.ref a), l2, l3, l4, l5, l6, l7] s h = rf d 147 114 [l0, some (.ref a), l2, l3, l4, l5, l6, l7] (.ref a :: s) h := rf_pure (i := .aload_n 1) (len := 1) (okD_ok (by decide +kernel)) rfl
theorem e147_114 : rf d 147 114 [l0, l1, l2, l3, some (.int x), l5, l6, l7] s h = rf d 147 116 [l0, l1, l2, l3, some (.int x), l5, l6, l7] (.int x :: s) h := rf_pure (i := .iload 4) (len := 2) (okD_ok (by decide +kernel)) rfl
theorem e147_116 : rf d 147 116 [l0, l1, some (.int x), l3, l4, l5, l6, l7] s h = rf d 147 117 [l0, l1, some (.int x), l3, l4, l5, l6, l7] (.int x :: s) h := rf_pure (i := .iload_n 2) (len := 1) (okD_ok (by decide +kernel)) rfl
theorem e147_117 (hcat : ip_cat s ≤ 8) : rf (d + 1) 147 117 ls (.int x2 :: .int x1 :: .ref a0 :: .ref 40 :: s) (SH n, I, L, R, nc, ns, nx) = rf_k (d + 1) 147 117 ls s (cf d 149 [.ref 40, .ref a0, .int x1, .int x2] (SH n, I, L, R, nc, ns, nx)) := g_cv (idx := 91) (t := 3) [.int x2, .int x1, .ref a0] (by decide +kernel) ow147 ms_3_91 mt_3_91 cy149_3 rfl rfl mL149 rfl rfl (by decide) hcat
theorem e147_120 : rf d 147 120 ls s h = rf d 147 146 ls s h := rf_goto ⟨okD_ok (i := .goto (26)) (len := 3) (by decide +kernel), rfl⟩
theorem e147_123 : rf d 147 123 [l0, l1, l2, l3, l4, l5, some (.int x), l7] s h = rf d 147 125 [l0, l1, l2, l3, l4, l5, some (.int x), l7] (.int x :: s) h := rf_pure (i := .iload 6) (len := 2) (okD_ok (by decide +kernel)) rfl
theorem e147_125 : rf d 147 125 ls (.int x :: s) h = if x = 0 then rf d 147 146 ls s h else rf d 147 128 ls s h := g_if (c := .eq) (off := 21) _ (by decide +kernel) rfl cmp_d
theorem e147_128 : rf d 147 128 [some (.ref a), l1, l2, l3, l4, l5, l6, l7] s h = rf d 147 129 [some (.ref a), l1, l2, l3, l4, l5, l6, l7] (.ref a :: s) h := rf_pure (i := .aload_n 0) (len := 1) (okD_ok (by decide +kernel)) rfl
theorem e147_129 : rf d 147 129 [l0, l1, l2, l3, l4, l5, l6, some (.int x)] s h = rf d 147 131 [l0, l1, l2, l3, l4, l5, l6, some (.int x)] (.int x :: s) h := rf_pure (i := .iload 7) (len := 2) (okD_ok (by decide +kernel)) rfl
theorem e147_131 : rf d 147 131 ls s h = rf d 147 132 ls (.int 2 :: s) h := rf_pure (i := .iconst (2)) (len := 1) (okD_ok (by decide +kernel)) rfl
theorem e147_132 : rf d 147 132 [l0, l1, l2, l3, l4, l5, l6, some (.int x)] s h = rf d 147 134 [l0, l1, l2, l3, l4, l5, l6, some (.int x)] (.int x :: s) h := rf_pure (i := .iload 7) (len := 2) (okD_ok (by decide +kernel)) rfl
theorem e147_134 (hcat : ip_cat s ≤ 8) : rf (d + 1) 147 134 ls (.int x0 :: s) h = rf_k (d + 1) 147 134 ls s (cf d 132 [.int x0] h) := g_cs (idx := 59) [.int x0] (by decide +kernel) ow147 ms_3_59 mt_3_59 (by decide) rfl mL132 rfl hcat
theorem e147_137 : rf d 147 137 ls (.int y :: .int x :: s) h = rf d 147 138 ls (.int (x * y) :: s) h := rf_pure (i := .imul) (len := 1) (okD_ok (by decide +kernel)) rfl
theorem e147_138 : rf d 147 138 ls s h = rf d 147 139 ls (.int 1 :: s) h := rf_pure (i := .iconst (1)) (len := 1) (okD_ok (by decide +kernel)) rfl
theorem e147_139 : rf d 147 139 ls (.int y :: .int x :: s) h = rf d 147 140 ls (.int (x + y) :: s) h := rf_pure (i := .iadd) (len := 1) (okD_ok (by decide +kernel)) rfl
theorem e147_140 : rf d 147 140 [l0, l1, l2, l3, some (.int x), l5, l6, l7] s h = rf d 147 142 [l0, l1, l2, l3, some (.int x), l5, l6, l7] (.int x :: s) h := rf_pure (i := .iload 4) (len := 2) (okD_ok (by decide +kernel)) rfl
theorem e147_142 : rf d 147 142 ls s h = rf d 147 143 ls (.int (-1) :: s) h := rf_pure (i := .iconst (-1)) (len := 1) (okD_ok (by decide +kernel)) rfl
theorem e147_143 (hcat : ip_cat s ≤ 8) : rf (d + 1) 147 143 ls (.int x3 :: .int x2 :: .int x1 :: .int x0 :: .ref 40 :: s) (SH n, I, L, R, nc, ns, nx) = rf_k (d + 1) 147 143 ls s (cf d 152 [.ref 40, .int x0, .int x1, .int x2, .int x3] (SH n, I, L, R, nc, ns, nx)) := g_cv (idx := 94) (t := 3) [.int x3, .int x2, .int x1, .int x0] (by decide +kernel) ow147 ms_3_94 mt_3_94 cy152_3 rfl rfl mL152 rfl rfl (by decide) hcat
theorem e147_146 : rf d 147 146 [l0, l1, l2, l3, some (.int x), l5, l6, l7] s h = rf d 147 148 [l0, l1, l2, l3, some (.int x), l5, l6, l7] (.int x :: s) h := rf_pure (i := .iload 4) (len := 2) (okD_ok (by decide +kernel)) rfl
theorem e147_148 : rf d 147 148 [l0, l1, l2, some (.int x), l4, l5, l6, l7] s h = rf d 147 149 [l0, l1, l2, some (.int x), l4, l5, l6, l7] (.int x :: s) h := rf_pure (i := .iload_n 3) (len := 1) (okD_ok (by decide +kernel)) rfl
theorem e147_149 (hcat : ip_cat s ≤ 8) : rf (d + 1) 147 149 ls (.int x1 :: .int x0 :: s) h = rf_k (d + 1) 147 149 ls s (cf d 20 [.int x0, .int x1] h) := g_cs (idx := 78) [.int x1, .int x0] (by decide +kernel) ow147 ms_3_78 mt_3_78 (by decide) rfl mL20 rfl hcat
theorem e147_152 (hn : ip_nl l3 = true) : rf d 147 152 [l0, l1, l2, l3, l4, l5, l6, l7] (.int x :: s) h = rf d 147 154 [l0, l1, l2, l3, some (.int x), l5, l6, l7] s h := g_sti (i := .istore 4) (len := 2) (q := 3) (p := 2) (by decide +kernel) rfl rfl hn
theorem e147_154 (hn : ip_nl l4 = true) : rf d 147 154 [l0, l1, l2, l3, l4, some (.int x), l6, l7] s h = rf d 147 157 [l0, l1, l2, l3, l4, some (.int (x + 1)), l6, l7] s h := g_inc (q := 4) (z := 1) (w := 1) (x := x) (by decide) (by decide +kernel) rfl rfl hn
theorem e147_157 : rf d 147 157 ls s h = rf d 147 53 ls s h := rf_goto ⟨okD_ok (i := .goto (-104)) (len := 3) (by decide +kernel), rfl⟩
theorem e147_160 : rf d 147 160 ls [] h = some (.inl none, h) := g_rv (by decide +kernel) rt147
theorem en148 : cf d 148 [.ref a] h = rf d 148 0 [some (.ref a)] [] h := rfl
theorem e148_0 : rf d 148 0 [some (.ref a)] s h = rf d 148 1 [some (.ref a)] (.ref a :: s) h := rf_pure (i := .aload_n 0) (len := 1) (okD_ok (by decide +kernel)) rfl
theorem e148_1 (hR : LYR R) (ha : isC a) : rf d 148 1 ls (.ref a :: s) (SH n, I, L, R, nc, ns, nx) = rf d 148 4 ls (.ref (a + 13) :: s) (SH n, I, L, R, nc, ns, nx) := g_R (idx := 38) (by decide +kernel) ow148 f_0_38 rfl (kdC0 ha) (geC ha) (lyC6 hR ha)
theorem e148_4 : rf d 148 4 ls s h = rf d 148 5 ls (.int 1 :: s) h := rf_pure (i := .iconst (1)) (len := 1) (okD_ok (by decide +kernel)) rfl
theorem e148_5 : rf d 148 5 [some (.ref a)] s h = rf d 148 6 [some (.ref a)] (.ref a :: s) h := rf_pure (i := .aload_n 0) (len := 1) (okD_ok (by decide +kernel)) rfl
theorem e148_6 (ha : isC a) : rf d 148 6 ls (.ref a :: s) (SH n, I, L, R, nc, ns, nx) = rf d 148 9 ls (.int (I a 4) :: s) (SH n, I, L, R, nc, ns, nx) := g_I (idx := 32) (by decide +kernel) ow148 f_0_32 rfl (kdC0 ha) (geC ha)
theorem e148_9 : rf d 148 9 ls (.int y :: .int x :: s) h = rf d 148 10 ls (.int (x - y) :: s) h := rf_pure (i := .isub) (len := 1) (okD_ok (by decide +kernel)) rfl
theorem e148_10 (q : ia n a j) : rf d 148 10 ls (.int j :: .ref a :: s) (SH n, I, L, R, nc, ns, nx) = rf d 148 11 ls (.int (I a j.toNatClampNeg) :: s) (SH n, I, L, R, nc, ns, nx) := g_ial (by decide +kernel) q
theorem e148_11 : rf d 148 11 ls [.int x] h = some (.inl (some (.int x)), h) := g_ri (by decide +kernel) rt148
theorem en149 : cf d 149 [.ref a, .ref a0, .int x1, .int x2] h = rf d 149 0 [some (.ref a), some (.ref a0), some (.int x1), some (.int x2), none, none, none] [] h := rfl
theorem e149_0 : rf d 149 0 [l0, some (.ref a), l2, l3, l4, l5, l6] s h = rf d 149 1 [l0, some (.ref a), l2, l3, l4, l5, l6] (.ref a :: s) h := rf_pure (i := .aload_n 1) (len := 1) (okD_ok (by decide +kernel)) rfl
theorem e149_1 : rf d 149 1 [l0, some (.ref a), l2, l3, l4, l5, l6] s h = rf d 149 2 [l0, some (.ref a), l2, l3, l4, l5, l6] (.ref a :: s) h := rf_pure (i := .aload_n 1) (len := 1) (okD_ok (by decide +kernel)) rfl
theorem e149_2 (hb : isC b) (hcat : ip_cat s ≤ 8) : rf (d + 1) 149 2 ls (.ref b :: s) (SH n, I, L, R, nc, ns, nx) = rf_k (d + 1) 149 2 ls s (cf d 150 [.ref b] (SH n, I, L, R, nc, ns, nx)) := g_cv (idx := 98) (t := 0) [] (by decide +kernel) ow149 ms_3_98 mt_3_98 cy150_0 rfl rfl mL150 rfl (kdC0 hb) (geC hb) hcat
theorem e149_5 : rf d 149 5 ls (.int x :: s) h = if ¬ x = 0 then rf d 149 12 ls s h else rf d 149 8 ls s h := g_if (c := .ne) (off := 7) _ (by decide +kernel) rfl cmp_d
theorem e149_8 : rf d 149 8 [l0, l1, some (.int x), l3, l4, l5, l6] s h = rf d 149 9 [l0, l1, some (.int x), l3, l4, l5, l6] (.int x :: s) h := rf_pure (i := .iload_n 2) (len := 1) (okD_ok (by decide +kernel)) rfl
theorem e149_9 : rf d 149 9 ls s h = rf d 149 13 ls s h := rf_goto ⟨okD_ok (i := .goto (4)) (len := 3) (by decide +kernel), rfl⟩
theorem e149_12 : rf d 149 12 ls s h = rf d 149 13 ls (.int 0 :: s) h := rf_pure (i := .iconst (0)) (len := 1) (okD_ok (by decide +kernel)) rfl
theorem e149_13 : rf d 149 13 [l0, some (.ref a), l2, l3, l4, l5, l6] s h = rf d 149 14 [l0, some (.ref a), l2, l3, l4, l5, l6] (.ref a :: s) h := rf_pure (i := .aload_n 1) (len := 1) (okD_ok (by decide +kernel)) rfl
theorem e149_14 (hb : isC b) (hcat : ip_cat s ≤ 8) : rf (d + 1) 149 14 ls (.ref b :: s) (SH n, I, L, R, nc, ns, nx) = rf_k (d + 1) 149 14 ls s (cf d 150 [.ref b] (SH n, I, L, R, nc, ns, nx)) := g_cv (idx := 98) (t := 0) [] (by decide +kernel) ow149 ms_3_98 mt_3_98 cy150_0 rfl rfl mL150 rfl (kdC0 hb) (geC hb) hcat
theorem e149_17 : rf d 149 17 ls s h = rf d 149 18 ls (.int 1 :: s) h := rf_pure (i := .iconst (1)) (len := 1) (okD_ok (by decide +kernel)) rfl
theorem e149_18 : rf d 149 18 ls (.int y :: .int x :: s) h = if ¬ x = y then rf d 149 25 ls s h else rf d 149 21 ls s h := g_ic (c := .ne) (off := 7) _ (by decide +kernel) rfl cmp_d
theorem e149_21 : rf d 149 21 [l0, l1, some (.int x), l3, l4, l5, l6] s h = rf d 149 22 [l0, l1, some (.int x), l3, l4, l5, l6] (.int x :: s) h := rf_pure (i := .iload_n 2) (len := 1) (okD_ok (by decide +kernel)) rfl
theorem e149_22 : rf d 149 22 ls s h = rf d 149 26 ls s h := rf_goto ⟨okD_ok (i := .goto (4)) (len := 3) (by decide +kernel), rfl⟩
theorem e149_25 : rf d 149 25 ls s h = rf d 149 26 ls (.int 0 :: s) h := rf_pure (i := .iconst (0)) (len := 1) (okD_ok (by decide +kernel)) rfl
theorem e149_26 (hb : isC b) (hcat : ip_cat s ≤ 8) : rf (d + 1) 149 26 ls (.int x1 :: .int x0 :: .ref b :: s) (SH n, I, L, R, nc, ns, nx) = rf_k (d + 1) 149 26 ls s (cf d 108 [.ref b, .int x0, .int x1] (SH n, I, L, R, nc, ns, nx)) := g_cv (idx := 101) (t := 0) [.int x1, .int x0] (by decide +kernel) ow149 ms_3_101 mt_3_101 cy108_0 rfl rfl mL108 rfl (kdC0 hb) (geC hb) hcat
theorem e149_29 : rf d 149 29 [l0, some (.ref a), l2, l3, l4, l5, l6] s h = rf d 149 30 [l0, some (.ref a), l2, l3, l4, l5, l6] (.ref a :: s) h := rf_pure (i := .aload_n 1) (len := 1) (okD_ok (by decide +kernel)) rfl
theorem e149_30 : rf d 149 30 [some (.ref a), l1, l2, l3, l4, l5, l6] s h = rf d 149 31 [some (.ref a), l1, l2, l3, l4, l5, l6] (.ref a :: s) h := rf_pure (i := .aload_n 0) (len := 1) (okD_ok (by decide +kernel)) rfl
theorem e149_31 (hR : LYR R) : rf d 149 31 ls (.ref 40 :: s) (SH n, I, L, R, nc, ns, nx) = rf d 149 34 ls (.ref 57 :: s) (SH n, I, L, R, nc, ns, nx) := g_R (idx := 21) (by decide +kernel) ow149 f_3_21 rfl rfl (by decide) (ly_40_1 hR)
theorem e149_34 : rf d 149 34 ls s h = rf d 149 35 ls (.int (-1) :: s) h := rf_pure (i := .iconst (-1)) (len := 1) (okD_ok (by decide +kernel)) rfl
theorem e149_35 : rf d 149 35 ls s h = rf d 149 36 ls (.int 0 :: s) h := rf_pure (i := .iconst (0)) (len := 1) (okD_ok (by decide +kernel)) rfl
theorem e149_36 (hb : isC b) (hcat : ip_cat s ≤ 8) : rf (d + 1) 149 36 ls (.int x2 :: .int x1 :: .ref a0 :: .ref b :: s) (SH n, I, L, R, nc, ns, nx) = rf_k (d + 1) 149 36 ls s (cf d 114 [.ref b, .ref a0, .int x1, .int x2] (SH n, I, L, R, nc, ns, nx)) := g_cv (idx := 105) (t := 0) [.int x2, .int x1, .ref a0] (by decide +kernel) ow149 ms_3_105 mt_3_105 cy114_0 rfl rfl mL114 rfl (kdC0 hb) (geC hb) hcat
theorem e149_39 : rf d 149 39 [some (.ref a), l1, l2, l3, l4, l5, l6] s h = rf d 149 40 [some (.ref a), l1, l2, l3, l4, l5, l6] (.ref a :: s) h := rf_pure (i := .aload_n 0) (len := 1) (okD_ok (by decide +kernel)) rfl
theorem e149_40 (hR : LYR R) : rf d 149 40 ls (.ref 40 :: s) (SH n, I, L, R, nc, ns, nx) = rf d 149 43 ls (.ref 41 :: s) (SH n, I, L, R, nc, ns, nx) := g_R (idx := 12) (by decide +kernel) ow149 f_3_12 rfl rfl (by decide) (ly_40_0 hR)
theorem e149_43 : rf d 149 43 [l0, some (.ref a), l2, l3, l4, l5, l6] s h = rf d 149 44 [l0, some (.ref a), l2, l3, l4, l5, l6] (.ref a :: s) h := rf_pure (i := .aload_n 1) (len := 1) (okD_ok (by decide +kernel)) rfl
theorem e149_44 (hb : isC b) (hcat : ip_cat s ≤ 8) : rf (d + 1) 149 44 ls (.ref b :: s) (SH n, I, L, R, nc, ns, nx) = rf_k (d + 1) 149 44 ls s (cf d 143 [.ref b] (SH n, I, L, R, nc, ns, nx)) := g_cv (idx := 43) (t := 0) [] (by decide +kernel) ow149 ms_3_43 mt_3_43 cy143_0 rfl rfl mL143 rfl (kdC0 hb) (geC hb) hcat
theorem e149_47 : rf d 149 47 [some (.ref a), l1, l2, l3, l4, l5, l6] s h = rf d 149 48 [some (.ref a), l1, l2, l3, l4, l5, l6] (.ref a :: s) h := rf_pure (i := .aload_n 0) (len := 1) (okD_ok (by decide +kernel)) rfl
theorem e149_48 (hR : LYR R) : rf d 149 48 ls (.ref 40 :: s) (SH n, I, L, R, nc, ns, nx) = rf d 149 51 ls (.ref 57 :: s) (SH n, I, L, R, nc, ns, nx) := g_R (idx := 21) (by decide +kernel) ow149 f_3_21 rfl rfl (by decide) (ly_40_1 hR)
theorem e149_51 : rf d 149 51 [l0, some (.ref a), l2, l3, l4, l5, l6] s h = rf d 149 52 [l0, some (.ref a), l2, l3, l4, l5, l6] (.ref a :: s) h := rf_pure (i := .aload_n 1) (len := 1) (okD_ok (by decide +kernel)) rfl
theorem e149_52 (hb : isC b) (hcat : ip_cat s ≤ 8) : rf (d + 1) 149 52 ls (.ref b :: s) (SH n, I, L, R, nc, ns, nx) = rf_k (d + 1) 149 52 ls s (cf d 151 [.ref b] (SH n, I, L, R, nc, ns, nx)) := g_cv (idx := 109) (t := 0) [] (by decide +kernel) ow149 ms_3_109 mt_3_109 cy151_0 rfl rfl mL151 rfl (kdC0 hb) (geC hb) hcat
theorem e149_55 (hb : isC b) (hcat : ip_cat s ≤ 8) : rf (d + 1) 149 55 ls (.ref a2 :: .ref a1 :: .ref a0 :: .ref b :: s) (SH n, I, L, R, nc, ns, nx) = rf_k (d + 1) 149 55 ls s (cf d 100 [.ref b, .ref a0, .ref a1, .ref a2] (SH n, I, L, R, nc, ns, nx)) := g_cv (idx := 113) (t := 0) [.ref a2, .ref a1, .ref a0] (by decide +kernel) ow149 ms_3_113 mt_3_113 cy100_0 rfl rfl mL100 rfl (kdC0 hb) (geC hb) hcat
theorem e149_58 : rf d 149 58 ls (.int x :: s) h = if ¬ x = 0 then rf d 149 62 ls s h else rf d 149 61 ls s h := g_if (c := .ne) (off := 4) _ (by decide +kernel) rfl cmp_d
theorem e149_61 : rf d 149 61 ls [] h = some (.inl none, h) := g_rv (by decide +kernel) rt149
theorem e149_62 : rf d 149 62 [some (.ref a), l1, l2, l3, l4, l5, l6] s h = rf d 149 63 [some (.ref a), l1, l2, l3, l4, l5, l6] (.ref a :: s) h := rf_pure (i := .aload_n 0) (len := 1) (okD_ok (by decide +kernel)) rfl
theorem e149_63 (hR : LYR R) : rf d 149 63 ls (.ref 40 :: s) (SH n, I, L, R, nc, ns, nx) = rf d 149 66 ls (.ref 41 :: s) (SH n, I, L, R, nc, ns, nx) := g_R (idx := 12) (by decide +kernel) ow149 f_3_12 rfl rfl (by decide) (ly_40_0 hR)
theorem e149_66 (hb : isC b) (hcat : ip_cat s ≤ 8) : rf (d + 1) 149 66 ls (.ref b :: s) (SH n, I, L, R, nc, ns, nx) = rf_k (d + 1) 149 66 ls s (cf d 109 [.ref b] (SH n, I, L, R, nc, ns, nx)) := g_cv (idx := 29) (t := 0) [] (by decide +kernel) ow149 ms_3_29 mt_3_29 cy109_0 rfl rfl mL109 rfl (kdC0 hb) (geC hb) hcat
theorem e149_69 (hn : ip_nl l3 = true) : rf d 149 69 [l0, l1, l2, l3, l4, l5, l6] (.int x :: s) h = rf d 149 71 [l0, l1, l2, l3, some (.int x), l5, l6] s h := g_sti (i := .istore 4) (len := 2) (q := 3) (p := 2) (by decide +kernel) rfl rfl hn
theorem e149_71 : rf d 149 71 [some (.ref a), l1, l2, l3, l4, l5, l6] s h = rf d 149 72 [some (.ref a), l1, l2, l3, l4, l5, l6] (.ref a :: s) h := rf_pure (i := .aload_n 0) (len := 1) (okD_ok (by decide +kernel)) rfl
theorem e149_72 (hR : LYR R) : rf d 149 72 ls (.ref 40 :: s) (SH n, I, L, R, nc, ns, nx) = rf d 149 75 ls (.ref 62 :: s) (SH n, I, L, R, nc, ns, nx) := g_R (idx := 25) (by decide +kernel) ow149 f_3_25 rfl rfl (by decide) (ly_40_2 hR)
theorem e149_75 : rf d 149 75 [l0, l1, l2, l3, some (.int x), l5, l6] s h = rf d 149 77 [l0, l1, l2, l3, some (.int x), l5, l6] (.int x :: s) h := rf_pure (i := .iload 4) (len := 2) (okD_ok (by decide +kernel)) rfl
theorem e149_77 (q : ia n a j) : rf d 149 77 ls (.int j :: .ref a :: s) (SH n, I, L, R, nc, ns, nx) = rf d 149 78 ls (.int (I a j.toNatClampNeg) :: s) (SH n, I, L, R, nc, ns, nx) := g_ial (by decide +kernel) q
theorem e149_78 : rf d 149 78 ls s h = rf d 149 79 ls (.int (-1) :: s) h := rf_pure (i := .iconst (-1)) (len := 1) (okD_ok (by decide +kernel)) rfl
theorem e149_79 : rf d 149 79 ls (.int y :: .int x :: s) h = if ¬ x = y then rf d 149 99 ls s h else rf d 149 82 ls s h := g_ic (c := .ne) (off := 20) _ (by decide +kernel) rfl cmp_d
theorem e149_82 : rf d 149 82 [some (.ref a), l1, l2, l3, l4, l5, l6] s h = rf d 149 83 [some (.ref a), l1, l2, l3, l4, l5, l6] (.ref a :: s) h := rf_pure (i := .aload_n 0) (len := 1) (okD_ok (by decide +kernel)) rfl
theorem e149_83 (hR : LYR R) : rf d 149 83 ls (.ref 40 :: s) (SH n, I, L, R, nc, ns, nx) = rf d 149 86 ls (.ref 62 :: s) (SH n, I, L, R, nc, ns, nx) := g_R (idx := 25) (by decide +kernel) ow149 f_3_25 rfl rfl (by decide) (ly_40_2 hR)
theorem e149_86 : rf d 149 86 [l0, l1, l2, l3, some (.int x), l5, l6] s h = rf d 149 88 [l0, l1, l2, l3, some (.int x), l5, l6] (.int x :: s) h := rf_pure (i := .iload 4) (len := 2) (okD_ok (by decide +kernel)) rfl
theorem e149_88 : rf d 149 88 [some (.ref a), l1, l2, l3, l4, l5, l6] s h = rf d 149 89 [some (.ref a), l1, l2, l3, l4, l5, l6] (.ref a :: s) h := rf_pure (i := .aload_n 0) (len := 1) (okD_ok (by decide +kernel)) rfl
theorem e149_89 (hR : LYR R) : rf d 149 89 ls (.ref 40 :: s) (SH n, I, L, R, nc, ns, nx) = rf d 149 92 ls (.ref 41 :: s) (SH n, I, L, R, nc, ns, nx) := g_R (idx := 12) (by decide +kernel) ow149 f_3_12 rfl rfl (by decide) (ly_40_0 hR)
theorem e149_92 : rf d 149 92 [l0, l1, l2, l3, some (.int x), l5, l6] s h = rf d 149 94 [l0, l1, l2, l3, some (.int x), l5, l6] (.int x :: s) h := rf_pure (i := .iload 4) (len := 2) (okD_ok (by decide +kernel)) rfl
theorem e149_94 : rf d 149 94 [l0, l1, l2, some (.int x), l4, l5, l6] s h = rf d 149 95 [l0, l1, l2, some (.int x), l4, l5, l6] (.int x :: s) h := rf_pure (i := .iload_n 3) (len := 1) (okD_ok (by decide +kernel)) rfl
theorem e149_95 (hb : isC b) (hcat : ip_cat s ≤ 8) : rf (d + 1) 149 95 ls (.int x1 :: .int x0 :: .ref b :: s) (SH n, I, L, R, nc, ns, nx) = rf_k (d + 1) 149 95 ls s (cf d 130 [.ref b, .int x0, .int x1] (SH n, I, L, R, nc, ns, nx)) := g_cv (idx := 117) (t := 0) [.int x1, .int x0] (by decide +kernel) ow149 ms_3_117 mt_3_117 cy130_0 rfl rfl mL130 rfl (kdC0 hb) (geC hb) hcat
theorem e149_98 (q : ia n a j) : rf d 149 98 ls (.int x :: .int j :: .ref a :: s) (SH n, I, L, R, nc, ns, nx) = rf d 149 99 ls s (SH n, ip_up I a j.toNatClampNeg x, L, R, nc, ns, nx) := g_ias (by decide +kernel) q
theorem e149_99 : rf d 149 99 [some (.ref a), l1, l2, l3, l4, l5, l6] s h = rf d 149 100 [some (.ref a), l1, l2, l3, l4, l5, l6] (.ref a :: s) h := rf_pure (i := .aload_n 0) (len := 1) (okD_ok (by decide +kernel)) rfl
theorem e149_100 (hR : LYR R) : rf d 149 100 ls (.ref 40 :: s) (SH n, I, L, R, nc, ns, nx) = rf d 149 103 ls (.ref 62 :: s) (SH n, I, L, R, nc, ns, nx) := g_R (idx := 25) (by decide +kernel) ow149 f_3_25 rfl rfl (by decide) (ly_40_2 hR)
theorem e149_103 : rf d 149 103 [l0, l1, l2, l3, some (.int x), l5, l6] s h = rf d 149 105 [l0, l1, l2, l3, some (.int x), l5, l6] (.int x :: s) h := rf_pure (i := .iload 4) (len := 2) (okD_ok (by decide +kernel)) rfl
theorem e149_105 (q : ia n a j) : rf d 149 105 ls (.int j :: .ref a :: s) (SH n, I, L, R, nc, ns, nx) = rf d 149 106 ls (.int (I a j.toNatClampNeg) :: s) (SH n, I, L, R, nc, ns, nx) := g_ial (by decide +kernel) q
theorem e149_106 (hn : ip_nl l4 = true) : rf d 149 106 [l0, l1, l2, l3, l4, l5, l6] (.int x :: s) h = rf d 149 108 [l0, l1, l2, l3, l4, some (.int x), l6] s h := g_sti (i := .istore 5) (len := 2) (q := 4) (p := 2) (by decide +kernel) rfl rfl hn
theorem e149_108 : rf d 149 108 [some (.ref a), l1, l2, l3, l4, l5, l6] s h = rf d 149 109 [some (.ref a), l1, l2, l3, l4, l5, l6] (.ref a :: s) h := rf_pure (i := .aload_n 0) (len := 1) (okD_ok (by decide +kernel)) rfl
theorem e149_109 (hR : LYR R) : rf d 149 109 ls (.ref 40 :: s) (SH n, I, L, R, nc, ns, nx) = rf d 149 112 ls (.ref 41 :: s) (SH n, I, L, R, nc, ns, nx) := g_R (idx := 12) (by decide +kernel) ow149 f_3_12 rfl rfl (by decide) (ly_40_0 hR)
theorem e149_112 : rf d 149 112 [l0, l1, l2, l3, l4, some (.int x), l6] s h = rf d 149 114 [l0, l1, l2, l3, l4, some (.int x), l6] (.int x :: s) h := rf_pure (i := .iload 5) (len := 2) (okD_ok (by decide +kernel)) rfl
theorem e149_114 : rf d 149 114 ls s h = rf d 149 115 ls (.int 0 :: s) h := rf_pure (i := .iconst (0)) (len := 1) (okD_ok (by decide +kernel)) rfl
theorem e149_115 (hb : isC b) (hcat : ip_cat s ≤ 8) : rf (d + 1) 149 115 ls (.int x1 :: .int x0 :: .ref b :: s) (SH n, I, L, R, nc, ns, nx) = rf_k (d + 1) 149 115 ls s (cf d 111 [.ref b, .int x0, .int x1] (SH n, I, L, R, nc, ns, nx)) := g_cv (idx := 85) (t := 0) [.int x1, .int x0] (by decide +kernel) ow149 ms_3_85 mt_3_85 cy111_0 rfl rfl mL111 rfl (kdC0 hb) (geC hb) hcat
theorem e149_118 (hn : ip_nl l5 = true) : rf d 149 118 [l0, l1, l2, l3, l4, l5, l6] (.int x :: s) h = rf d 149 120 [l0, l1, l2, l3, l4, l5, some (.int x)] s h := g_sti (i := .istore 6) (len := 2) (q := 5) (p := 2) (by decide +kernel) rfl rfl hn
theorem e149_120 : rf d 149 120 [some (.ref a), l1, l2, l3, l4, l5, l6] s h = rf d 149 121 [some (.ref a), l1, l2, l3, l4, l5, l6] (.ref a :: s) h := rf_pure (i := .aload_n 0) (len := 1) (okD_ok (by decide +kernel)) rfl
theorem e149_121 : rf d 149 121 [l0, l1, l2, l3, l4, l5, some (.int x)] s h = rf d 149 123 [l0, l1, l2, l3, l4, l5, some (.int x)] (.int x :: s) h := rf_pure (i := .iload 6) (len := 2) (okD_ok (by decide +kernel)) rfl
theorem e149_123 : rf d 149 123 ls s h = rf d 149 124 ls (.int 2 :: s) h := rf_pure (i := .iconst (2)) (len := 1) (okD_ok (by decide +kernel)) rfl
theorem e149_124 : rf d 149 124 [l0, l1, l2, l3, l4, l5, some (.int x)] s h = rf d 149 126 [l0, l1, l2, l3, l4, l5, some (.int x)] (.int x :: s) h := rf_pure (i := .iload 6) (len := 2) (okD_ok (by decide +kernel)) rfl
theorem e149_126 (hcat : ip_cat s ≤ 8) : rf (d + 1) 149 126 ls (.int x0 :: s) h = rf_k (d + 1) 149 126 ls s (cf d 132 [.int x0] h) := g_cs (idx := 59) [.int x0] (by decide +kernel) ow149 ms_3_59 mt_3_59 (by decide) rfl mL132 rfl hcat
theorem e149_129 : rf d 149 129 ls (.int y :: .int x :: s) h = rf d 149 130 ls (.int (x * y) :: s) h := rf_pure (i := .imul) (len := 1) (okD_ok (by decide +kernel)) rfl
theorem e149_130 : rf d 149 130 [l0, l1, some (.int x), l3, l4, l5, l6] s h = rf d 149 131 [l0, l1, some (.int x), l3, l4, l5, l6] (.int x :: s) h := rf_pure (i := .iload_n 2) (len := 1) (okD_ok (by decide +kernel)) rfl
theorem e149_131 : rf d 149 131 [l0, l1, l2, l3, l4, some (.int x), l6] s h = rf d 149 133 [l0, l1, l2, l3, l4, some (.int x), l6] (.int x :: s) h := rf_pure (i := .iload 5) (len := 2) (okD_ok (by decide +kernel)) rfl
theorem e149_133 (hcat : ip_cat s ≤ 8) : rf (d + 1) 149 133 ls (.int x3 :: .int x2 :: .int x1 :: .int x0 :: .ref 40 :: s) (SH n, I, L, R, nc, ns, nx) = rf_k (d + 1) 149 133 ls s (cf d 152 [.ref 40, .int x0, .int x1, .int x2, .int x3] (SH n, I, L, R, nc, ns, nx)) := g_cv (idx := 94) (t := 3) [.int x3, .int x2, .int x1, .int x0] (by decide +kernel) ow149 ms_3_94 mt_3_94 cy152_3 rfl rfl mL152 rfl rfl (by decide) hcat
theorem e149_136 : rf d 149 136 ls [] h = some (.inl none, h) := g_rv (by decide +kernel) rt149
theorem en150 : cf d 150 [.ref a] h = rf d 150 0 [some (.ref a)] [] h := rfl
theorem e150_0 : rf d 150 0 ls s h = rf d 150 1 ls (.int 1 :: s) h := rf_pure (i := .iconst (1)) (len := 1) (okD_ok (by decide +kernel)) rfl
theorem e150_1 : rf d 150 1 [some (.ref a)] s h = rf d 150 2 [some (.ref a)] (.ref a :: s) h := rf_pure (i := .aload_n 0) (len := 1) (okD_ok (by decide +kernel)) rfl
theorem e150_2 (ha : isC a) : rf d 150 2 ls (.ref a :: s) (SH n, I, L, R, nc, ns, nx) = rf d 150 5 ls (.int (I a 4) :: s) (SH n, I, L, R, nc, ns, nx) := g_I (idx := 32) (by decide +kernel) ow150 f_0_32 rfl (kdC0 ha) (geC ha)
theorem e150_5 : rf d 150 5 ls (.int y :: .int x :: s) h = rf d 150 6 ls (.int (x - y) :: s) h := rf_pure (i := .isub) (len := 1) (okD_ok (by decide +kernel)) rfl
theorem e150_6 : rf d 150 6 ls [.int x] h = some (.inl (some (.int x)), h) := g_ri (by decide +kernel) rt150
theorem en151 : cf d 151 [.ref a] h = rf d 151 0 [some (.ref a)] [] h := rfl
theorem e151_0 : rf d 151 0 [some (.ref a)] s h = rf d 151 1 [some (.ref a)] (.ref a :: s) h := rf_pure (i := .aload_n 0) (len := 1) (okD_ok (by decide +kernel)) rfl
theorem e151_1 (ha : isC a) : rf d 151 1 ls (.ref a :: s) (SH n, I, L, R, nc, ns, nx) = rf d 151 4 ls (ip_rf (R a 1) :: s) (SH n, I, L, R, nc, ns, nx) := g_R (idx := 21) (by decide +kernel) ow151 f_0_21 rfl (kdC0 ha) (geC ha) rfl
theorem e151_4 : rf d 151 4 ls [.ref a] h = some (.inl (some (.ref a)), h) := g_ra (by decide +kernel) rt151
theorem en152 : cf d 152 [.ref a, .int x0, .int x1, .int x2, .int x3] h = rf d 152 0 [some (.ref a), some (.int x0), some (.int x1), some (.int x2), some (.int x3)] [] h := rfl
theorem e152_0 : rf d 152 0 [l0, l1, some (.int x), l3, l4] s h = rf d 152 1 [l0, l1, some (.int x), l3, l4] (.int x :: s) h := rf_pure (i := .iload_n 2) (len := 1) (okD_ok (by decide +kernel)) rfl
theorem e152_1 : rf d 152 1 [some (.ref a), l1, l2, l3, l4] s h = rf d 152 2 [some (.ref a), l1, l2, l3, l4] (.ref a :: s) h := rf_pure (i := .aload_n 0) (len := 1) (okD_ok (by decide +kernel)) rfl
theorem e152_2 : rf d 152 2 ls (.ref 40 :: s) (SH n, I, L, R, nc, ns, nx) = rf d 152 5 ls (.int (I 40 6) :: s) (SH n, I, L, R, nc, ns, nx) := g_I (idx := 33) (by decide +kernel) ow152 f_3_33 rfl rfl (by decide)
theorem e152_5 : rf d 152 5 ls (.int y :: .int x :: s) h = if y < x then rf d 152 31 ls s h else rf d 152 8 ls s h := g_ic (c := .gt) (off := 26) _ (by decide +kernel) rfl cmp_d
theorem e152_8 : rf d 152 8 [l0, l1, some (.int x), l3, l4] s h = rf d 152 9 [l0, l1, some (.int x), l3, l4] (.int x :: s) h := rf_pure (i := .iload_n 2) (len := 1) (okD_ok (by decide +kernel)) rfl
theorem e152_9 : rf d 152 9 [some (.ref a), l1, l2, l3, l4] s h = rf d 152 10 [some (.ref a), l1, l2, l3, l4] (.ref a :: s) h := rf_pure (i := .aload_n 0) (len := 1) (okD_ok (by decide +kernel)) rfl
theorem e152_10 : rf d 152 10 ls (.ref 40 :: s) (SH n, I, L, R, nc, ns, nx) = rf d 152 13 ls (.int (I 40 6) :: s) (SH n, I, L, R, nc, ns, nx) := g_I (idx := 33) (by decide +kernel) ow152 f_3_33 rfl rfl (by decide)
theorem e152_13 : rf d 152 13 ls (.int y :: .int x :: s) h = if ¬ x = y then rf d 152 52 ls s h else rf d 152 16 ls s h := g_ic (c := .ne) (off := 39) _ (by decide +kernel) rfl cmp_d
theorem e152_16 : rf d 152 16 [l0, l1, some (.int x), l3, l4] s h = rf d 152 17 [l0, l1, some (.int x), l3, l4] (.int x :: s) h := rf_pure (i := .iload_n 2) (len := 1) (okD_ok (by decide +kernel)) rfl
theorem e152_17 : rf d 152 17 ls (.int x :: s) h = if x ≤ 0 then rf d 152 52 ls s h else rf d 152 20 ls s h := g_if (c := .le) (off := 35) _ (by decide +kernel) rfl cmp_d
theorem e152_20 : rf d 152 20 [l0, l1, l2, some (.int x), l4] s h = rf d 152 21 [l0, l1, l2, some (.int x), l4] (.int x :: s) h := rf_pure (i := .iload_n 3) (len := 1) (okD_ok (by decide +kernel)) rfl
theorem e152_21 : rf d 152 21 [some (.ref a), l1, l2, l3, l4] s h = rf d 152 22 [some (.ref a), l1, l2, l3, l4] (.ref a :: s) h := rf_pure (i := .aload_n 0) (len := 1) (okD_ok (by decide +kernel)) rfl
theorem e152_22 : rf d 152 22 ls (.ref 40 :: s) (SH n, I, L, R, nc, ns, nx) = rf d 152 25 ls (.int (I 40 4) :: s) (SH n, I, L, R, nc, ns, nx) := g_I (idx := 62) (by decide +kernel) ow152 f_3_62 rfl rfl (by decide)
theorem e152_25 (hcat : ip_cat s ≤ 8) : rf (d + 1) 152 25 ls (.int x1 :: .int x0 :: s) h = rf_k (d + 1) 152 25 ls s (cf d 133 [.int x0, .int x1] h) := g_cs (idx := 65) [.int x1, .int x0] (by decide +kernel) ow152 ms_3_65 mt_3_65 (by decide) rfl mL133 rfl hcat
theorem e152_28 : rf d 152 28 ls (.int x :: s) h = if x = 0 then rf d 152 52 ls s h else rf d 152 31 ls s h := g_if (c := .eq) (off := 24) _ (by decide +kernel) rfl cmp_d
theorem e152_31 : rf d 152 31 [some (.ref a), l1, l2, l3, l4] s h = rf d 152 32 [some (.ref a), l1, l2, l3, l4] (.ref a :: s) h := rf_pure (i := .aload_n 0) (len := 1) (okD_ok (by decide +kernel)) rfl
theorem e152_32 : rf d 152 32 [l0, l1, some (.int x), l3, l4] s h = rf d 152 33 [l0, l1, some (.int x), l3, l4] (.int x :: s) h := rf_pure (i := .iload_n 2) (len := 1) (okD_ok (by decide +kernel)) rfl
theorem e152_33 : rf d 152 33 ls (.int x :: .ref 40 :: s) (SH n, I, L, R, nc, ns, nx) = rf d 152 36 ls s (SH n, ip_up I 40 6 x, L, R, nc, ns, nx) := g_pI (idx := 33) (by decide +kernel) ow152 f_3_33 rfl (by decide +kernel) rfl (by decide)
theorem e152_36 : rf d 152 36 [some (.ref a), l1, l2, l3, l4] s h = rf d 152 37 [some (.ref a), l1, l2, l3, l4] (.ref a :: s) h := rf_pure (i := .aload_n 0) (len := 1) (okD_ok (by decide +kernel)) rfl
theorem e152_37 : rf d 152 37 [l0, some (.int x), l2, l3, l4] s h = rf d 152 38 [l0, some (.int x), l2, l3, l4] (.int x :: s) h := rf_pure (i := .iload_n 1) (len := 1) (okD_ok (by decide +kernel)) rfl
theorem e152_38 : rf d 152 38 ls (.int x :: .ref 40 :: s) (SH n, I, L, R, nc, ns, nx) = rf d 152 41 ls s (SH n, ip_up I 40 3 x, L, R, nc, ns, nx) := g_pI (idx := 75) (by decide +kernel) ow152 f_3_75 rfl (by decide +kernel) rfl (by decide)
theorem e152_41 : rf d 152 41 [some (.ref a), l1, l2, l3, l4] s h = rf d 152 42 [some (.ref a), l1, l2, l3, l4] (.ref a :: s) h := rf_pure (i := .aload_n 0) (len := 1) (okD_ok (by decide +kernel)) rfl
theorem e152_42 : rf d 152 42 [l0, l1, l2, some (.int x), l4] s h = rf d 152 43 [l0, l1, l2, some (.int x), l4] (.int x :: s) h := rf_pure (i := .iload_n 3) (len := 1) (okD_ok (by decide +kernel)) rfl
theorem e152_43 : rf d 152 43 ls (.int x :: .ref 40 :: s) (SH n, I, L, R, nc, ns, nx) = rf d 152 46 ls s (SH n, ip_up I 40 4 x, L, R, nc, ns, nx) := g_pI (idx := 62) (by decide +kernel) ow152 f_3_62 rfl (by decide +kernel) rfl (by decide)
theorem e152_46 : rf d 152 46 [some (.ref a), l1, l2, l3, l4] s h = rf d 152 47 [some (.ref a), l1, l2, l3, l4] (.ref a :: s) h := rf_pure (i := .aload_n 0) (len := 1) (okD_ok (by decide +kernel)) rfl
theorem e152_47 : rf d 152 47 [l0, l1, l2, l3, some (.int x)] s h = rf d 152 49 [l0, l1, l2, l3, some (.int x)] (.int x :: s) h := rf_pure (i := .iload 4) (len := 2) (okD_ok (by decide +kernel)) rfl
theorem e152_49 : rf d 152 49 ls (.int x :: .ref 40 :: s) (SH n, I, L, R, nc, ns, nx) = rf d 152 52 ls s (SH n, ip_up I 40 5 x, L, R, nc, ns, nx) := g_pI (idx := 72) (by decide +kernel) ow152 f_3_72 rfl (by decide +kernel) rfl (by decide)
theorem e152_52 : rf d 152 52 ls [] h = some (.inl none, h) := g_rv (by decide +kernel) rt152
theorem en153 : cf d 153 [.ref a0, .int x1, .ref a2] h = rf d 153 0 [some (.ref a0), some (.int x1), some (.ref a2), none] [] h := rfl
theorem e153_0 : rf d 153 0 [l0, l1, some (.ref a), l3] s h = rf d 153 1 [l0, l1, some (.ref a), l3] (.ref a :: s) h := rf_pure (i := .aload_n 2) (len := 1) (okD_ok (by decide +kernel)) rfl
theorem e153_1 : rf d 153 1 ls s h = rf d 153 2 ls (.int 0 :: s) h := rf_pure (i := .iconst (0)) (len := 1) (okD_ok (by decide +kernel)) rfl
theorem e153_2 : rf d 153 2 [some (.ref a), l1, l2, l3] s h = rf d 153 3 [some (.ref a), l1, l2, l3] (.ref a :: s) h := rf_pure (i := .aload_n 0) (len := 1) (okD_ok (by decide +kernel)) rfl
theorem e153_3 : rf d 153 3 [l0, some (.int x), l2, l3] s h = rf d 153 4 [l0, some (.int x), l2, l3] (.int x :: s) h := rf_pure (i := .iload_n 1) (len := 1) (okD_ok (by decide +kernel)) rfl
theorem e153_4 (hcat : ip_cat s ≤ 8) : rf (d + 1) 153 4 ls (.int x0 :: .ref 2 :: s) (SH n, I, L, R, nc, ns, nx) = rf_k (d + 1) 153 4 ls s (cf d 154 [.ref 2, .int x0] (SH n, I, L, R, nc, ns, nx)) := g_cv (idx := 78) (t := 7) [.int x0] (by decide +kernel) ow153 ms_9_78 mt_9_78 cy154_7 rfl rfl mL154 rfl rfl (by decide) hcat
theorem e153_7 : rf d 153 7 ls (.int x :: s) h = rf d 153 8 ls (.long x.toInt64 :: s) h := rf_pure (i := .i2l) (len := 1) (okD_ok (by decide +kernel)) rfl
theorem e153_8 (q : la n a j) : rf d 153 8 ls (.long u :: .int j :: .ref a :: s) (SH n, I, L, R, nc, ns, nx) = rf d 153 9 ls s (SH n, I, ip_up L a j.toNatClampNeg u, R, nc, ns, nx) := g_las (by decide +kernel) q
theorem e153_9 : rf d 153 9 ls s h = rf d 153 18 ls s h := rf_goto ⟨okD_ok (i := .goto (9)) (len := 3) (by decide +kernel), rfl⟩
theorem e153_18 : rf d 153 18 ls s h = rf d 153 19 ls (.int 0 :: s) h := rf_pure (i := .iconst (0)) (len := 1) (okD_ok (by decide +kernel)) rfl
theorem e153_19 : rf d 153 19 ls [.int x] h = some (.inl (some (.int x)), h) := g_ri (by decide +kernel) rt153
theorem en154 : cf d 154 [.ref a, .int x0] h = rf d 154 0 [some (.ref a), some (.int x0)] [] h := rfl
theorem e154_0 : rf d 154 0 [some (.ref a), l1] s h = rf d 154 1 [some (.ref a), l1] (.ref a :: s) h := rf_pure (i := .aload_n 0) (len := 1) (okD_ok (by decide +kernel)) rfl
theorem e154_1 (hcat : ip_cat s ≤ 8) : rf (d + 1) 154 1 ls (.ref 2 :: s) (SH n, I, L, R, nc, ns, nx) = rf_k (d + 1) 154 1 ls s (cf d 99 [.ref 2] (SH n, I, L, R, nc, ns, nx)) := g_cv (idx := 185) (t := 7) [] (by decide +kernel) ow154 ms_7_185 mt_7_185 cy99_7 rfl rfl mL99 rfl rfl (by decide) hcat
theorem e154_4 : rf d 154 4 [l0, some (.int x)] s h = rf d 154 5 [l0, some (.int x)] (.int x :: s) h := rf_pure (i := .iload_n 1) (len := 1) (okD_ok (by decide +kernel)) rfl
theorem e154_5 : rf d 154 5 ls (.int x :: s) h = if x < 0 then rf d 154 13 ls s h else rf d 154 8 ls s h := g_if (c := .lt) (off := 8) _ (by decide +kernel) rfl cmp_d
theorem e154_8 : rf d 154 8 [l0, some (.int x)] s h = rf d 154 9 [l0, some (.int x)] (.int x :: s) h := rf_pure (i := .iload_n 1) (len := 1) (okD_ok (by decide +kernel)) rfl
theorem e154_9 : rf d 154 9 ls s h = rf d 154 10 ls (.int 3 :: s) h := rf_pure (i := .iconst (3)) (len := 1) (okD_ok (by decide +kernel)) rfl
theorem e154_10 : rf d 154 10 ls (.int y :: .int x :: s) h = if x ≤ y then rf d 154 24 ls s h else rf d 154 13 ls s h := g_ic (c := .le) (off := 14) _ (by decide +kernel) rfl cmp_d
theorem e154_13 : rf d 154 13 ls [] h = some (.inr "java/util/NoSuchElementException", ip_hx h) := g_thr (idx := 112) (by decide +kernel) ow154 (by decide +kernel) (by decide +kernel)
theorem e154_24 : rf d 154 24 [some (.ref a), l1] s h = rf d 154 25 [some (.ref a), l1] (.ref a :: s) h := rf_pure (i := .aload_n 0) (len := 1) (okD_ok (by decide +kernel)) rfl
theorem e154_25 (hR : LYR R) : rf d 154 25 ls (.ref 2 :: s) (SH n, I, L, R, nc, ns, nx) = rf d 154 28 ls (.ref 24 :: s) (SH n, I, L, R, nc, ns, nx) := g_R (idx := 49) (by decide +kernel) ow154 f_7_49 rfl rfl (by decide) (ly_2_8 hR)
theorem e154_28 : rf d 154 28 [l0, some (.int x)] s h = rf d 154 29 [l0, some (.int x)] (.int x :: s) h := rf_pure (i := .iload_n 1) (len := 1) (okD_ok (by decide +kernel)) rfl
theorem e154_29 (hb : isC b) (hcat : ip_cat s ≤ 8) : rf (d + 1) 154 29 ls (.int x0 :: .ref b :: s) (SH n, I, L, R, nc, ns, nx) = rf_k (d + 1) 154 29 ls s (cf d 155 [.ref b, .int x0] (SH n, I, L, R, nc, ns, nx)) := g_cv (idx := 276) (t := 0) [.int x0] (by decide +kernel) ow154 ms_7_276 mt_7_276 cy155_0 rfl rfl mL155 rfl (kdC0 hb) (geC hb) hcat
theorem e154_32 : rf d 154 32 ls [.int x] h = some (.inl (some (.int x)), h) := g_ri (by decide +kernel) rt154
theorem en155 : cf d 155 [.ref a, .int x0] h = rf d 155 0 [some (.ref a), some (.int x0), none, none, none, none] [] h := rfl
theorem e155_0 : rf d 155 0 [some (.ref a), l1, l2, l3, l4, l5] s h = rf d 155 1 [some (.ref a), l1, l2, l3, l4, l5] (.ref a :: s) h := rf_pure (i := .aload_n 0) (len := 1) (okD_ok (by decide +kernel)) rfl
theorem e155_1 (hb : isC b) (hcat : ip_cat s ≤ 8) : rf (d + 1) 155 1 ls (.ref b :: s) (SH n, I, L, R, nc, ns, nx) = rf_k (d + 1) 155 1 ls s (cf d 109 [.ref b] (SH n, I, L, R, nc, ns, nx)) := g_cv (idx := 122) (t := 0) [] (by decide +kernel) ow155 ms_0_122 mt_0_122 cy109_0 rfl rfl mL109 rfl (kdC0 hb) (geC hb) hcat
theorem e155_4 (hn : ip_nl l1 = true) : rf d 155 4 [l0, l1, l2, l3, l4, l5] (.int x :: s) h = rf d 155 5 [l0, l1, some (.int x), l3, l4, l5] s h := g_sti (i := .istore_n 2) (len := 1) (q := 1) (p := 1) (by decide +kernel) rfl rfl hn
theorem e155_5 : rf d 155 5 ls s h = rf d 155 6 ls (.int 0 :: s) h := rf_pure (i := .iconst (0)) (len := 1) (okD_ok (by decide +kernel)) rfl
theorem e155_6 (hn : ip_nl l2 = true) : rf d 155 6 [l0, l1, l2, l3, l4, l5] (.int x :: s) h = rf d 155 7 [l0, l1, l2, some (.int x), l4, l5] s h := g_sti (i := .istore_n 3) (len := 1) (q := 2) (p := 1) (by decide +kernel) rfl rfl hn
theorem e155_7 : rf d 155 7 ls s h = rf d 155 8 ls (.int 0 :: s) h := rf_pure (i := .iconst (0)) (len := 1) (okD_ok (by decide +kernel)) rfl
theorem e155_8 (hn : ip_nl l3 = true) : rf d 155 8 [l0, l1, l2, l3, l4, l5] (.int x :: s) h = rf d 155 10 [l0, l1, l2, l3, some (.int x), l5] s h := g_sti (i := .istore 4) (len := 2) (q := 3) (p := 2) (by decide +kernel) rfl rfl hn
theorem e155_10 : rf d 155 10 ls s h = rf d 155 11 ls (.int 0 :: s) h := rf_pure (i := .iconst (0)) (len := 1) (okD_ok (by decide +kernel)) rfl
theorem e155_11 (hn : ip_nl l4 = true) : rf d 155 11 [l0, l1, l2, l3, l4, l5] (.int x :: s) h = rf d 155 13 [l0, l1, l2, l3, l4, some (.int x)] s h := g_sti (i := .istore 5) (len := 2) (q := 4) (p := 2) (by decide +kernel) rfl rfl hn
theorem e155_13 : rf d 155 13 [l0, l1, l2, l3, l4, some (.int x)] s h = rf d 155 15 [l0, l1, l2, l3, l4, some (.int x)] (.int x :: s) h := rf_pure (i := .iload 5) (len := 2) (okD_ok (by decide +kernel)) rfl
theorem e155_15 : rf d 155 15 ls s h = rf d 155 16 ls (.int 1 :: s) h := rf_pure (i := .iconst (1)) (len := 1) (okD_ok (by decide +kernel)) rfl
theorem e155_16 : rf d 155 16 [l0, l1, some (.int x), l3, l4, l5] s h = rf d 155 17 [l0, l1, some (.int x), l3, l4, l5] (.int x :: s) h := rf_pure (i := .iload_n 2) (len := 1) (okD_ok (by decide +kernel)) rfl
theorem e155_17 (hcat : ip_cat s ≤ 8) : rf (d + 1) 155 17 ls (.int x0 :: s) h = rf_k (d + 1) 155 17 ls s (cf d 19 [.int x0] h) := g_cs (idx := 165) [.int x0] (by decide +kernel) ow155 ms_0_165 mt_0_165 (by decide) rfl mL19 rfl hcat
theorem e155_20 : rf d 155 20 ls (.int y :: .int x :: s) h = rf d 155 21 ls (.int (x <<< (y &&& 31)) :: s) h := rf_pure (i := .ishl) (len := 1) (okD_ok (by decide +kernel)) rfl
theorem e155_21 : rf d 155 21 ls (.int y :: .int x :: s) h = if y ≤ x then rf d 155 52 ls s h else rf d 155 24 ls s h := g_ic (c := .ge) (off := 31) _ (by decide +kernel) rfl cmp_d
theorem e155_24 : rf d 155 24 [some (.ref a), l1, l2, l3, l4, l5] s h = rf d 155 25 [some (.ref a), l1, l2, l3, l4, l5] (.ref a :: s) h := rf_pure (i := .aload_n 0) (len := 1) (okD_ok (by decide +kernel)) rfl
theorem e155_25 : rf d 155 25 [l0, l1, l2, l3, some (.int x), l5] s h = rf d 155 27 [l0, l1, l2, l3, some (.int x), l5] (.int x :: s) h := rf_pure (i := .iload 4) (len := 2) (okD_ok (by decide +kernel)) rfl
theorem e155_27 : rf d 155 27 ls s h = rf d 155 28 ls (.int 0 :: s) h := rf_pure (i := .iconst (0)) (len := 1) (okD_ok (by decide +kernel)) rfl
theorem e155_28 (hb : isC b) (hcat : ip_cat s ≤ 8) : rf (d + 1) 155 28 ls (.int x1 :: .int x0 :: .ref b :: s) (SH n, I, L, R, nc, ns, nx) = rf_k (d + 1) 155 28 ls s (cf d 111 [.ref b, .int x0, .int x1] (SH n, I, L, R, nc, ns, nx)) := g_cv (idx := 129) (t := 0) [.int x1, .int x0] (by decide +kernel) ow155 ms_0_129 mt_0_129 cy111_0 rfl rfl mL111 rfl (kdC0 hb) (geC hb) hcat
theorem e155_31 : rf d 155 31 [l0, some (.int x), l2, l3, l4, l5] s h = rf d 155 32 [l0, some (.int x), l2, l3, l4, l5] (.int x :: s) h := rf_pure (i := .iload_n 1) (len := 1) (okD_ok (by decide +kernel)) rfl
theorem e155_32 : rf d 155 32 ls (.int y :: .int x :: s) h = if ¬ x = y then rf d 155 38 ls s h else rf d 155 35 ls s h := g_ic (c := .ne) (off := 6) _ (by decide +kernel) rfl cmp_d
theorem e155_35 (hn : ip_nl l2 = true) : rf d 155 35 [l0, l1, l2, some (.int x), l4, l5] s h = rf d 155 38 [l0, l1, l2, some (.int (x + 1)), l4, l5] s h := g_inc (q := 2) (z := 1) (w := 1) (x := x) (by decide) (by decide +kernel) rfl rfl hn
theorem e155_38 : rf d 155 38 [l0, l1, l2, l3, some (.int x), l5] s h = rf d 155 40 [l0, l1, l2, l3, some (.int x), l5] (.int x :: s) h := rf_pure (i := .iload 4) (len := 2) (okD_ok (by decide +kernel)) rfl
theorem e155_40 : rf d 155 40 [l0, l1, some (.int x), l3, l4, l5] s h = rf d 155 41 [l0, l1, some (.int x), l3, l4, l5] (.int x :: s) h := rf_pure (i := .iload_n 2) (len := 1) (okD_ok (by decide +kernel)) rfl
theorem e155_41 (hcat : ip_cat s ≤ 8) : rf (d + 1) 155 41 ls (.int x1 :: .int x0 :: s) h = rf_k (d + 1) 155 41 ls s (cf d 20 [.int x0, .int x1] h) := g_cs (idx := 180) [.int x1, .int x0] (by decide +kernel) ow155 ms_0_180 mt_0_180 (by decide) rfl mL20 rfl hcat
theorem e155_44 (hn : ip_nl l3 = true) : rf d 155 44 [l0, l1, l2, l3, l4, l5] (.int x :: s) h = rf d 155 46 [l0, l1, l2, l3, some (.int x), l5] s h := g_sti (i := .istore 4) (len := 2) (q := 3) (p := 2) (by decide +kernel) rfl rfl hn
theorem e155_46 (hn : ip_nl l4 = true) : rf d 155 46 [l0, l1, l2, l3, l4, some (.int x)] s h = rf d 155 49 [l0, l1, l2, l3, l4, some (.int (x + 1))] s h := g_inc (q := 4) (z := 1) (w := 1) (x := x) (by decide) (by decide +kernel) rfl rfl hn
theorem e155_49 : rf d 155 49 ls s h = rf d 155 13 ls s h := rf_goto ⟨okD_ok (i := .goto (-36)) (len := 3) (by decide +kernel), rfl⟩
theorem e155_52 : rf d 155 52 [l0, l1, l2, some (.int x), l4, l5] s h = rf d 155 53 [l0, l1, l2, some (.int x), l4, l5] (.int x :: s) h := rf_pure (i := .iload_n 3) (len := 1) (okD_ok (by decide +kernel)) rfl
theorem e155_53 : rf d 155 53 [some (.ref a), l1, l2, l3, l4, l5] s h = rf d 155 54 [some (.ref a), l1, l2, l3, l4, l5] (.ref a :: s) h := rf_pure (i := .aload_n 0) (len := 1) (okD_ok (by decide +kernel)) rfl
theorem e155_54 (ha : isC a) : rf d 155 54 ls (.ref a :: s) (SH n, I, L, R, nc, ns, nx) = rf d 155 57 ls (ip_rf (R a 0) :: s) (SH n, I, L, R, nc, ns, nx) := g_R (idx := 12) (by decide +kernel) ow155 f_0_12 rfl (kdC0 ha) (geC ha) rfl
theorem e155_57 (ha : isT a) : rf d 155 57 ls (.ref a :: s) (SH n, I, L, R, nc, ns, nx) = rf d 155 60 ls (.int (I a 6) :: s) (SH n, I, L, R, nc, ns, nx) := g_I (idx := 77) (by decide +kernel) ow155 f_0_77 rfl (kdT0 ha) (geT ha)
theorem e155_60 : rf d 155 60 [l0, l1, some (.int x), l3, l4, l5] s h = rf d 155 61 [l0, l1, some (.int x), l3, l4, l5] (.int x :: s) h := rf_pure (i := .iload_n 2) (len := 1) (okD_ok (by decide +kernel)) rfl
theorem e155_61 (hcat : ip_cat s ≤ 8) : rf (d + 1) 155 61 ls (.int x0 :: s) h = rf_k (d + 1) 155 61 ls s (cf d 19 [.int x0] h) := g_cs (idx := 165) [.int x0] (by decide +kernel) ow155 ms_0_165 mt_0_165 (by decide) rfl mL19 rfl hcat
theorem e155_64 : rf d 155 64 ls (.int y :: .int x :: s) h = rf d 155 65 ls (.int (x - y) :: s) h := rf_pure (i := .isub) (len := 1) (okD_ok (by decide +kernel)) rfl
theorem e155_65 : rf d 155 65 ls (.int y :: .int x :: s) h = rf d 155 66 ls (.int (x <<< (y &&& 31)) :: s) h := rf_pure (i := .ishl) (len := 1) (okD_ok (by decide +kernel)) rfl
theorem e155_66 : rf d 155 66 ls [.int x] h = some (.inl (some (.int x)), h) := g_ri (by decide +kernel) rt155
theorem en156 : cf d 156 [.ref a0, .int x1, .int x2, .ref a3] h = rf d 156 0 [some (.ref a0), some (.int x1), some (.int x2), some (.ref a3), none] [] h := rfl
theorem e156_0 : rf d 156 0 [l0, l1, l2, some (.ref a), l4] s h = rf d 156 1 [l0, l1, l2, some (.ref a), l4] (.ref a :: s) h := rf_pure (i := .aload_n 3) (len := 1) (okD_ok (by decide +kernel)) rfl
theorem e156_1 : rf d 156 1 ls s h = rf d 156 2 ls (.int 0 :: s) h := rf_pure (i := .iconst (0)) (len := 1) (okD_ok (by decide +kernel)) rfl
theorem e156_2 : rf d 156 2 [some (.ref a), l1, l2, l3, l4] s h = rf d 156 3 [some (.ref a), l1, l2, l3, l4] (.ref a :: s) h := rf_pure (i := .aload_n 0) (len := 1) (okD_ok (by decide +kernel)) rfl
theorem e156_3 : rf d 156 3 [l0, some (.int x), l2, l3, l4] s h = rf d 156 4 [l0, some (.int x), l2, l3, l4] (.int x :: s) h := rf_pure (i := .iload_n 1) (len := 1) (okD_ok (by decide +kernel)) rfl
theorem e156_4 : rf d 156 4 [l0, l1, some (.int x), l3, l4] s h = rf d 156 5 [l0, l1, some (.int x), l3, l4] (.int x :: s) h := rf_pure (i := .iload_n 2) (len := 1) (okD_ok (by decide +kernel)) rfl
theorem e156_5 (hcat : ip_cat s ≤ 8) : rf (d + 1) 156 5 ls (.int x1 :: .int x0 :: .ref 2 :: s) (SH n, I, L, R, nc, ns, nx) = rf_k (d + 1) 156 5 ls s (cf d 157 [.ref 2, .int x0, .int x1] (SH n, I, L, R, nc, ns, nx)) := g_cv (idx := 81) (t := 7) [.int x1, .int x0] (by decide +kernel) ow156 ms_9_81 mt_9_81 cy157_7 rfl rfl mL157 rfl rfl (by decide) hcat
theorem e156_8 : rf d 156 8 ls (.int x :: s) h = rf d 156 9 ls (.long x.toInt64 :: s) h := rf_pure (i := .i2l) (len := 1) (okD_ok (by decide +kernel)) rfl
theorem e156_9 (q : la n a j) : rf d 156 9 ls (.long u :: .int j :: .ref a :: s) (SH n, I, L, R, nc, ns, nx) = rf d 156 10 ls s (SH n, I, ip_up L a j.toNatClampNeg u, R, nc, ns, nx) := g_las (by decide +kernel) q
theorem e156_10 : rf d 156 10 ls s h = rf d 156 21 ls s h := rf_goto ⟨okD_ok (i := .goto (11)) (len := 3) (by decide +kernel), rfl⟩
theorem e156_21 : rf d 156 21 ls s h = rf d 156 22 ls (.int 0 :: s) h := rf_pure (i := .iconst (0)) (len := 1) (okD_ok (by decide +kernel)) rfl
theorem e156_22 : rf d 156 22 ls [.int x] h = some (.inl (some (.int x)), h) := g_ri (by decide +kernel) rt156
theorem en157 : cf d 157 [.ref a, .int x0, .int x1] h = rf d 157 0 [some (.ref a), some (.int x0), some (.int x1), none] [] h := rfl
theorem e157_0 : rf d 157 0 [some (.ref a), l1, l2, l3] s h = rf d 157 1 [some (.ref a), l1, l2, l3] (.ref a :: s) h := rf_pure (i := .aload_n 0) (len := 1) (okD_ok (by decide +kernel)) rfl
theorem e157_1 : rf d 157 1 [l0, some (.int x), l2, l3] s h = rf d 157 2 [l0, some (.int x), l2, l3] (.int x :: s) h := rf_pure (i := .iload_n 1) (len := 1) (okD_ok (by decide +kernel)) rfl
theorem e157_2 (hcat : ip_cat s ≤ 8) : rf (d + 1) 157 2 ls (.int x0 :: .ref 2 :: s) (SH n, I, L, R, nc, ns, nx) = rf_k (d + 1) 157 2 ls s (cf d 124 [.ref 2, .int x0] (SH n, I, L, R, nc, ns, nx)) := g_cv (idx := 210) (t := 7) [.int x0] (by decide +kernel) ow157 ms_7_210 mt_7_210 cy124_7 rfl rfl mL124 rfl rfl (by decide) hcat
theorem e157_5 : rf d 157 5 [some (.ref a), l1, l2, l3] s h = rf d 157 6 [some (.ref a), l1, l2, l3] (.ref a :: s) h := rf_pure (i := .aload_n 0) (len := 1) (okD_ok (by decide +kernel)) rfl
theorem e157_6 (hR : LYR R) : rf d 157 6 ls (.ref 2 :: s) (SH n, I, L, R, nc, ns, nx) = rf d 157 9 ls (.ref 23 :: s) (SH n, I, L, R, nc, ns, nx) := g_R (idx := 36) (by decide +kernel) ow157 f_7_36 rfl rfl (by decide) (ly_2_5 hR)
theorem e157_9 : rf d 157 9 [l0, some (.int x), l2, l3] s h = rf d 157 10 [l0, some (.int x), l2, l3] (.int x :: s) h := rf_pure (i := .iload_n 1) (len := 1) (okD_ok (by decide +kernel)) rfl
theorem e157_10 (hR : LYR R) (q : inb j 40) : rf d 157 10 ls (.int j :: .ref 23 :: s) (SH n, I, L, R, nc, ns, nx) = rf d 157 11 ls (.ref (nd j) :: s) (SH n, I, L, R, nc, ns, nx) := g_aal (by decide +kernel) hR q
theorem e157_11 (hn : ip_nl l2 = true) : rf d 157 11 [l0, l1, l2, l3] (.ref a :: s) h = rf d 157 12 [l0, l1, l2, some (.ref a)] s h := g_sta (i := .astore_n 3) (len := 1) (q := 2) (p := 1) (by decide +kernel) rfl rfl hn
theorem e157_12 : rf d 157 12 [l0, l1, some (.int x), l3] s h = rf d 157 13 [l0, l1, some (.int x), l3] (.int x :: s) h := rf_pure (i := .iload_n 2) (len := 1) (okD_ok (by decide +kernel)) rfl
theorem e157_88 : rf d 157 88 [l0, l1, l2, some (.ref a)] s h = rf d 157 89 [l0, l1, l2, some (.ref a)] (.ref a :: s) h := rf_pure (i := .aload_n 3) (len := 1) (okD_ok (by decide +kernel)) rfl
theorem e157_89 (ha : isN a) : rf d 157 89 ls (.ref a :: s) (SH n, I, L, R, nc, ns, nx) = rf d 157 92 ls (.int (I a 0) :: s) (SH n, I, L, R, nc, ns, nx) := g_I (idx := 138) (by decide +kernel) ow157 f_7_138 rfl (kdN0 ha) (geN ha)
theorem e157_92 : rf d 157 92 ls [.int x] h = some (.inl (some (.int x)), h) := g_ri (by decide +kernel) rt157
theorem e157_93 : rf d 157 93 [l0, l1, l2, some (.ref a)] s h = rf d 157 94 [l0, l1, l2, some (.ref a)] (.ref a :: s) h := rf_pure (i := .aload_n 3) (len := 1) (okD_ok (by decide +kernel)) rfl
theorem e157_94 (ha : isN a) : rf d 157 94 ls (.ref a :: s) (SH n, I, L, R, nc, ns, nx) = rf d 157 97 ls (.int (I a 1) :: s) (SH n, I, L, R, nc, ns, nx) := g_I (idx := 279) (by decide +kernel) ow157 f_7_279 rfl (kdN0 ha) (geN ha)
theorem e157_97 : rf d 157 97 ls [.int x] h = some (.inl (some (.int x)), h) := g_ri (by decide +kernel) rt157
theorem e157_98 : rf d 157 98 [l0, l1, l2, some (.ref a)] s h = rf d 157 99 [l0, l1, l2, some (.ref a)] (.ref a :: s) h := rf_pure (i := .aload_n 3) (len := 1) (okD_ok (by decide +kernel)) rfl
theorem e157_99 (ha : isN a) : rf d 157 99 ls (.ref a :: s) (SH n, I, L, R, nc, ns, nx) = rf d 157 102 ls (.int (I a 2) :: s) (SH n, I, L, R, nc, ns, nx) := g_I (idx := 201) (by decide +kernel) ow157 f_7_201 rfl (kdN0 ha) (geN ha)
theorem e157_102 : rf d 157 102 ls [.int x] h = some (.inl (some (.int x)), h) := g_ri (by decide +kernel) rt157
theorem e157_103 : rf d 157 103 [l0, l1, l2, some (.ref a)] s h = rf d 157 104 [l0, l1, l2, some (.ref a)] (.ref a :: s) h := rf_pure (i := .aload_n 3) (len := 1) (okD_ok (by decide +kernel)) rfl
theorem e157_104 (ha : isN a) : rf d 157 104 ls (.ref a :: s) (SH n, I, L, R, nc, ns, nx) = rf d 157 107 ls (.int (I a 3) :: s) (SH n, I, L, R, nc, ns, nx) := g_I (idx := 141) (by decide +kernel) ow157 f_7_141 rfl (kdN0 ha) (geN ha)
theorem e157_107 : rf d 157 107 ls [.int x] h = some (.inl (some (.int x)), h) := g_ri (by decide +kernel) rt157
theorem e157_108 : rf d 157 108 [l0, l1, l2, some (.ref a)] s h = rf d 157 109 [l0, l1, l2, some (.ref a)] (.ref a :: s) h := rf_pure (i := .aload_n 3) (len := 1) (okD_ok (by decide +kernel)) rfl
theorem e157_109 (ha : isN a) : rf d 157 109 ls (.ref a :: s) (SH n, I, L, R, nc, ns, nx) = rf d 157 112 ls (.int (I a 6) :: s) (SH n, I, L, R, nc, ns, nx) := g_I (idx := 144) (by decide +kernel) ow157 f_7_144 rfl (kdN0 ha) (geN ha)
theorem e157_112 : rf d 157 112 ls [.int x] h = some (.inl (some (.int x)), h) := g_ri (by decide +kernel) rt157
theorem e157_113 : rf d 157 113 [l0, l1, l2, some (.ref a)] s h = rf d 157 114 [l0, l1, l2, some (.ref a)] (.ref a :: s) h := rf_pure (i := .aload_n 3) (len := 1) (okD_ok (by decide +kernel)) rfl
theorem e157_114 (ha : isN a) : rf d 157 114 ls (.ref a :: s) (SH n, I, L, R, nc, ns, nx) = rf d 157 117 ls (.int (I a 7) :: s) (SH n, I, L, R, nc, ns, nx) := g_I (idx := 174) (by decide +kernel) ow157 f_7_174 rfl (kdN0 ha) (geN ha)
theorem e157_117 : rf d 157 117 ls [.int x] h = some (.inl (some (.int x)), h) := g_ri (by decide +kernel) rt157
theorem e157_118 : rf d 157 118 [l0, l1, l2, some (.ref a)] s h = rf d 157 119 [l0, l1, l2, some (.ref a)] (.ref a :: s) h := rf_pure (i := .aload_n 3) (len := 1) (okD_ok (by decide +kernel)) rfl
theorem e157_119 (ha : isN a) : rf d 157 119 ls (.ref a :: s) (SH n, I, L, R, nc, ns, nx) = rf d 157 122 ls (.int (I a 8) :: s) (SH n, I, L, R, nc, ns, nx) := g_I (idx := 179) (by decide +kernel) ow157 f_7_179 rfl (kdN0 ha) (geN ha)
theorem e157_122 : rf d 157 122 ls [.int x] h = some (.inl (some (.int x)), h) := g_ri (by decide +kernel) rt157
theorem e157_123 : rf d 157 123 [some (.ref a), l1, l2, l3] s h = rf d 157 124 [some (.ref a), l1, l2, l3] (.ref a :: s) h := rf_pure (i := .aload_n 0) (len := 1) (okD_ok (by decide +kernel)) rfl
theorem e157_124 : rf d 157 124 ls (.ref 2 :: s) (SH n, I, L, R, nc, ns, nx) = rf d 157 127 ls (ip_rf (R 2 4) :: s) (SH n, I, L, R, nc, ns, nx) := g_R (idx := 30) (by decide +kernel) ow157 f_7_30 rfl rfl (by decide) rfl
theorem e157_127 : rf d 157 127 [l0, l1, l2, some (.ref a)] s h = rf d 157 128 [l0, l1, l2, some (.ref a)] (.ref a :: s) h := rf_pure (i := .aload_n 3) (len := 1) (okD_ok (by decide +kernel)) rfl
theorem e157_128 (ha : isN a) : rf d 157 128 ls (.ref a :: s) (SH n, I, L, R, nc, ns, nx) = rf d 157 131 ls (.int (I a 4) :: s) (SH n, I, L, R, nc, ns, nx) := g_I (idx := 265) (by decide +kernel) ow157 f_7_265 rfl (kdN0 ha) (geN ha)
theorem e157_131 : rf d 157 131 [l0, l1, l2, some (.ref a)] s h = rf d 157 132 [l0, l1, l2, some (.ref a)] (.ref a :: s) h := rf_pure (i := .aload_n 3) (len := 1) (okD_ok (by decide +kernel)) rfl
theorem e157_132 (ha : isN a) : rf d 157 132 ls (.ref a :: s) (SH n, I, L, R, nc, ns, nx) = rf d 157 135 ls (.int (I a 6) :: s) (SH n, I, L, R, nc, ns, nx) := g_I (idx := 144) (by decide +kernel) ow157 f_7_144 rfl (kdN0 ha) (geN ha)
theorem e157_135 (hb : isT b) (hcat : ip_cat s ≤ 8) : rf (d + 1) 157 135 ls (.int x1 :: .int x0 :: .ref b :: s) (SH n, I, L, R, nc, ns, nx) = rf_k (d + 1) 157 135 ls s (cf d 18 [.ref b, .int x0, .int x1] (SH n, I, L, R, nc, ns, nx)) := g_cv (idx := 268) (t := 6) [.int x1, .int x0] (by decide +kernel) ow157 ms_7_268 mt_7_268 cy18_6 rfl rfl mL18 rfl (kdT0 hb) (geT hb) hcat
theorem e157_138 : rf d 157 138 ls [.int x] h = some (.inl (some (.int x)), h) := g_ri (by decide +kernel) rt157
theorem e157_139 : rf d 157 139 [l0, l1, l2, some (.ref a)] s h = rf d 157 140 [l0, l1, l2, some (.ref a)] (.ref a :: s) h := rf_pure (i := .aload_n 3) (len := 1) (okD_ok (by decide +kernel)) rfl
theorem e157_140 (ha : isN a) : rf d 157 140 ls (.ref a :: s) (SH n, I, L, R, nc, ns, nx) = rf d 157 143 ls (.int (I a 9) :: s) (SH n, I, L, R, nc, ns, nx) := g_I (idx := 282) (by decide +kernel) ow157 f_7_282 rfl (kdN0 ha) (geN ha)
theorem e157_143 : rf d 157 143 ls [.int x] h = some (.inl (some (.int x)), h) := g_ri (by decide +kernel) rt157
theorem e157_144 : rf d 157 144 [l0, l1, l2, some (.ref a)] s h = rf d 157 145 [l0, l1, l2, some (.ref a)] (.ref a :: s) h := rf_pure (i := .aload_n 3) (len := 1) (okD_ok (by decide +kernel)) rfl
theorem e157_145 (ha : isN a) : rf d 157 145 ls (.ref a :: s) (SH n, I, L, R, nc, ns, nx) = rf d 157 148 ls (.int (I a 10) :: s) (SH n, I, L, R, nc, ns, nx) := g_I (idx := 285) (by decide +kernel) ow157 f_7_285 rfl (kdN0 ha) (geN ha)
theorem e157_148 : rf d 157 148 ls [.int x] h = some (.inl (some (.int x)), h) := g_ri (by decide +kernel) rt157
theorem e157_149 : rf d 157 149 [l0, l1, l2, some (.ref a)] s h = rf d 157 150 [l0, l1, l2, some (.ref a)] (.ref a :: s) h := rf_pure (i := .aload_n 3) (len := 1) (okD_ok (by decide +kernel)) rfl
theorem e157_150 : rf d 157 150 ls s h = rf d 157 151 ls (.int 0 :: s) h := rf_pure (i := .iconst (0)) (len := 1) (okD_ok (by decide +kernel)) rfl
theorem e157_151 (hb : isN b) (hcat : ip_cat s ≤ 8) : rf (d + 1) 157 151 ls (.int x0 :: .ref b :: s) (SH n, I, L, R, nc, ns, nx) = rf_k (d + 1) 157 151 ls s (cf d 106 [.ref b, .int x0] (SH n, I, L, R, nc, ns, nx)) := g_cv (idx := 286) (t := 1) [.int x0] (by decide +kernel) ow157 ms_7_286 mt_7_286 cy106_1 rfl rfl mL106 rfl (kdN0 hb) (geN hb) hcat
theorem e157_154 : rf d 157 154 ls [.int x] h = some (.inl (some (.int x)), h) := g_ri (by decide +kernel) rt157
theorem e157_155 : rf d 157 155 [l0, l1, l2, some (.ref a)] s h = rf d 157 156 [l0, l1, l2, some (.ref a)] (.ref a :: s) h := rf_pure (i := .aload_n 3) (len := 1) (okD_ok (by decide +kernel)) rfl
theorem e157_156 : rf d 157 156 ls s h = rf d 157 157 ls (.int 1 :: s) h := rf_pure (i := .iconst (1)) (len := 1) (okD_ok (by decide +kernel)) rfl
theorem e157_157 (hb : isN b) (hcat : ip_cat s ≤ 8) : rf (d + 1) 157 157 ls (.int x0 :: .ref b :: s) (SH n, I, L, R, nc, ns, nx) = rf_k (d + 1) 157 157 ls s (cf d 106 [.ref b, .int x0] (SH n, I, L, R, nc, ns, nx)) := g_cv (idx := 286) (t := 1) [.int x0] (by decide +kernel) ow157 ms_7_286 mt_7_286 cy106_1 rfl rfl mL106 rfl (kdN0 hb) (geN hb) hcat
theorem e157_160 : rf d 157 160 ls [.int x] h = some (.inl (some (.int x)), h) := g_ri (by decide +kernel) rt157
theorem e157_161 : rf d 157 161 [l0, l1, l2, some (.ref a)] s h = rf d 157 162 [l0, l1, l2, some (.ref a)] (.ref a :: s) h := rf_pure (i := .aload_n 3) (len := 1) (okD_ok (by decide +kernel)) rfl
theorem e157_162 : rf d 157 162 ls s h = rf d 157 163 ls (.int 0 :: s) h := rf_pure (i := .iconst (0)) (len := 1) (okD_ok (by decide +kernel)) rfl
theorem e157_163 (hb : isN b) (hcat : ip_cat s ≤ 8) : rf (d + 1) 157 163 ls (.int x0 :: .ref b :: s) (SH n, I, L, R, nc, ns, nx) = rf_k (d + 1) 157 163 ls s (cf d 105 [.ref b, .int x0] (SH n, I, L, R, nc, ns, nx)) := g_cv (idx := 289) (t := 1) [.int x0] (by decide +kernel) ow157 ms_7_289 mt_7_289 cy105_1 rfl rfl mL105 rfl (kdN0 hb) (geN hb) hcat
theorem e157_166 : rf d 157 166 ls [.int x] h = some (.inl (some (.int x)), h) := g_ri (by decide +kernel) rt157
theorem e157_167 : rf d 157 167 [l0, l1, l2, some (.ref a)] s h = rf d 157 168 [l0, l1, l2, some (.ref a)] (.ref a :: s) h := rf_pure (i := .aload_n 3) (len := 1) (okD_ok (by decide +kernel)) rfl
theorem e157_168 : rf d 157 168 ls s h = rf d 157 169 ls (.int 1 :: s) h := rf_pure (i := .iconst (1)) (len := 1) (okD_ok (by decide +kernel)) rfl
theorem e157_169 (hb : isN b) (hcat : ip_cat s ≤ 8) : rf (d + 1) 157 169 ls (.int x0 :: .ref b :: s) (SH n, I, L, R, nc, ns, nx) = rf_k (d + 1) 157 169 ls s (cf d 105 [.ref b, .int x0] (SH n, I, L, R, nc, ns, nx)) := g_cv (idx := 289) (t := 1) [.int x0] (by decide +kernel) ow157 ms_7_289 mt_7_289 cy105_1 rfl rfl mL105 rfl (kdN0 hb) (geN hb) hcat
theorem e157_172 : rf d 157 172 ls [.int x] h = some (.inl (some (.int x)), h) := g_ri (by decide +kernel) rt157
theorem e157_173 : rf d 157 173 [l0, l1, l2, some (.ref a)] s h = rf d 157 174 [l0, l1, l2, some (.ref a)] (.ref a :: s) h := rf_pure (i := .aload_n 3) (len := 1) (okD_ok (by decide +kernel)) rfl
theorem e157_174 (ha : isN a) : rf d 157 174 ls (.ref a :: s) (SH n, I, L, R, nc, ns, nx) = rf d 157 177 ls (.int (I a 11) :: s) (SH n, I, L, R, nc, ns, nx) := g_I (idx := 292) (by decide +kernel) ow157 f_7_292 rfl (kdN0 ha) (geN ha)
theorem e157_177 : rf d 157 177 ls [.int x] h = some (.inl (some (.int x)), h) := g_ri (by decide +kernel) rt157
theorem e157_178 : rf d 157 178 ls [] h = some (.inr "java/util/NoSuchElementException", ip_hx h) := g_thr (idx := 112) (by decide +kernel) ow157 (by decide +kernel) (by decide +kernel)
theorem en158 : cf d 158 [.ref a0, .int x1, .int x2, .int x3, .ref a4] h = rf d 158 0 [some (.ref a0), some (.int x1), some (.int x2), some (.int x3), some (.ref a4), none] [] h := rfl
theorem e158_0 : rf d 158 0 [l0, l1, l2, l3, some (.ref a), l5] s h = rf d 158 2 [l0, l1, l2, l3, some (.ref a), l5] (.ref a :: s) h := rf_pure (i := .aload 4) (len := 2) (okD_ok (by decide +kernel)) rfl
theorem e158_2 : rf d 158 2 ls s h = rf d 158 3 ls (.int 0 :: s) h := rf_pure (i := .iconst (0)) (len := 1) (okD_ok (by decide +kernel)) rfl
theorem e158_3 : rf d 158 3 [some (.ref a), l1, l2, l3, l4, l5] s h = rf d 158 4 [some (.ref a), l1, l2, l3, l4, l5] (.ref a :: s) h := rf_pure (i := .aload_n 0) (len := 1) (okD_ok (by decide +kernel)) rfl
theorem e158_4 : rf d 158 4 [l0, some (.int x), l2, l3, l4, l5] s h = rf d 158 5 [l0, some (.int x), l2, l3, l4, l5] (.int x :: s) h := rf_pure (i := .iload_n 1) (len := 1) (okD_ok (by decide +kernel)) rfl
theorem e158_5 : rf d 158 5 [l0, l1, some (.int x), l3, l4, l5] s h = rf d 158 6 [l0, l1, some (.int x), l3, l4, l5] (.int x :: s) h := rf_pure (i := .iload_n 2) (len := 1) (okD_ok (by decide +kernel)) rfl
theorem e158_6 : rf d 158 6 [l0, l1, l2, some (.int x), l4, l5] s h = rf d 158 7 [l0, l1, l2, some (.int x), l4, l5] (.int x :: s) h := rf_pure (i := .iload_n 3) (len := 1) (okD_ok (by decide +kernel)) rfl
theorem e158_7 (hcat : ip_cat s ≤ 8) : rf (d + 1) 158 7 ls (.int x2 :: .int x1 :: .int x0 :: .ref 2 :: s) (SH n, I, L, R, nc, ns, nx) = rf_k (d + 1) 158 7 ls s (cf d 159 [.ref 2, .int x0, .int x1, .int x2] (SH n, I, L, R, nc, ns, nx)) := g_cv (idx := 84) (t := 7) [.int x2, .int x1, .int x0] (by decide +kernel) ow158 ms_9_84 mt_9_84 cy159_7 rfl rfl mL159 rfl rfl (by decide) hcat
theorem e158_10 : rf d 158 10 ls (.int x :: s) h = rf d 158 11 ls (.long x.toInt64 :: s) h := rf_pure (i := .i2l) (len := 1) (okD_ok (by decide +kernel)) rfl
theorem e158_11 (q : la n a j) : rf d 158 11 ls (.long u :: .int j :: .ref a :: s) (SH n, I, L, R, nc, ns, nx) = rf d 158 12 ls s (SH n, I, ip_up L a j.toNatClampNeg u, R, nc, ns, nx) := g_las (by decide +kernel) q
theorem e158_12 : rf d 158 12 ls s h = rf d 158 23 ls s h := rf_goto ⟨okD_ok (i := .goto (11)) (len := 3) (by decide +kernel), rfl⟩
theorem e158_23 : rf d 158 23 ls s h = rf d 158 24 ls (.int 0 :: s) h := rf_pure (i := .iconst (0)) (len := 1) (okD_ok (by decide +kernel)) rfl
theorem e158_24 : rf d 158 24 ls [.int x] h = some (.inl (some (.int x)), h) := g_ri (by decide +kernel) rt158
theorem en159 : cf d 159 [.ref a, .int x0, .int x1, .int x2] h = rf d 159 0 [some (.ref a), some (.int x0), some (.int x1), some (.int x2), none] [] h := rfl
theorem e159_0 : rf d 159 0 [some (.ref a), l1, l2, l3, l4] s h = rf d 159 1 [some (.ref a), l1, l2, l3, l4] (.ref a :: s) h := rf_pure (i := .aload_n 0) (len := 1) (okD_ok (by decide +kernel)) rfl
theorem e159_1 : rf d 159 1 [l0, some (.int x), l2, l3, l4] s h = rf d 159 2 [l0, some (.int x), l2, l3, l4] (.int x :: s) h := rf_pure (i := .iload_n 1) (len := 1) (okD_ok (by decide +kernel)) rfl
theorem e159_2 (hcat : ip_cat s ≤ 8) : rf (d + 1) 159 2 ls (.int x0 :: .ref 2 :: s) (SH n, I, L, R, nc, ns, nx) = rf_k (d + 1) 159 2 ls s (cf d 124 [.ref 2, .int x0] (SH n, I, L, R, nc, ns, nx)) := g_cv (idx := 210) (t := 7) [.int x0] (by decide +kernel) ow159 ms_7_210 mt_7_210 cy124_7 rfl rfl mL124 rfl rfl (by decide) hcat
theorem e159_5 : rf d 159 5 [some (.ref a), l1, l2, l3, l4] s h = rf d 159 6 [some (.ref a), l1, l2, l3, l4] (.ref a :: s) h := rf_pure (i := .aload_n 0) (len := 1) (okD_ok (by decide +kernel)) rfl
theorem e159_6 : rf d 159 6 [l0, l1, some (.int x), l3, l4] s h = rf d 159 7 [l0, l1, some (.int x), l3, l4] (.int x :: s) h := rf_pure (i := .iload_n 2) (len := 1) (okD_ok (by decide +kernel)) rfl
theorem e159_7 (hcat : ip_cat s ≤ 8) : rf (d + 1) 159 7 ls (.int x0 :: .ref 2 :: s) (SH n, I, L, R, nc, ns, nx) = rf_k (d + 1) 159 7 ls s (cf d 75 [.ref 2, .int x0] (SH n, I, L, R, nc, ns, nx)) := g_cv (idx := 100) (t := 7) [.int x0] (by decide +kernel) ow159 ms_7_100 mt_7_100 cy75_7 rfl rfl mL75 rfl rfl (by decide) hcat
theorem e159_10 : rf d 159 10 [l0, l1, l2, some (.int x), l4] s h = rf d 159 11 [l0, l1, l2, some (.int x), l4] (.int x :: s) h := rf_pure (i := .iload_n 3) (len := 1) (okD_ok (by decide +kernel)) rfl
theorem e159_11 : rf d 159 11 ls (.int x :: s) h = if x < 0 then rf d 159 19 ls s h else rf d 159 14 ls s h := g_if (c := .lt) (off := 8) _ (by decide +kernel) rfl cmp_d
theorem e159_14 : rf d 159 14 [l0, l1, l2, some (.int x), l4] s h = rf d 159 15 [l0, l1, l2, some (.int x), l4] (.int x :: s) h := rf_pure (i := .iload_n 3) (len := 1) (okD_ok (by decide +kernel)) rfl
theorem e159_15 : rf d 159 15 ls s h = rf d 159 16 ls (.int 3 :: s) h := rf_pure (i := .iconst (3)) (len := 1) (okD_ok (by decide +kernel)) rfl
theorem e159_16 : rf d 159 16 ls (.int y :: .int x :: s) h = if x ≤ y then rf d 159 29 ls s h else rf d 159 19 ls s h := g_ic (c := .le) (off := 13) _ (by decide +kernel) rfl cmp_d
theorem e159_19 : rf d 159 19 ls [] h = some (.inr "java/util/NoSuchElementException", ip_hx h) := g_thr (idx := 112) (by decide +kernel) ow159 (by decide +kernel) (by decide +kernel)
theorem e159_29 : rf d 159 29 [some (.ref a), l1, l2, l3, l4] s h = rf d 159 30 [some (.ref a), l1, l2, l3, l4] (.ref a :: s) h := rf_pure (i := .aload_n 0) (len := 1) (okD_ok (by decide +kernel)) rfl
theorem e159_30 (hR : LYR R) : rf d 159 30 ls (.ref 2 :: s) (SH n, I, L, R, nc, ns, nx) = rf d 159 33 ls (.ref 23 :: s) (SH n, I, L, R, nc, ns, nx) := g_R (idx := 36) (by decide +kernel) ow159 f_7_36 rfl rfl (by decide) (ly_2_5 hR)
theorem e159_33 : rf d 159 33 [l0, some (.int x), l2, l3, l4] s h = rf d 159 34 [l0, some (.int x), l2, l3, l4] (.int x :: s) h := rf_pure (i := .iload_n 1) (len := 1) (okD_ok (by decide +kernel)) rfl
theorem e159_34 (hR : LYR R) (q : inb j 40) : rf d 159 34 ls (.int j :: .ref 23 :: s) (SH n, I, L, R, nc, ns, nx) = rf d 159 35 ls (.ref (nd j) :: s) (SH n, I, L, R, nc, ns, nx) := g_aal (by decide +kernel) hR q
theorem e159_35 (hn : ip_nl l3 = true) : rf d 159 35 [l0, l1, l2, l3, l4] (.ref a :: s) h = rf d 159 37 [l0, l1, l2, l3, some (.ref a)] s h := g_sta (i := .astore 4) (len := 2) (q := 3) (p := 2) (by decide +kernel) rfl rfl hn
theorem e159_37 : rf d 159 37 [l0, l1, l2, l3, some (.ref a)] s h = rf d 159 39 [l0, l1, l2, l3, some (.ref a)] (.ref a :: s) h := rf_pure (i := .aload 4) (len := 2) (okD_ok (by decide +kernel)) rfl
theorem e159_39 (ha : isN a) : rf d 159 39 ls (.ref a :: s) (SH n, I, L, R, nc, ns, nx) = rf d 159 42 ls (.int (I a 6) :: s) (SH n, I, L, R, nc, ns, nx) := g_I (idx := 144) (by decide +kernel) ow159 f_7_144 rfl (kdN0 ha) (geN ha)
theorem e159_42 : rf d 159 42 ls s h = rf d 159 43 ls (.int 1 :: s) h := rf_pure (i := .iconst (1)) (len := 1) (okD_ok (by decide +kernel)) rfl
theorem e159_43 : rf d 159 43 [l0, l1, some (.int x), l3, l4] s h = rf d 159 44 [l0, l1, some (.int x), l3, l4] (.int x :: s) h := rf_pure (i := .iload_n 2) (len := 1) (okD_ok (by decide +kernel)) rfl
theorem e159_44 : rf d 159 44 ls (.int y :: .int x :: s) h = rf d 159 45 ls (.int (x <<< (y &&& 31)) :: s) h := rf_pure (i := .ishl) (len := 1) (okD_ok (by decide +kernel)) rfl
theorem e159_45 : rf d 159 45 ls (.int y :: .int x :: s) h = rf d 159 46 ls (.int (x &&& y) :: s) h := rf_pure (i := .iand) (len := 1) (okD_ok (by decide +kernel)) rfl
theorem e159_46 : rf d 159 46 ls (.int x :: s) h = if x = 0 then rf d 159 51 ls s h else rf d 159 49 ls s h := g_if (c := .eq) (off := 5) _ (by decide +kernel) rfl cmp_d
theorem e159_49 : rf d 159 49 ls s h = rf d 159 50 ls (.int (-1) :: s) h := rf_pure (i := .iconst (-1)) (len := 1) (okD_ok (by decide +kernel)) rfl
theorem e159_50 : rf d 159 50 ls [.int x] h = some (.inl (some (.int x)), h) := g_ri (by decide +kernel) rt159
theorem e159_51 : rf d 159 51 [l0, l1, l2, some (.int x), l4] s h = rf d 159 52 [l0, l1, l2, some (.int x), l4] (.int x :: s) h := rf_pure (i := .iload_n 3) (len := 1) (okD_ok (by decide +kernel)) rfl
theorem e159_80 : rf d 159 80 [l0, l1, l2, l3, some (.ref a)] s h = rf d 159 82 [l0, l1, l2, l3, some (.ref a)] (.ref a :: s) h := rf_pure (i := .aload 4) (len := 2) (okD_ok (by decide +kernel)) rfl
theorem e159_82 : rf d 159 82 [l0, l1, some (.int x), l3, l4] s h = rf d 159 83 [l0, l1, some (.int x), l3, l4] (.int x :: s) h := rf_pure (i := .iload_n 2) (len := 1) (okD_ok (by decide +kernel)) rfl
theorem e159_83 (hb : isN b) (hcat : ip_cat s ≤ 8) : rf (d + 1) 159 83 ls (.int x0 :: .ref b :: s) (SH n, I, L, R, nc, ns, nx) = rf_k (d + 1) 159 83 ls s (cf d 117 [.ref b, .int x0] (SH n, I, L, R, nc, ns, nx)) := g_cv (idx := 295) (t := 1) [.int x0] (by decide +kernel) ow159 ms_7_295 mt_7_295 cy117_1 rfl rfl mL117 rfl (kdN0 hb) (geN hb) hcat
theorem e159_86 : rf d 159 86 ls [.int x] h = some (.inl (some (.int x)), h) := g_ri (by decide +kernel) rt159
theorem e159_87 : rf d 159 87 [l0, l1, l2, l3, some (.ref a)] s h = rf d 159 89 [l0, l1, l2, l3, some (.ref a)] (.ref a :: s) h := rf_pure (i := .aload 4) (len := 2) (okD_ok (by decide +kernel)) rfl
theorem e159_89 (hR : LYR R) (ha : isN a) : rf d 159 89 ls (.ref a :: s) (SH n, I, L, R, nc, ns, nx) = rf d 159 92 ls (.ref (a + 3) :: s) (SH n, I, L, R, nc, ns, nx) := g_R (idx := 298) (by decide +kernel) ow159 f_7_298 rfl (kdN0 ha) (geN ha) (lyN14 hR ha)
theorem e159_92 : rf d 159 92 [l0, l1, some (.int x), l3, l4] s h = rf d 159 93 [l0, l1, some (.int x), l3, l4] (.int x :: s) h := rf_pure (i := .iload_n 2) (len := 1) (okD_ok (by decide +kernel)) rfl
theorem e159_93 (q : ia n a j) : rf d 159 93 ls (.int j :: .ref a :: s) (SH n, I, L, R, nc, ns, nx) = rf d 159 94 ls (.int (I a j.toNatClampNeg) :: s) (SH n, I, L, R, nc, ns, nx) := g_ial (by decide +kernel) q
theorem e159_94 : rf d 159 94 ls [.int x] h = some (.inl (some (.int x)), h) := g_ri (by decide +kernel) rt159
theorem e159_95 : rf d 159 95 [some (.ref a), l1, l2, l3, l4] s h = rf d 159 96 [some (.ref a), l1, l2, l3, l4] (.ref a :: s) h := rf_pure (i := .aload_n 0) (len := 1) (okD_ok (by decide +kernel)) rfl
theorem e159_96 (hR : LYR R) : rf d 159 96 ls (.ref 2 :: s) (SH n, I, L, R, nc, ns, nx) = rf d 159 99 ls (.ref 23 :: s) (SH n, I, L, R, nc, ns, nx) := g_R (idx := 36) (by decide +kernel) ow159 f_7_36 rfl rfl (by decide) (ly_2_5 hR)
theorem e159_99 : rf d 159 99 [l0, l1, l2, l3, some (.ref a)] s h = rf d 159 101 [l0, l1, l2, l3, some (.ref a)] (.ref a :: s) h := rf_pure (i := .aload 4) (len := 2) (okD_ok (by decide +kernel)) rfl
theorem e159_101 (hR : LYR R) (ha : isN a) : rf d 159 101 ls (.ref a :: s) (SH n, I, L, R, nc, ns, nx) = rf d 159 104 ls (.ref (a + 4) :: s) (SH n, I, L, R, nc, ns, nx) := g_R (idx := 301) (by decide +kernel) ow159 f_7_301 rfl (kdN0 ha) (geN ha) (lyN15 hR ha)
theorem e159_104 : rf d 159 104 [l0, l1, some (.int x), l3, l4] s h = rf d 159 105 [l0, l1, some (.int x), l3, l4] (.int x :: s) h := rf_pure (i := .iload_n 2) (len := 1) (okD_ok (by decide +kernel)) rfl
theorem e159_105 (q : ia n a j) : rf d 159 105 ls (.int j :: .ref a :: s) (SH n, I, L, R, nc, ns, nx) = rf d 159 106 ls (.int (I a j.toNatClampNeg) :: s) (SH n, I, L, R, nc, ns, nx) := g_ial (by decide +kernel) q
theorem e159_106 (hR : LYR R) (q : inb j 40) : rf d 159 106 ls (.int j :: .ref 23 :: s) (SH n, I, L, R, nc, ns, nx) = rf d 159 107 ls (.ref (nd j) :: s) (SH n, I, L, R, nc, ns, nx) := g_aal (by decide +kernel) hR q
theorem e159_107 (ha : isN a) : rf d 159 107 ls (.ref a :: s) (SH n, I, L, R, nc, ns, nx) = rf d 159 110 ls (.int (I a 0) :: s) (SH n, I, L, R, nc, ns, nx) := g_I (idx := 138) (by decide +kernel) ow159 f_7_138 rfl (kdN0 ha) (geN ha)
theorem e159_110 : rf d 159 110 ls [.int x] h = some (.inl (some (.int x)), h) := g_ri (by decide +kernel) rt159
theorem e159_111 : rf d 159 111 [l0, l1, l2, l3, some (.ref a)] s h = rf d 159 113 [l0, l1, l2, l3, some (.ref a)] (.ref a :: s) h := rf_pure (i := .aload 4) (len := 2) (okD_ok (by decide +kernel)) rfl
theorem e159_113 (hR : LYR R) (ha : isN a) : rf d 159 113 ls (.ref a :: s) (SH n, I, L, R, nc, ns, nx) = rf d 159 116 ls (.ref (a + 4) :: s) (SH n, I, L, R, nc, ns, nx) := g_R (idx := 301) (by decide +kernel) ow159 f_7_301 rfl (kdN0 ha) (geN ha) (lyN15 hR ha)
theorem e159_116 : rf d 159 116 [l0, l1, some (.int x), l3, l4] s h = rf d 159 117 [l0, l1, some (.int x), l3, l4] (.int x :: s) h := rf_pure (i := .iload_n 2) (len := 1) (okD_ok (by decide +kernel)) rfl
theorem e159_117 (q : ia n a j) : rf d 159 117 ls (.int j :: .ref a :: s) (SH n, I, L, R, nc, ns, nx) = rf d 159 118 ls (.int (I a j.toNatClampNeg) :: s) (SH n, I, L, R, nc, ns, nx) := g_ial (by decide +kernel) q
theorem e159_118 : rf d 159 118 ls [.int x] h = some (.inl (some (.int x)), h) := g_ri (by decide +kernel) rt159
theorem en160 : cf d 160 [.ref a0, .int x1, .int x2, .int x3, .ref a4] h = rf d 160 0 [some (.ref a0), some (.int x1), some (.int x2), some (.int x3), some (.ref a4), none] [] h := rfl
theorem e160_0 : rf d 160 0 [l0, l1, l2, l3, some (.ref a), l5] s h = rf d 160 2 [l0, l1, l2, l3, some (.ref a), l5] (.ref a :: s) h := rf_pure (i := .aload 4) (len := 2) (okD_ok (by decide +kernel)) rfl
theorem e160_2 : rf d 160 2 ls s h = rf d 160 3 ls (.int 0 :: s) h := rf_pure (i := .iconst (0)) (len := 1) (okD_ok (by decide +kernel)) rfl
theorem e160_3 : rf d 160 3 [some (.ref a), l1, l2, l3, l4, l5] s h = rf d 160 4 [some (.ref a), l1, l2, l3, l4, l5] (.ref a :: s) h := rf_pure (i := .aload_n 0) (len := 1) (okD_ok (by decide +kernel)) rfl
theorem e160_4 : rf d 160 4 [l0, some (.int x), l2, l3, l4, l5] s h = rf d 160 5 [l0, some (.int x), l2, l3, l4, l5] (.int x :: s) h := rf_pure (i := .iload_n 1) (len := 1) (okD_ok (by decide +kernel)) rfl
theorem e160_5 : rf d 160 5 [l0, l1, some (.int x), l3, l4, l5] s h = rf d 160 6 [l0, l1, some (.int x), l3, l4, l5] (.int x :: s) h := rf_pure (i := .iload_n 2) (len := 1) (okD_ok (by decide +kernel)) rfl
theorem e160_6 : rf d 160 6 [l0, l1, l2, some (.int x), l4, l5] s h = rf d 160 7 [l0, l1, l2, some (.int x), l4, l5] (.int x :: s) h := rf_pure (i := .iload_n 3) (len := 1) (okD_ok (by decide +kernel)) rfl
theorem e160_7 (hcat : ip_cat s ≤ 8) : rf (d + 1) 160 7 ls (.int x2 :: .int x1 :: .int x0 :: .ref 2 :: s) (SH n, I, L, R, nc, ns, nx) = rf_k (d + 1) 160 7 ls s (cf d 161 [.ref 2, .int x0, .int x1, .int x2] (SH n, I, L, R, nc, ns, nx)) := g_cv (idx := 87) (t := 7) [.int x2, .int x1, .int x0] (by decide +kernel) ow160 ms_9_87 mt_9_87 cy161_7 rfl rfl mL161 rfl rfl (by decide) hcat
theorem e160_10 : rf d 160 10 ls (.int x :: s) h = rf d 160 11 ls (.long x.toInt64 :: s) h := rf_pure (i := .i2l) (len := 1) (okD_ok (by decide +kernel)) rfl
theorem e160_11 (q : la n a j) : rf d 160 11 ls (.long u :: .int j :: .ref a :: s) (SH n, I, L, R, nc, ns, nx) = rf d 160 12 ls s (SH n, I, ip_up L a j.toNatClampNeg u, R, nc, ns, nx) := g_las (by decide +kernel) q
theorem e160_12 : rf d 160 12 ls s h = rf d 160 23 ls s h := rf_goto ⟨okD_ok (i := .goto (11)) (len := 3) (by decide +kernel), rfl⟩
theorem e160_23 : rf d 160 23 ls s h = rf d 160 24 ls (.int 0 :: s) h := rf_pure (i := .iconst (0)) (len := 1) (okD_ok (by decide +kernel)) rfl
theorem e160_24 : rf d 160 24 ls [.int x] h = some (.inl (some (.int x)), h) := g_ri (by decide +kernel) rt160
theorem en161 : cf d 161 [.ref a, .int x0, .int x1, .int x2] h = rf d 161 0 [some (.ref a), some (.int x0), some (.int x1), some (.int x2), none, none, none, none] [] h := rfl
theorem e161_0 : rf d 161 0 [some (.ref a), l1, l2, l3, l4, l5, l6, l7] s h = rf d 161 1 [some (.ref a), l1, l2, l3, l4, l5, l6, l7] (.ref a :: s) h := rf_pure (i := .aload_n 0) (len := 1) (okD_ok (by decide +kernel)) rfl
theorem e161_1 : rf d 161 1 [l0, some (.int x), l2, l3, l4, l5, l6, l7] s h = rf d 161 2 [l0, some (.int x), l2, l3, l4, l5, l6, l7] (.int x :: s) h := rf_pure (i := .iload_n 1) (len := 1) (okD_ok (by decide +kernel)) rfl
theorem e161_2 (hcat : ip_cat s ≤ 8) : rf (d + 1) 161 2 ls (.int x0 :: .ref 2 :: s) (SH n, I, L, R, nc, ns, nx) = rf_k (d + 1) 161 2 ls s (cf d 124 [.ref 2, .int x0] (SH n, I, L, R, nc, ns, nx)) := g_cv (idx := 210) (t := 7) [.int x0] (by decide +kernel) ow161 ms_7_210 mt_7_210 cy124_7 rfl rfl mL124 rfl rfl (by decide) hcat
theorem e161_5 : rf d 161 5 [some (.ref a), l1, l2, l3, l4, l5, l6, l7] s h = rf d 161 6 [some (.ref a), l1, l2, l3, l4, l5, l6, l7] (.ref a :: s) h := rf_pure (i := .aload_n 0) (len := 1) (okD_ok (by decide +kernel)) rfl
theorem e161_6 : rf d 161 6 [l0, l1, some (.int x), l3, l4, l5, l6, l7] s h = rf d 161 7 [l0, l1, some (.int x), l3, l4, l5, l6, l7] (.int x :: s) h := rf_pure (i := .iload_n 2) (len := 1) (okD_ok (by decide +kernel)) rfl
theorem e161_7 (hcat : ip_cat s ≤ 8) : rf (d + 1) 161 7 ls (.int x0 :: .ref 2 :: s) (SH n, I, L, R, nc, ns, nx) = rf_k (d + 1) 161 7 ls s (cf d 75 [.ref 2, .int x0] (SH n, I, L, R, nc, ns, nx)) := g_cv (idx := 100) (t := 7) [.int x0] (by decide +kernel) ow161 ms_7_100 mt_7_100 cy75_7 rfl rfl mL75 rfl rfl (by decide) hcat
theorem e161_10 : rf d 161 10 [l0, l1, l2, some (.int x), l4, l5, l6, l7] s h = rf d 161 11 [l0, l1, l2, some (.int x), l4, l5, l6, l7] (.int x :: s) h := rf_pure (i := .iload_n 3) (len := 1) (okD_ok (by decide +kernel)) rfl
theorem e161_11 : rf d 161 11 ls (.int x :: s) h = if x < 0 then rf d 161 19 ls s h else rf d 161 14 ls s h := g_if (c := .lt) (off := 8) _ (by decide +kernel) rfl cmp_d
theorem e161_14 : rf d 161 14 [l0, l1, l2, some (.int x), l4, l5, l6, l7] s h = rf d 161 15 [l0, l1, l2, some (.int x), l4, l5, l6, l7] (.int x :: s) h := rf_pure (i := .iload_n 3) (len := 1) (okD_ok (by decide +kernel)) rfl
theorem e161_15 : rf d 161 15 ls s h = rf d 161 16 ls (.int 2 :: s) h := rf_pure (i := .iconst (2)) (len := 1) (okD_ok (by decide +kernel)) rfl
theorem e161_16 : rf d 161 16 ls (.int y :: .int x :: s) h = if x ≤ y then rf d 161 30 ls s h else rf d 161 19 ls s h := g_ic (c := .le) (off := 14) _ (by decide +kernel) rfl cmp_d
theorem e161_19 : rf d 161 19 ls [] h = some (.inr "java/util/NoSuchElementException", ip_hx h) := g_thr (idx := 112) (by decide +kernel) ow161 (by decide +kernel) (by decide +kernel)
theorem e161_30 : rf d 161 30 ls s h = rf d 161 31 ls (.int 0 :: s) h := rf_pure (i := .iconst (0)) (len := 1) (okD_ok (by decide +kernel)) rfl
theorem e161_31 (hn : ip_nl l3 = true) : rf d 161 31 [l0, l1, l2, l3, l4, l5, l6, l7] (.int x :: s) h = rf d 161 33 [l0, l1, l2, l3, some (.int x), l5, l6, l7] s h := g_sti (i := .istore 4) (len := 2) (q := 3) (p := 2) (by decide +kernel) rfl rfl hn
theorem e161_33 : rf d 161 33 [l0, some (.int x), l2, l3, l4, l5, l6, l7] s h = rf d 161 34 [l0, some (.int x), l2, l3, l4, l5, l6, l7] (.int x :: s) h := rf_pure (i := .iload_n 1) (len := 1) (okD_ok (by decide +kernel)) rfl
theorem e161_34 (hn : ip_nl l4 = true) : rf d 161 34 [l0, l1, l2, l3, l4, l5, l6, l7] (.int x :: s) h = rf d 161 36 [l0, l1, l2, l3, l4, some (.int x), l6, l7] s h := g_sti (i := .istore 5) (len := 2) (q := 4) (p := 2) (by decide +kernel) rfl rfl hn
theorem e161_36 : rf d 161 36 ls s h = rf d 161 37 ls (.int 0 :: s) h := rf_pure (i := .iconst (0)) (len := 1) (okD_ok (by decide +kernel)) rfl
theorem e161_37 (hn : ip_nl l5 = true) : rf d 161 37 [l0, l1, l2, l3, l4, l5, l6, l7] (.int x :: s) h = rf d 161 39 [l0, l1, l2, l3, l4, l5, some (.int x), l7] s h := g_sti (i := .istore 6) (len := 2) (q := 5) (p := 2) (by decide +kernel) rfl rfl hn
theorem e161_39 : rf d 161 39 [l0, l1, l2, l3, l4, l5, some (.int x), l7] s h = rf d 161 41 [l0, l1, l2, l3, l4, l5, some (.int x), l7] (.int x :: s) h := rf_pure (i := .iload 6) (len := 2) (okD_ok (by decide +kernel)) rfl
theorem e161_41 : rf d 161 41 ls s h = rf d 161 43 ls (.int 40 :: s) h := rf_pure (i := .bipush (40)) (len := 2) (okD_ok (by decide +kernel)) rfl
theorem e161_43 : rf d 161 43 ls (.int y :: .int x :: s) h = if y ≤ x then rf d 161 98 ls s h else rf d 161 46 ls s h := g_ic (c := .ge) (off := 55) _ (by decide +kernel) rfl cmp_d
theorem e161_46 : rf d 161 46 [l0, l1, l2, l3, l4, some (.int x), l6, l7] s h = rf d 161 48 [l0, l1, l2, l3, l4, some (.int x), l6, l7] (.int x :: s) h := rf_pure (i := .iload 5) (len := 2) (okD_ok (by decide +kernel)) rfl
theorem e161_48 : rf d 161 48 ls s h = rf d 161 49 ls (.int (-1) :: s) h := rf_pure (i := .iconst (-1)) (len := 1) (okD_ok (by decide +kernel)) rfl
theorem e161_49 : rf d 161 49 ls (.int y :: .int x :: s) h = if x = y then rf d 161 98 ls s h else rf d 161 52 ls s h := g_ic (c := .eq) (off := 49) _ (by decide +kernel) rfl cmp_d
theorem e161_52 : rf d 161 52 [some (.ref a), l1, l2, l3, l4, l5, l6, l7] s h = rf d 161 53 [some (.ref a), l1, l2, l3, l4, l5, l6, l7] (.ref a :: s) h := rf_pure (i := .aload_n 0) (len := 1) (okD_ok (by decide +kernel)) rfl
theorem e161_53 (hR : LYR R) : rf d 161 53 ls (.ref 2 :: s) (SH n, I, L, R, nc, ns, nx) = rf d 161 56 ls (.ref 23 :: s) (SH n, I, L, R, nc, ns, nx) := g_R (idx := 36) (by decide +kernel) ow161 f_7_36 rfl rfl (by decide) (ly_2_5 hR)
theorem e161_56 : rf d 161 56 [l0, l1, l2, l3, l4, some (.int x), l6, l7] s h = rf d 161 58 [l0, l1, l2, l3, l4, some (.int x), l6, l7] (.int x :: s) h := rf_pure (i := .iload 5) (len := 2) (okD_ok (by decide +kernel)) rfl
theorem e161_58 (hR : LYR R) (q : inb j 40) : rf d 161 58 ls (.int j :: .ref 23 :: s) (SH n, I, L, R, nc, ns, nx) = rf d 161 59 ls (.ref (nd j) :: s) (SH n, I, L, R, nc, ns, nx) := g_aal (by decide +kernel) hR q
theorem e161_59 (hn : ip_nl l6 = true) : rf d 161 59 [l0, l1, l2, l3, l4, l5, l6, l7] (.ref a :: s) h = rf d 161 61 [l0, l1, l2, l3, l4, l5, l6, some (.ref a)] s h := g_sta (i := .astore 7) (len := 2) (q := 6) (p := 2) (by decide +kernel) rfl rfl hn
theorem e161_61 : rf d 161 61 [l0, l1, l2, l3, l4, l5, l6, some (.ref a)] s h = rf d 161 63 [l0, l1, l2, l3, l4, l5, l6, some (.ref a)] (.ref a :: s) h := rf_pure (i := .aload 7) (len := 2) (okD_ok (by decide +kernel)) rfl
theorem e161_63 (ha : isN a) : rf d 161 63 ls (.ref a :: s) (SH n, I, L, R, nc, ns, nx) = rf d 161 66 ls (.int (I a 0) :: s) (SH n, I, L, R, nc, ns, nx) := g_I (idx := 138) (by decide +kernel) ow161 f_7_138 rfl (kdN0 ha) (geN ha)
theorem e161_66 : rf d 161 66 [l0, l1, l2, some (.int x), l4, l5, l6, l7] s h = rf d 161 67 [l0, l1, l2, some (.int x), l4, l5, l6, l7] (.int x :: s) h := rf_pure (i := .iload_n 3) (len := 1) (okD_ok (by decide +kernel)) rfl
theorem e161_67 : rf d 161 67 ls (.int y :: .int x :: s) h = if ¬ x = y then rf d 161 85 ls s h else rf d 161 70 ls s h := g_ic (c := .ne) (off := 18) _ (by decide +kernel) rfl cmp_d
theorem e161_70 : rf d 161 70 [l0, l1, l2, l3, l4, l5, l6, some (.ref a)] s h = rf d 161 72 [l0, l1, l2, l3, l4, l5, l6, some (.ref a)] (.ref a :: s) h := rf_pure (i := .aload 7) (len := 2) (okD_ok (by decide +kernel)) rfl
theorem e161_72 (hb : isN b) (hcat : ip_cat s ≤ 8) : rf (d + 1) 161 72 ls (.ref b :: s) (SH n, I, L, R, nc, ns, nx) = rf_k (d + 1) 161 72 ls s (cf d 91 [.ref b] (SH n, I, L, R, nc, ns, nx)) := g_cv (idx := 162) (t := 1) [] (by decide +kernel) ow161 ms_7_162 mt_7_162 cy91_1 rfl rfl mL91 rfl (kdN0 hb) (geN hb) hcat
theorem e161_75 : rf d 161 75 ls s h = rf d 161 76 ls (.int 1 :: s) h := rf_pure (i := .iconst (1)) (len := 1) (okD_ok (by decide +kernel)) rfl
theorem e161_76 : rf d 161 76 [l0, l1, some (.int x), l3, l4, l5, l6, l7] s h = rf d 161 77 [l0, l1, some (.int x), l3, l4, l5, l6, l7] (.int x :: s) h := rf_pure (i := .iload_n 2) (len := 1) (okD_ok (by decide +kernel)) rfl
theorem e161_77 : rf d 161 77 ls (.int y :: .int x :: s) h = rf d 161 78 ls (.int (x <<< (y &&& 31)) :: s) h := rf_pure (i := .ishl) (len := 1) (okD_ok (by decide +kernel)) rfl
theorem e161_78 : rf d 161 78 ls (.int y :: .int x :: s) h = rf d 161 79 ls (.int (x &&& y) :: s) h := rf_pure (i := .iand) (len := 1) (okD_ok (by decide +kernel)) rfl
theorem e161_79 : rf d 161 79 ls (.int x :: s) h = if x = 0 then rf d 161 85 ls s h else rf d 161 82 ls s h := g_if (c := .eq) (off := 6) _ (by decide +kernel) rfl cmp_d
theorem e161_82 (hn : ip_nl l3 = true) : rf d 161 82 [l0, l1, l2, l3, some (.int x), l5, l6, l7] s h = rf d 161 85 [l0, l1, l2, l3, some (.int (x + 1)), l5, l6, l7] s h := g_inc (q := 3) (z := 1) (w := 1) (x := x) (by decide) (by decide +kernel) rfl rfl hn
theorem e161_85 : rf d 161 85 [l0, l1, l2, l3, l4, l5, l6, some (.ref a)] s h = rf d 161 87 [l0, l1, l2, l3, l4, l5, l6, some (.ref a)] (.ref a :: s) h := rf_pure (i := .aload 7) (len := 2) (okD_ok (by decide +kernel)) rfl
theorem e161_87 (ha : isN a) : rf d 161 87 ls (.ref a :: s) (SH n, I, L, R, nc, ns, nx) = rf d 161 90 ls (.int (I a 1) :: s) (SH n, I, L, R, nc, ns, nx) := g_I (idx := 279) (by decide +kernel) ow161 f_7_279 rfl (kdN0 ha) (geN ha)
theorem e161_90 (hn : ip_nl l4 = true) : rf d 161 90 [l0, l1, l2, l3, l4, l5, l6, l7] (.int x :: s) h = rf d 161 92 [l0, l1, l2, l3, l4, some (.int x), l6, l7] s h := g_sti (i := .istore 5) (len := 2) (q := 4) (p := 2) (by decide +kernel) rfl rfl hn
theorem e161_92 (hn : ip_nl l5 = true) : rf d 161 92 [l0, l1, l2, l3, l4, l5, some (.int x), l7] s h = rf d 161 95 [l0, l1, l2, l3, l4, l5, some (.int (x + 1)), l7] s h := g_inc (q := 5) (z := 1) (w := 1) (x := x) (by decide) (by decide +kernel) rfl rfl hn
theorem e161_95 : rf d 161 95 ls s h = rf d 161 39 ls s h := rf_goto ⟨okD_ok (i := .goto (-56)) (len := 3) (by decide +kernel), rfl⟩
theorem e161_98 : rf d 161 98 [l0, l1, l2, l3, some (.int x), l5, l6, l7] s h = rf d 161 100 [l0, l1, l2, l3, some (.int x), l5, l6, l7] (.int x :: s) h := rf_pure (i := .iload 4) (len := 2) (okD_ok (by decide +kernel)) rfl
theorem e161_100 : rf d 161 100 ls [.int x] h = some (.inl (some (.int x)), h) := g_ri (by decide +kernel) rt161
theorem en162 : cf d 162 [.ref a0, .int x1, .ref a2] h = rf d 162 0 [some (.ref a0), some (.int x1), some (.ref a2), none] [] h := rfl
theorem e162_0 : rf d 162 0 [l0, l1, some (.ref a), l3] s h = rf d 162 1 [l0, l1, some (.ref a), l3] (.ref a :: s) h := rf_pure (i := .aload_n 2) (len := 1) (okD_ok (by decide +kernel)) rfl
theorem e162_1 : rf d 162 1 ls s h = rf d 162 2 ls (.int 0 :: s) h := rf_pure (i := .iconst (0)) (len := 1) (okD_ok (by decide +kernel)) rfl
theorem e162_2 : rf d 162 2 [some (.ref a), l1, l2, l3] s h = rf d 162 3 [some (.ref a), l1, l2, l3] (.ref a :: s) h := rf_pure (i := .aload_n 0) (len := 1) (okD_ok (by decide +kernel)) rfl
theorem e162_3 : rf d 162 3 [l0, some (.int x), l2, l3] s h = rf d 162 4 [l0, some (.int x), l2, l3] (.int x :: s) h := rf_pure (i := .iload_n 1) (len := 1) (okD_ok (by decide +kernel)) rfl
theorem e162_4 (hcat : ip_cat s ≤ 8) : rf (d + 1) 162 4 ls (.int x0 :: .ref 2 :: s) (SH n, I, L, R, nc, ns, nx) = rf_k (d + 1) 162 4 ls s (cf d 163 [.ref 2, .int x0] (SH n, I, L, R, nc, ns, nx)) := g_cv (idx := 90) (t := 7) [.int x0] (by decide +kernel) ow162 ms_9_90 mt_9_90 cy163_7 rfl rfl mL163 rfl rfl (by decide) hcat
theorem e162_7 : rf d 162 7 ls (.int x :: s) h = rf d 162 8 ls (.long x.toInt64 :: s) h := rf_pure (i := .i2l) (len := 1) (okD_ok (by decide +kernel)) rfl
theorem e162_8 (q : la n a j) : rf d 162 8 ls (.long u :: .int j :: .ref a :: s) (SH n, I, L, R, nc, ns, nx) = rf d 162 9 ls s (SH n, I, ip_up L a j.toNatClampNeg u, R, nc, ns, nx) := g_las (by decide +kernel) q
theorem e162_9 : rf d 162 9 ls s h = rf d 162 15 ls s h := rf_goto ⟨okD_ok (i := .goto (6)) (len := 3) (by decide +kernel), rfl⟩
theorem e162_15 : rf d 162 15 ls s h = rf d 162 16 ls (.int 0 :: s) h := rf_pure (i := .iconst (0)) (len := 1) (okD_ok (by decide +kernel)) rfl
theorem e162_16 : rf d 162 16 ls [.int x] h = some (.inl (some (.int x)), h) := g_ri (by decide +kernel) rt162
theorem en163 : cf d 163 [.ref a, .int x0] h = rf d 163 0 [some (.ref a), some (.int x0), none, none, none, none] [] h := rfl
theorem e163_0 : rf d 163 0 [l0, some (.int x), l2, l3, l4, l5] s h = rf d 163 1 [l0, some (.int x), l2, l3, l4, l5] (.int x :: s) h := rf_pure (i := .iload_n 1) (len := 1) (okD_ok (by decide +kernel)) rfl
theorem e163_1 (hcat : ip_cat s ≤ 8) : rf (d + 1) 163 1 ls (.int x0 :: s) h = rf_k (d + 1) 163 1 ls s (cf d 86 [.int x0] h) := g_cs (idx := 133) [.int x0] (by decide +kernel) ow163 ms_7_133 mt_7_133 (by decide) rfl mL86 rfl hcat
theorem e163_4 : rf d 163 4 [some (.ref a), l1, l2, l3, l4, l5] s h = rf d 163 5 [some (.ref a), l1, l2, l3, l4, l5] (.ref a :: s) h := rf_pure (i := .aload_n 0) (len := 1) (okD_ok (by decide +kernel)) rfl
theorem e163_5 (hR : LYR R) : rf d 163 5 ls (.ref 2 :: s) (SH n, I, L, R, nc, ns, nx) = rf d 163 8 ls (.ref 23 :: s) (SH n, I, L, R, nc, ns, nx) := g_R (idx := 36) (by decide +kernel) ow163 f_7_36 rfl rfl (by decide) (ly_2_5 hR)
theorem e163_8 : rf d 163 8 [some (.ref a), l1, l2, l3, l4, l5] s h = rf d 163 9 [some (.ref a), l1, l2, l3, l4, l5] (.ref a :: s) h := rf_pure (i := .aload_n 0) (len := 1) (okD_ok (by decide +kernel)) rfl
theorem e163_9 : rf d 163 9 ls (.ref 2 :: s) (SH n, I, L, R, nc, ns, nx) = rf d 163 12 ls (.int (I 2 7) :: s) (SH n, I, L, R, nc, ns, nx) := g_I (idx := 43) (by decide +kernel) ow163 f_7_43 rfl rfl (by decide)
theorem e163_12 (hR : LYR R) (q : inb j 40) : rf d 163 12 ls (.int j :: .ref 23 :: s) (SH n, I, L, R, nc, ns, nx) = rf d 163 13 ls (.ref (nd j) :: s) (SH n, I, L, R, nc, ns, nx) := g_aal (by decide +kernel) hR q
theorem e163_13 (hn : ip_nl l1 = true) : rf d 163 13 [l0, l1, l2, l3, l4, l5] (.ref a :: s) h = rf d 163 14 [l0, l1, some (.ref a), l3, l4, l5] s h := g_sta (i := .astore_n 2) (len := 1) (q := 1) (p := 1) (by decide +kernel) rfl rfl hn
theorem e163_14 : rf d 163 14 ls s h = rf d 163 15 ls (.int 0 :: s) h := rf_pure (i := .iconst (0)) (len := 1) (okD_ok (by decide +kernel)) rfl
theorem e163_15 (hn : ip_nl l2 = true) : rf d 163 15 [l0, l1, l2, l3, l4, l5] (.int x :: s) h = rf d 163 16 [l0, l1, l2, some (.int x), l4, l5] s h := g_sti (i := .istore_n 3) (len := 1) (q := 2) (p := 1) (by decide +kernel) rfl rfl hn
theorem e163_16 : rf d 163 16 ls s h = rf d 163 17 ls (.int 0 :: s) h := rf_pure (i := .iconst (0)) (len := 1) (okD_ok (by decide +kernel)) rfl
theorem e163_17 (hn : ip_nl l3 = true) : rf d 163 17 [l0, l1, l2, l3, l4, l5] (.int x :: s) h = rf d 163 19 [l0, l1, l2, l3, some (.int x), l5] s h := g_sti (i := .istore 4) (len := 2) (q := 3) (p := 2) (by decide +kernel) rfl rfl hn
theorem e163_19 : rf d 163 19 ls s h = rf d 163 20 ls (.int 0 :: s) h := rf_pure (i := .iconst (0)) (len := 1) (okD_ok (by decide +kernel)) rfl
theorem e163_20 (hn : ip_nl l4 = true) : rf d 163 20 [l0, l1, l2, l3, l4, l5] (.int x :: s) h = rf d 163 22 [l0, l1, l2, l3, l4, some (.int x)] s h := g_sti (i := .istore 5) (len := 2) (q := 4) (p := 2) (by decide +kernel) rfl rfl hn
theorem e163_22 : rf d 163 22 [l0, l1, l2, l3, l4, some (.int x)] s h = rf d 163 24 [l0, l1, l2, l3, l4, some (.int x)] (.int x :: s) h := rf_pure (i := .iload 5) (len := 2) (okD_ok (by decide +kernel)) rfl
theorem e163_24 : rf d 163 24 ls s h = rf d 163 25 ls (.int 1 :: s) h := rf_pure (i := .iconst (1)) (len := 1) (okD_ok (by decide +kernel)) rfl
theorem e163_25 : rf d 163 25 [l0, l1, some (.ref a), l3, l4, l5] s h = rf d 163 26 [l0, l1, some (.ref a), l3, l4, l5] (.ref a :: s) h := rf_pure (i := .aload_n 2) (len := 1) (okD_ok (by decide +kernel)) rfl
theorem e163_26 (ha : isN a) : rf d 163 26 ls (.ref a :: s) (SH n, I, L, R, nc, ns, nx) = rf d 163 29 ls (.int (I a 6) :: s) (SH n, I, L, R, nc, ns, nx) := g_I (idx := 144) (by decide +kernel) ow163 f_7_144 rfl (kdN0 ha) (geN ha)
theorem e163_29 (hcat : ip_cat s ≤ 8) : rf (d + 1) 163 29 ls (.int x0 :: s) h = rf_k (d + 1) 163 29 ls s (cf d 19 [.int x0] h) := g_cs (idx := 156) [.int x0] (by decide +kernel) ow163 ms_7_156 mt_7_156 (by decide) rfl mL19 rfl hcat
theorem e163_32 : rf d 163 32 ls (.int y :: .int x :: s) h = rf d 163 33 ls (.int (x <<< (y &&& 31)) :: s) h := rf_pure (i := .ishl) (len := 1) (okD_ok (by decide +kernel)) rfl
theorem e163_33 : rf d 163 33 ls (.int y :: .int x :: s) h = if y ≤ x then rf d 163 82 ls s h else rf d 163 36 ls s h := g_ic (c := .ge) (off := 49) _ (by decide +kernel) rfl cmp_d
theorem e163_36 : rf d 163 36 [some (.ref a), l1, l2, l3, l4, l5] s h = rf d 163 37 [some (.ref a), l1, l2, l3, l4, l5] (.ref a :: s) h := rf_pure (i := .aload_n 0) (len := 1) (okD_ok (by decide +kernel)) rfl
theorem e163_37 : rf d 163 37 ls (.ref 2 :: s) (SH n, I, L, R, nc, ns, nx) = rf d 163 40 ls (ip_rf (R 2 4) :: s) (SH n, I, L, R, nc, ns, nx) := g_R (idx := 30) (by decide +kernel) ow163 f_7_30 rfl rfl (by decide) rfl
theorem e163_40 : rf d 163 40 [l0, l1, some (.ref a), l3, l4, l5] s h = rf d 163 41 [l0, l1, some (.ref a), l3, l4, l5] (.ref a :: s) h := rf_pure (i := .aload_n 2) (len := 1) (okD_ok (by decide +kernel)) rfl
theorem e163_41 (ha : isN a) : rf d 163 41 ls (.ref a :: s) (SH n, I, L, R, nc, ns, nx) = rf d 163 44 ls (.int (I a 4) :: s) (SH n, I, L, R, nc, ns, nx) := g_I (idx := 265) (by decide +kernel) ow163 f_7_265 rfl (kdN0 ha) (geN ha)
theorem e163_44 : rf d 163 44 [l0, l1, l2, l3, some (.int x), l5] s h = rf d 163 46 [l0, l1, l2, l3, some (.int x), l5] (.int x :: s) h := rf_pure (i := .iload 4) (len := 2) (okD_ok (by decide +kernel)) rfl
theorem e163_46 : rf d 163 46 ls (.int y :: .int x :: s) h = rf d 163 47 ls (.int (x ||| y) :: s) h := rf_pure (i := .ior) (len := 1) (okD_ok (by decide +kernel)) rfl
theorem e163_47 (hb : isT b) (hcat : ip_cat s ≤ 8) : rf (d + 1) 163 47 ls (.int x0 :: .ref b :: s) (SH n, I, L, R, nc, ns, nx) = rf_k (d + 1) 163 47 ls s (cf d 24 [.ref b, .int x0] (SH n, I, L, R, nc, ns, nx)) := g_cv (idx := 309) (t := 6) [.int x0] (by decide +kernel) ow163 ms_7_309 mt_7_309 cy24_6 rfl rfl mL24 rfl (kdT0 hb) (geT hb) hcat
theorem e163_50 : rf d 163 50 [l0, some (.int x), l2, l3, l4, l5] s h = rf d 163 51 [l0, some (.int x), l2, l3, l4, l5] (.int x :: s) h := rf_pure (i := .iload_n 1) (len := 1) (okD_ok (by decide +kernel)) rfl
theorem e163_51 : rf d 163 51 ls (.int x :: s) h = if ¬ x = 0 then rf d 163 58 ls s h else rf d 163 54 ls s h := g_if (c := .ne) (off := 7) _ (by decide +kernel) rfl cmp_d
theorem e163_54 : rf d 163 54 ls s h = rf d 163 55 ls (.int 1 :: s) h := rf_pure (i := .iconst (1)) (len := 1) (okD_ok (by decide +kernel)) rfl
theorem e163_55 : rf d 163 55 ls s h = rf d 163 59 ls s h := rf_goto ⟨okD_ok (i := .goto (4)) (len := 3) (by decide +kernel), rfl⟩
theorem e163_58 : rf d 163 58 ls s h = rf d 163 59 ls (.int 0 :: s) h := rf_pure (i := .iconst (0)) (len := 1) (okD_ok (by decide +kernel)) rfl
theorem e163_59 : rf d 163 59 ls (.int y :: .int x :: s) h = if ¬ x = y then rf d 163 65 ls s h else rf d 163 62 ls s h := g_ic (c := .ne) (off := 6) _ (by decide +kernel) rfl cmp_d
theorem e163_62 (hn : ip_nl l2 = true) : rf d 163 62 [l0, l1, l2, some (.int x), l4, l5] s h = rf d 163 65 [l0, l1, l2, some (.int (x + 1)), l4, l5] s h := g_inc (q := 2) (z := 1) (w := 1) (x := x) (by decide) (by decide +kernel) rfl rfl hn
theorem e163_65 : rf d 163 65 [l0, l1, l2, l3, some (.int x), l5] s h = rf d 163 67 [l0, l1, l2, l3, some (.int x), l5] (.int x :: s) h := rf_pure (i := .iload 4) (len := 2) (okD_ok (by decide +kernel)) rfl
theorem e163_67 : rf d 163 67 [l0, l1, some (.ref a), l3, l4, l5] s h = rf d 163 68 [l0, l1, some (.ref a), l3, l4, l5] (.ref a :: s) h := rf_pure (i := .aload_n 2) (len := 1) (okD_ok (by decide +kernel)) rfl
theorem e163_68 (ha : isN a) : rf d 163 68 ls (.ref a :: s) (SH n, I, L, R, nc, ns, nx) = rf d 163 71 ls (.int (I a 6) :: s) (SH n, I, L, R, nc, ns, nx) := g_I (idx := 144) (by decide +kernel) ow163 f_7_144 rfl (kdN0 ha) (geN ha)
theorem e163_71 (hcat : ip_cat s ≤ 8) : rf (d + 1) 163 71 ls (.int x1 :: .int x0 :: s) h = rf_k (d + 1) 163 71 ls s (cf d 20 [.int x0, .int x1] h) := g_cs (idx := 271) [.int x1, .int x0] (by decide +kernel) ow163 ms_7_271 mt_7_271 (by decide) rfl mL20 rfl hcat
theorem e163_74 (hn : ip_nl l3 = true) : rf d 163 74 [l0, l1, l2, l3, l4, l5] (.int x :: s) h = rf d 163 76 [l0, l1, l2, l3, some (.int x), l5] s h := g_sti (i := .istore 4) (len := 2) (q := 3) (p := 2) (by decide +kernel) rfl rfl hn
theorem e163_76 (hn : ip_nl l4 = true) : rf d 163 76 [l0, l1, l2, l3, l4, some (.int x)] s h = rf d 163 79 [l0, l1, l2, l3, l4, some (.int (x + 1))] s h := g_inc (q := 4) (z := 1) (w := 1) (x := x) (by decide) (by decide +kernel) rfl rfl hn
theorem e163_79 : rf d 163 79 ls s h = rf d 163 22 ls s h := rf_goto ⟨okD_ok (i := .goto (-57)) (len := 3) (by decide +kernel), rfl⟩
theorem e163_82 : rf d 163 82 [l0, l1, l2, some (.int x), l4, l5] s h = rf d 163 83 [l0, l1, l2, some (.int x), l4, l5] (.int x :: s) h := rf_pure (i := .iload_n 3) (len := 1) (okD_ok (by decide +kernel)) rfl
theorem e163_83 : rf d 163 83 ls [.int x] h = some (.inl (some (.int x)), h) := g_ri (by decide +kernel) rt163
theorem en164 : cf d 164 [.ref a0, .int x1, .ref a2] h = rf d 164 0 [some (.ref a0), some (.int x1), some (.ref a2), none] [] h := rfl
theorem e164_0 : rf d 164 0 [l0, l1, some (.ref a), l3] s h = rf d 164 1 [l0, l1, some (.ref a), l3] (.ref a :: s) h := rf_pure (i := .aload_n 2) (len := 1) (okD_ok (by decide +kernel)) rfl
theorem e164_1 : rf d 164 1 ls s h = rf d 164 2 ls (.int 0 :: s) h := rf_pure (i := .iconst (0)) (len := 1) (okD_ok (by decide +kernel)) rfl
theorem e164_2 : rf d 164 2 [some (.ref a), l1, l2, l3] s h = rf d 164 3 [some (.ref a), l1, l2, l3] (.ref a :: s) h := rf_pure (i := .aload_n 0) (len := 1) (okD_ok (by decide +kernel)) rfl
theorem e164_3 : rf d 164 3 [l0, some (.int x), l2, l3] s h = rf d 164 4 [l0, some (.int x), l2, l3] (.int x :: s) h := rf_pure (i := .iload_n 1) (len := 1) (okD_ok (by decide +kernel)) rfl
theorem e164_4 (hcat : ip_cat s ≤ 8) : rf (d + 1) 164 4 ls (.int x0 :: .ref 2 :: s) (SH n, I, L, R, nc, ns, nx) = rf_k (d + 1) 164 4 ls s (cf d 165 [.ref 2, .int x0] (SH n, I, L, R, nc, ns, nx)) := g_cv (idx := 93) (t := 7) [.int x0] (by decide +kernel) ow164 ms_9_93 mt_9_93 cy165_7 rfl rfl mL165 rfl rfl (by decide) hcat
theorem e164_7 : rf d 164 7 ls (.int x :: s) h = rf d 164 8 ls (.long x.toInt64 :: s) h := rf_pure (i := .i2l) (len := 1) (okD_ok (by decide +kernel)) rfl
theorem e164_8 (q : la n a j) : rf d 164 8 ls (.long u :: .int j :: .ref a :: s) (SH n, I, L, R, nc, ns, nx) = rf d 164 9 ls s (SH n, I, ip_up L a j.toNatClampNeg u, R, nc, ns, nx) := g_las (by decide +kernel) q
theorem e164_9 : rf d 164 9 ls s h = rf d 164 15 ls s h := rf_goto ⟨okD_ok (i := .goto (6)) (len := 3) (by decide +kernel), rfl⟩
theorem e164_15 : rf d 164 15 ls s h = rf d 164 16 ls (.int 0 :: s) h := rf_pure (i := .iconst (0)) (len := 1) (okD_ok (by decide +kernel)) rfl
theorem e164_16 : rf d 164 16 ls [.int x] h = some (.inl (some (.int x)), h) := g_ri (by decide +kernel) rt164
theorem en165 : cf d 165 [.ref a, .int x0] h = rf d 165 0 [some (.ref a), some (.int x0), none, none] [] h := rfl
theorem e165_0 : rf d 165 0 [some (.ref a), l1, l2, l3] s h = rf d 165 1 [some (.ref a), l1, l2, l3] (.ref a :: s) h := rf_pure (i := .aload_n 0) (len := 1) (okD_ok (by decide +kernel)) rfl
theorem e165_1 : rf d 165 1 [l0, some (.int x), l2, l3] s h = rf d 165 2 [l0, some (.int x), l2, l3] (.int x :: s) h := rf_pure (i := .iload_n 1) (len := 1) (okD_ok (by decide +kernel)) rfl
theorem e165_2 (hcat : ip_cat s ≤ 8) : rf (d + 1) 165 2 ls (.int x0 :: .ref 2 :: s) (SH n, I, L, R, nc, ns, nx) = rf_k (d + 1) 165 2 ls s (cf d 124 [.ref 2, .int x0] (SH n, I, L, R, nc, ns, nx)) := g_cv (idx := 210) (t := 7) [.int x0] (by decide +kernel) ow165 ms_7_210 mt_7_210 cy124_7 rfl rfl mL124 rfl rfl (by decide) hcat
theorem e165_5 : rf d 165 5 [some (.ref a), l1, l2, l3] s h = rf d 165 6 [some (.ref a), l1, l2, l3] (.ref a :: s) h := rf_pure (i := .aload_n 0) (len := 1) (okD_ok (by decide +kernel)) rfl
theorem e165_6 (hR : LYR R) : rf d 165 6 ls (.ref 2 :: s) (SH n, I, L, R, nc, ns, nx) = rf d 165 9 ls (.ref 23 :: s) (SH n, I, L, R, nc, ns, nx) := g_R (idx := 36) (by decide +kernel) ow165 f_7_36 rfl rfl (by decide) (ly_2_5 hR)
theorem e165_9 : rf d 165 9 [l0, some (.int x), l2, l3] s h = rf d 165 10 [l0, some (.int x), l2, l3] (.int x :: s) h := rf_pure (i := .iload_n 1) (len := 1) (okD_ok (by decide +kernel)) rfl
theorem e165_10 (hR : LYR R) (q : inb j 40) : rf d 165 10 ls (.int j :: .ref 23 :: s) (SH n, I, L, R, nc, ns, nx) = rf d 165 11 ls (.ref (nd j) :: s) (SH n, I, L, R, nc, ns, nx) := g_aal (by decide +kernel) hR q
theorem e165_11 (hn : ip_nl l1 = true) : rf d 165 11 [l0, l1, l2, l3] (.ref a :: s) h = rf d 165 12 [l0, l1, some (.ref a), l3] s h := g_sta (i := .astore_n 2) (len := 1) (q := 1) (p := 1) (by decide +kernel) rfl rfl hn
theorem e165_12 : rf d 165 12 [some (.ref a), l1, l2, l3] s h = rf d 165 13 [some (.ref a), l1, l2, l3] (.ref a :: s) h := rf_pure (i := .aload_n 0) (len := 1) (okD_ok (by decide +kernel)) rfl
theorem e165_13 (hR : LYR R) : rf d 165 13 ls (.ref 2 :: s) (SH n, I, L, R, nc, ns, nx) = rf d 165 16 ls (.ref 63 :: s) (SH n, I, L, R, nc, ns, nx) := g_R (idx := 63) (by decide +kernel) ow165 f_7_63 rfl rfl (by decide) (ly_2_10 hR)
theorem e165_16 (hcat : ip_cat s ≤ 8) : rf (d + 1) 165 16 ls (.ref 63 :: s) (SH n, I, L, R, nc, ns, nx) = rf_k (d + 1) 165 16 ls s (cf d 29 [.ref 63] (SH n, I, L, R, nc, ns, nx)) := g_cv (idx := 313) (t := 2) [] (by decide +kernel) ow165 ms_7_313 mt_7_313 cy29_2 rfl rfl mL29 rfl rfl (by decide) hcat
theorem e165_19 : rf d 165 19 [some (.ref a), l1, l2, l3] s h = rf d 165 20 [some (.ref a), l1, l2, l3] (.ref a :: s) h := rf_pure (i := .aload_n 0) (len := 1) (okD_ok (by decide +kernel)) rfl
theorem e165_20 (hR : LYR R) : rf d 165 20 ls (.ref 2 :: s) (SH n, I, L, R, nc, ns, nx) = rf d 165 23 ls (.ref 63 :: s) (SH n, I, L, R, nc, ns, nx) := g_R (idx := 63) (by decide +kernel) ow165 f_7_63 rfl rfl (by decide) (ly_2_10 hR)
theorem e165_23 : rf d 165 23 [l0, l1, some (.ref a), l3] s h = rf d 165 24 [l0, l1, some (.ref a), l3] (.ref a :: s) h := rf_pure (i := .aload_n 2) (len := 1) (okD_ok (by decide +kernel)) rfl
theorem e165_24 (ha : isN a) : rf d 165 24 ls (.ref a :: s) (SH n, I, L, R, nc, ns, nx) = rf d 165 27 ls (.int (I a 0) :: s) (SH n, I, L, R, nc, ns, nx) := g_I (idx := 138) (by decide +kernel) ow165 f_7_138 rfl (kdN0 ha) (geN ha)
theorem e165_27 : rf d 165 27 ls (.int x :: s) h = if ¬ x = 0 then rf d 165 36 ls s h else rf d 165 30 ls s h := g_if (c := .ne) (off := 9) _ (by decide +kernel) rfl cmp_d
theorem e165_30 : rf d 165 30 ls s h = rf d 165 33 ls (.ref (tx 20) :: s) h := g_ks (idx := 316) (i := .ldc_w 316) (len := 3) (by decide +kernel) rfl rfl ow165 kn_7_316 ks_7_316
theorem e165_33 : rf d 165 33 ls s h = rf d 165 53 ls s h := rf_goto ⟨okD_ok (i := .goto (20)) (len := 3) (by decide +kernel), rfl⟩
theorem e165_36 : rf d 165 36 [l0, l1, some (.ref a), l3] s h = rf d 165 37 [l0, l1, some (.ref a), l3] (.ref a :: s) h := rf_pure (i := .aload_n 2) (len := 1) (okD_ok (by decide +kernel)) rfl
theorem e165_37 (ha : isN a) : rf d 165 37 ls (.ref a :: s) (SH n, I, L, R, nc, ns, nx) = rf d 165 40 ls (.int (I a 0) :: s) (SH n, I, L, R, nc, ns, nx) := g_I (idx := 138) (by decide +kernel) ow165 f_7_138 rfl (kdN0 ha) (geN ha)
theorem e165_40 : rf d 165 40 ls s h = rf d 165 41 ls (.int 1 :: s) h := rf_pure (i := .iconst (1)) (len := 1) (okD_ok (by decide +kernel)) rfl
theorem e165_41 : rf d 165 41 ls (.int y :: .int x :: s) h = if ¬ x = y then rf d 165 50 ls s h else rf d 165 44 ls s h := g_ic (c := .ne) (off := 9) _ (by decide +kernel) rfl cmp_d
theorem e165_44 : rf d 165 44 ls s h = rf d 165 47 ls (.ref (tx 21) :: s) h := g_ks (idx := 318) (i := .ldc_w 318) (len := 3) (by decide +kernel) rfl rfl ow165 kn_7_318 ks_7_318
theorem e165_47 : rf d 165 47 ls s h = rf d 165 53 ls s h := rf_goto ⟨okD_ok (i := .goto (6)) (len := 3) (by decide +kernel), rfl⟩
theorem e165_50 : rf d 165 50 ls s h = rf d 165 53 ls (.ref (tx 22) :: s) h := g_ks (idx := 320) (i := .ldc_w 320) (len := 3) (by decide +kernel) rfl rfl ow165 kn_7_320 ks_7_320
theorem e165_53 (hcat : ip_cat s ≤ 8) : rf (d + 1) 165 53 ls (.ref a0 :: .ref 63 :: s) (SH n, I, L, R, nc, ns, nx) = rf_k (d + 1) 165 53 ls s (cf d 166 [.ref 63, .ref a0] (SH n, I, L, R, nc, ns, nx)) := g_cv (idx := 322) (t := 2) [.ref a0] (by decide +kernel) ow165 ms_7_322 mt_7_322 cy166_2 rfl rfl mL166 rfl rfl (by decide) hcat
theorem e165_56 : rf d 165 56 [l0, l1, some (.ref a), l3] s h = rf d 165 57 [l0, l1, some (.ref a), l3] (.ref a :: s) h := rf_pure (i := .aload_n 2) (len := 1) (okD_ok (by decide +kernel)) rfl
theorem e165_57 (ha : isN a) : rf d 165 57 ls (.ref a :: s) (SH n, I, L, R, nc, ns, nx) = rf d 165 60 ls (.int (I a 0) :: s) (SH n, I, L, R, nc, ns, nx) := g_I (idx := 138) (by decide +kernel) ow165 f_7_138 rfl (kdN0 ha) (geN ha)
theorem e165_60 : rf d 165 60 ls (.int x :: s) h = if x = 0 then rf d 165 77 ls s h else rf d 165 63 ls s h := g_if (c := .eq) (off := 17) _ (by decide +kernel) rfl cmp_d
theorem e165_63 : rf d 165 63 [some (.ref a), l1, l2, l3] s h = rf d 165 64 [some (.ref a), l1, l2, l3] (.ref a :: s) h := rf_pure (i := .aload_n 0) (len := 1) (okD_ok (by decide +kernel)) rfl
theorem e165_64 (hR : LYR R) : rf d 165 64 ls (.ref 2 :: s) (SH n, I, L, R, nc, ns, nx) = rf d 165 67 ls (.ref 63 :: s) (SH n, I, L, R, nc, ns, nx) := g_R (idx := 63) (by decide +kernel) ow165 f_7_63 rfl rfl (by decide) (ly_2_10 hR)
theorem e165_67 : rf d 165 67 [l0, l1, some (.ref a), l3] s h = rf d 165 68 [l0, l1, some (.ref a), l3] (.ref a :: s) h := rf_pure (i := .aload_n 2) (len := 1) (okD_ok (by decide +kernel)) rfl
theorem e165_68 (ha : isN a) : rf d 165 68 ls (.ref a :: s) (SH n, I, L, R, nc, ns, nx) = rf d 165 71 ls (.int (I a 2) :: s) (SH n, I, L, R, nc, ns, nx) := g_I (idx := 201) (by decide +kernel) ow165 f_7_201 rfl (kdN0 ha) (geN ha)
theorem e165_71 (hcat : ip_cat s ≤ 8) : rf (d + 1) 165 71 ls (.int x0 :: s) h = rf_k (d + 1) 165 71 ls s (cf d 167 [.int x0] h) := g_cs (idx := 325) [.int x0] (by decide +kernel) ow165 ms_7_325 mt_7_325 (by decide) rfl mL167 rfl hcat
theorem e165_74 (hcat : ip_cat s ≤ 8) : rf (d + 1) 165 74 ls (.ref a0 :: .ref 63 :: s) (SH n, I, L, R, nc, ns, nx) = rf_k (d + 1) 165 74 ls s (cf d 166 [.ref 63, .ref a0] (SH n, I, L, R, nc, ns, nx)) := g_cv (idx := 322) (t := 2) [.ref a0] (by decide +kernel) ow165 ms_7_322 mt_7_322 cy166_2 rfl rfl mL166 rfl rfl (by decide) hcat
theorem e165_77 : rf d 165 77 ls s h = rf d 165 78 ls (.int 0 :: s) h := rf_pure (i := .iconst (0)) (len := 1) (okD_ok (by decide +kernel)) rfl
theorem e165_78 (hn : ip_nl l2 = true) : rf d 165 78 [l0, l1, l2, l3] (.int x :: s) h = rf d 165 79 [l0, l1, l2, some (.int x)] s h := g_sti (i := .istore_n 3) (len := 1) (q := 2) (p := 1) (by decide +kernel) rfl rfl hn
theorem e165_79 : rf d 165 79 [l0, l1, l2, some (.int x)] s h = rf d 165 80 [l0, l1, l2, some (.int x)] (.int x :: s) h := rf_pure (i := .iload_n 3) (len := 1) (okD_ok (by decide +kernel)) rfl
theorem e165_80 : rf d 165 80 [some (.ref a), l1, l2, l3] s h = rf d 165 81 [some (.ref a), l1, l2, l3] (.ref a :: s) h := rf_pure (i := .aload_n 0) (len := 1) (okD_ok (by decide +kernel)) rfl
theorem e165_81 : rf d 165 81 ls (.ref 2 :: s) (SH n, I, L, R, nc, ns, nx) = rf d 165 84 ls (ip_rf (R 2 4) :: s) (SH n, I, L, R, nc, ns, nx) := g_R (idx := 30) (by decide +kernel) ow165 f_7_30 rfl rfl (by decide) rfl
theorem e165_84 (ha : isT a) : rf d 165 84 ls (.ref a :: s) (SH n, I, L, R, nc, ns, nx) = rf d 165 87 ls (.int (I a 6) :: s) (SH n, I, L, R, nc, ns, nx) := g_I (idx := 97) (by decide +kernel) ow165 f_7_97 rfl (kdT0 ha) (geT ha)
theorem e165_87 : rf d 165 87 ls (.int y :: .int x :: s) h = if y ≤ x then rf d 165 102 ls s h else rf d 165 90 ls s h := g_ic (c := .ge) (off := 15) _ (by decide +kernel) rfl cmp_d
theorem e165_90 : rf d 165 90 [some (.ref a), l1, l2, l3] s h = rf d 165 91 [some (.ref a), l1, l2, l3] (.ref a :: s) h := rf_pure (i := .aload_n 0) (len := 1) (okD_ok (by decide +kernel)) rfl
theorem e165_91 : rf d 165 91 [l0, l1, some (.ref a), l3] s h = rf d 165 92 [l0, l1, some (.ref a), l3] (.ref a :: s) h := rf_pure (i := .aload_n 2) (len := 1) (okD_ok (by decide +kernel)) rfl
theorem e165_92 : rf d 165 92 [l0, l1, l2, some (.int x)] s h = rf d 165 93 [l0, l1, l2, some (.int x)] (.int x :: s) h := rf_pure (i := .iload_n 3) (len := 1) (okD_ok (by decide +kernel)) rfl
theorem e165_93 (hcat : ip_cat s ≤ 8) : rf (d + 1) 165 93 ls (.int x1 :: .ref a0 :: .ref 2 :: s) (SH n, I, L, R, nc, ns, nx) = rf_k (d + 1) 165 93 ls s (cf d 168 [.ref 2, .ref a0, .int x1] (SH n, I, L, R, nc, ns, nx)) := g_cv (idx := 329) (t := 7) [.int x1, .ref a0] (by decide +kernel) ow165 ms_7_329 mt_7_329 cy168_7 rfl rfl mL168 rfl rfl (by decide) hcat
theorem e165_96 (hn : ip_nl l2 = true) : rf d 165 96 [l0, l1, l2, some (.int x)] s h = rf d 165 99 [l0, l1, l2, some (.int (x + 1))] s h := g_inc (q := 2) (z := 1) (w := 1) (x := x) (by decide) (by decide +kernel) rfl rfl hn
theorem e165_99 : rf d 165 99 ls s h = rf d 165 79 ls s h := rf_goto ⟨okD_ok (i := .goto (-20)) (len := 3) (by decide +kernel), rfl⟩
theorem e165_102 : rf d 165 102 [some (.ref a), l1, l2, l3] s h = rf d 165 103 [some (.ref a), l1, l2, l3] (.ref a :: s) h := rf_pure (i := .aload_n 0) (len := 1) (okD_ok (by decide +kernel)) rfl
theorem e165_103 (hR : LYR R) : rf d 165 103 ls (.ref 2 :: s) (SH n, I, L, R, nc, ns, nx) = rf d 165 106 ls (.ref 63 :: s) (SH n, I, L, R, nc, ns, nx) := g_R (idx := 63) (by decide +kernel) ow165 f_7_63 rfl rfl (by decide) (ly_2_10 hR)
theorem e165_106 : rf d 165 106 ls (.ref 63 :: s) (SH n, I, L, R, nc, ns, nx) = rf d 165 109 ls (.int (I 63 1) :: s) (SH n, I, L, R, nc, ns, nx) := g_I (idx := 332) (by decide +kernel) ow165 f_7_332 rfl rfl (by decide)
theorem e165_109 : rf d 165 109 ls [.int x] h = some (.inl (some (.int x)), h) := g_ri (by decide +kernel) rt165
theorem en166 : cf d 166 [.ref a, .ref a0] h = rf d 166 0 [some (.ref a), some (.ref a0), none] [] h := rfl
theorem e166_0 : rf d 166 0 ls s h = rf d 166 1 ls (.int 0 :: s) h := rf_pure (i := .iconst (0)) (len := 1) (okD_ok (by decide +kernel)) rfl
theorem e166_1 (hn : ip_nl l1 = true) : rf d 166 1 [l0, l1, l2] (.int x :: s) h = rf d 166 2 [l0, l1, some (.int x)] s h := g_sti (i := .istore_n 2) (len := 1) (q := 1) (p := 1) (by decide +kernel) rfl rfl hn
theorem e166_2 : rf d 166 2 [l0, l1, some (.int x)] s h = rf d 166 3 [l0, l1, some (.int x)] (.int x :: s) h := rf_pure (i := .iload_n 2) (len := 1) (okD_ok (by decide +kernel)) rfl
theorem e166_3 : rf d 166 3 [l0, some (.ref a), l2] s h = rf d 166 4 [l0, some (.ref a), l2] (.ref a :: s) h := rf_pure (i := .aload_n 1) (len := 1) (okD_ok (by decide +kernel)) rfl
theorem e166_4 (ht : t < 39) (hcat : ip_cat s ≤ 8) : rf d 166 4 ls (.ref (tx t) :: s) h = rf d 166 7 ls (.int (Int32.ofNat (ip_tb.getD t []).length) :: s) h := g_sl (idx := 17) (by decide +kernel) ow166 (by decide +kernel) ht hcat
theorem e166_7 : rf d 166 7 ls (.int y :: .int x :: s) h = if y ≤ x then rf d 166 25 ls s h else rf d 166 10 ls s h := g_ic (c := .ge) (off := 18) _ (by decide +kernel) rfl cmp_d
theorem e166_10 : rf d 166 10 [some (.ref a), l1, l2] s h = rf d 166 11 [some (.ref a), l1, l2] (.ref a :: s) h := rf_pure (i := .aload_n 0) (len := 1) (okD_ok (by decide +kernel)) rfl
theorem e166_11 : rf d 166 11 [l0, some (.ref a), l2] s h = rf d 166 12 [l0, some (.ref a), l2] (.ref a :: s) h := rf_pure (i := .aload_n 1) (len := 1) (okD_ok (by decide +kernel)) rfl
theorem e166_12 : rf d 166 12 [l0, l1, some (.int x)] s h = rf d 166 13 [l0, l1, some (.int x)] (.int x :: s) h := rf_pure (i := .iload_n 2) (len := 1) (okD_ok (by decide +kernel)) rfl
theorem e166_13 (ht : t < 39) (hcat : ip_cat s ≤ 8) (hj : inb j (ip_tb.getD t []).length) : rf d 166 13 ls (.int j :: .ref (tx t) :: s) h = rf d 166 16 ls (.int (Int32.ofNat ((ip_tb.getD t []).getD j.toNatClampNeg 0)) :: s) h := g_sc (idx := 22) (by decide +kernel) ow166 (by decide +kernel) ht hcat hj
theorem e166_16 (hcat : ip_cat s ≤ 8) : rf (d + 1) 166 16 ls (.int x0 :: .ref 63 :: s) (SH n, I, L, R, nc, ns, nx) = rf_k (d + 1) 166 16 ls s (cf d 32 [.ref 63, .int x0] (SH n, I, L, R, nc, ns, nx)) := g_cv (idx := 26) (t := 2) [.int x0] (by decide +kernel) ow166 ms_2_26 mt_2_26 cy32_2 rfl rfl mL32 rfl rfl (by decide) hcat
theorem e166_19 (hn : ip_nl l1 = true) : rf d 166 19 [l0, l1, some (.int x)] s h = rf d 166 22 [l0, l1, some (.int (x + 1))] s h := g_inc (q := 1) (z := 1) (w := 1) (x := x) (by decide) (by decide +kernel) rfl rfl hn
theorem e166_22 : rf d 166 22 ls s h = rf d 166 2 ls s h := rf_goto ⟨okD_ok (i := .goto (-20)) (len := 3) (by decide +kernel), rfl⟩
theorem e166_25 : rf d 166 25 ls [] h = some (.inl none, h) := g_rv (by decide +kernel) rt166
theorem en167 : cf d 167 [.int x0] h = rf d 167 0 [some (.int x0)] [] h := rfl
theorem e167_0 : rf d 167 0 [some (.int x)] s h = rf d 167 1 [some (.int x)] (.int x :: s) h := rf_pure (i := .iload_n 0) (len := 1) (okD_ok (by decide +kernel)) rfl
theorem e167_28 : rf d 167 28 ls s h = rf d 167 31 ls (.ref (tx 23) :: s) h := g_ks (idx := 335) (i := .ldc_w 335) (len := 3) (by decide +kernel) rfl rfl ow167 kn_7_335 ks_7_335
theorem e167_31 : rf d 167 31 ls [.ref a] h = some (.inl (some (.ref a)), h) := g_ra (by decide +kernel) rt167
theorem e167_32 : rf d 167 32 ls s h = rf d 167 35 ls (.ref (tx 24) :: s) h := g_ks (idx := 337) (i := .ldc_w 337) (len := 3) (by decide +kernel) rfl rfl ow167 kn_7_337 ks_7_337
theorem e167_35 : rf d 167 35 ls [.ref a] h = some (.inl (some (.ref a)), h) := g_ra (by decide +kernel) rt167
theorem e167_36 : rf d 167 36 ls s h = rf d 167 39 ls (.ref (tx 25) :: s) h := g_ks (idx := 339) (i := .ldc_w 339) (len := 3) (by decide +kernel) rfl rfl ow167 kn_7_339 ks_7_339
theorem e167_39 : rf d 167 39 ls [.ref a] h = some (.inl (some (.ref a)), h) := g_ra (by decide +kernel) rt167
theorem e167_40 : rf d 167 40 ls s h = rf d 167 43 ls (.ref (tx 26) :: s) h := g_ks (idx := 341) (i := .ldc_w 341) (len := 3) (by decide +kernel) rfl rfl ow167 kn_7_341 ks_7_341
theorem e167_43 : rf d 167 43 ls [.ref a] h = some (.inl (some (.ref a)), h) := g_ra (by decide +kernel) rt167
theorem en168 : cf d 168 [.ref a, .ref a0, .int x1] h = rf d 168 0 [some (.ref a), some (.ref a0), some (.int x1), none] [] h := rfl
theorem e168_0 : rf d 168 0 [some (.ref a), l1, l2, l3] s h = rf d 168 1 [some (.ref a), l1, l2, l3] (.ref a :: s) h := rf_pure (i := .aload_n 0) (len := 1) (okD_ok (by decide +kernel)) rfl
theorem e168_1 (hR : LYR R) : rf d 168 1 ls (.ref 2 :: s) (SH n, I, L, R, nc, ns, nx) = rf d 168 4 ls (.ref 63 :: s) (SH n, I, L, R, nc, ns, nx) := g_R (idx := 63) (by decide +kernel) ow168 f_7_63 rfl rfl (by decide) (ly_2_10 hR)
theorem e168_4 : rf d 168 4 ls s h = rf d 168 6 ls (.int 32 :: s) h := rf_pure (i := .bipush (32)) (len := 2) (okD_ok (by decide +kernel)) rfl
theorem e168_6 (hcat : ip_cat s ≤ 8) : rf (d + 1) 168 6 ls (.int x0 :: .ref 63 :: s) (SH n, I, L, R, nc, ns, nx) = rf_k (d + 1) 168 6 ls s (cf d 32 [.ref 63, .int x0] (SH n, I, L, R, nc, ns, nx)) := g_cv (idx := 343) (t := 2) [.int x0] (by decide +kernel) ow168 ms_7_343 mt_7_343 cy32_2 rfl rfl mL32 rfl rfl (by decide) hcat
theorem e168_9 : rf d 168 9 ls s h = rf d 168 10 ls (.int 0 :: s) h := rf_pure (i := .iconst (0)) (len := 1) (okD_ok (by decide +kernel)) rfl
theorem e168_10 (hn : ip_nl l2 = true) : rf d 168 10 [l0, l1, l2, l3] (.int x :: s) h = rf d 168 11 [l0, l1, l2, some (.int x)] s h := g_sti (i := .istore_n 3) (len := 1) (q := 2) (p := 1) (by decide +kernel) rfl rfl hn
theorem e168_11 : rf d 168 11 [l0, l1, l2, some (.int x)] s h = rf d 168 12 [l0, l1, l2, some (.int x)] (.int x :: s) h := rf_pure (i := .iload_n 3) (len := 1) (okD_ok (by decide +kernel)) rfl
theorem e168_12 : rf d 168 12 ls s h = rf d 168 14 ls (.int 6 :: s) h := rf_pure (i := .bipush (6)) (len := 2) (okD_ok (by decide +kernel)) rfl
theorem e168_14 : rf d 168 14 ls (.int y :: .int x :: s) h = if y ≤ x then rf d 168 52 ls s h else rf d 168 17 ls s h := g_ic (c := .ge) (off := 38) _ (by decide +kernel) rfl cmp_d
theorem e168_17 : rf d 168 17 [some (.ref a), l1, l2, l3] s h = rf d 168 18 [some (.ref a), l1, l2, l3] (.ref a :: s) h := rf_pure (i := .aload_n 0) (len := 1) (okD_ok (by decide +kernel)) rfl
theorem e168_18 : rf d 168 18 ls (.ref 2 :: s) (SH n, I, L, R, nc, ns, nx) = rf d 168 21 ls (ip_rf (R 2 4) :: s) (SH n, I, L, R, nc, ns, nx) := g_R (idx := 30) (by decide +kernel) ow168 f_7_30 rfl rfl (by decide) rfl
theorem e168_21 : rf d 168 21 [l0, l1, some (.int x), l3] s h = rf d 168 22 [l0, l1, some (.int x), l3] (.int x :: s) h := rf_pure (i := .iload_n 2) (len := 1) (okD_ok (by decide +kernel)) rfl
theorem e168_22 : rf d 168 22 [l0, l1, l2, some (.int x)] s h = rf d 168 23 [l0, l1, l2, some (.int x)] (.int x :: s) h := rf_pure (i := .iload_n 3) (len := 1) (okD_ok (by decide +kernel)) rfl
theorem e168_23 (hb : isT b) (hcat : ip_cat s ≤ 8) : rf (d + 1) 168 23 ls (.int x1 :: .int x0 :: .ref b :: s) (SH n, I, L, R, nc, ns, nx) = rf_k (d + 1) 168 23 ls s (cf d 50 [.ref b, .int x0, .int x1] (SH n, I, L, R, nc, ns, nx)) := g_cv (idx := 117) (t := 6) [.int x1, .int x0] (by decide +kernel) ow168 ms_7_117 mt_7_117 cy50_6 rfl rfl mL50 rfl (kdT0 hb) (geT hb) hcat
theorem e168_26 : rf d 168 26 ls s h = rf d 168 27 ls (.int (-1) :: s) h := rf_pure (i := .iconst (-1)) (len := 1) (okD_ok (by decide +kernel)) rfl
theorem e168_27 : rf d 168 27 ls (.int y :: .int x :: s) h = if x = y then rf d 168 52 ls s h else rf d 168 30 ls s h := g_ic (c := .eq) (off := 25) _ (by decide +kernel) rfl cmp_d
theorem e168_30 : rf d 168 30 [some (.ref a), l1, l2, l3] s h = rf d 168 31 [some (.ref a), l1, l2, l3] (.ref a :: s) h := rf_pure (i := .aload_n 0) (len := 1) (okD_ok (by decide +kernel)) rfl
theorem e168_31 (hR : LYR R) : rf d 168 31 ls (.ref 2 :: s) (SH n, I, L, R, nc, ns, nx) = rf d 168 34 ls (.ref 63 :: s) (SH n, I, L, R, nc, ns, nx) := g_R (idx := 63) (by decide +kernel) ow168 f_7_63 rfl rfl (by decide) (ly_2_10 hR)
theorem e168_34 : rf d 168 34 [some (.ref a), l1, l2, l3] s h = rf d 168 35 [some (.ref a), l1, l2, l3] (.ref a :: s) h := rf_pure (i := .aload_n 0) (len := 1) (okD_ok (by decide +kernel)) rfl
theorem e168_35 : rf d 168 35 ls (.ref 2 :: s) (SH n, I, L, R, nc, ns, nx) = rf d 168 38 ls (ip_rf (R 2 4) :: s) (SH n, I, L, R, nc, ns, nx) := g_R (idx := 30) (by decide +kernel) ow168 f_7_30 rfl rfl (by decide) rfl
theorem e168_38 : rf d 168 38 [l0, l1, some (.int x), l3] s h = rf d 168 39 [l0, l1, some (.int x), l3] (.int x :: s) h := rf_pure (i := .iload_n 2) (len := 1) (okD_ok (by decide +kernel)) rfl
theorem e168_39 : rf d 168 39 [l0, l1, l2, some (.int x)] s h = rf d 168 40 [l0, l1, l2, some (.int x)] (.int x :: s) h := rf_pure (i := .iload_n 3) (len := 1) (okD_ok (by decide +kernel)) rfl
theorem e168_40 (hb : isT b) (hcat : ip_cat s ≤ 8) : rf (d + 1) 168 40 ls (.int x1 :: .int x0 :: .ref b :: s) (SH n, I, L, R, nc, ns, nx) = rf_k (d + 1) 168 40 ls s (cf d 50 [.ref b, .int x0, .int x1] (SH n, I, L, R, nc, ns, nx)) := g_cv (idx := 117) (t := 6) [.int x1, .int x0] (by decide +kernel) ow168 ms_7_117 mt_7_117 cy50_6 rfl rfl mL50 rfl (kdT0 hb) (geT hb) hcat
theorem e168_43 (hcat : ip_cat s ≤ 8) : rf (d + 1) 168 43 ls (.int x0 :: .ref 63 :: s) (SH n, I, L, R, nc, ns, nx) = rf_k (d + 1) 168 43 ls s (cf d 32 [.ref 63, .int x0] (SH n, I, L, R, nc, ns, nx)) := g_cv (idx := 343) (t := 2) [.int x0] (by decide +kernel) ow168 ms_7_343 mt_7_343 cy32_2 rfl rfl mL32 rfl rfl (by decide) hcat
theorem e168_46 (hn : ip_nl l2 = true) : rf d 168 46 [l0, l1, l2, some (.int x)] s h = rf d 168 49 [l0, l1, l2, some (.int (x + 1))] s h := g_inc (q := 2) (z := 1) (w := 1) (x := x) (by decide) (by decide +kernel) rfl rfl hn
theorem e168_49 : rf d 168 49 ls s h = rf d 168 11 ls s h := rf_goto ⟨okD_ok (i := .goto (-38)) (len := 3) (by decide +kernel), rfl⟩
theorem e168_52 : rf d 168 52 ls s h = rf d 168 53 ls (.int 1 :: s) h := rf_pure (i := .iconst (1)) (len := 1) (okD_ok (by decide +kernel)) rfl
theorem e168_53 : rf d 168 53 [l0, l1, some (.int x), l3] s h = rf d 168 54 [l0, l1, some (.int x), l3] (.int x :: s) h := rf_pure (i := .iload_n 2) (len := 1) (okD_ok (by decide +kernel)) rfl
theorem e168_54 : rf d 168 54 ls (.int y :: .int x :: s) h = rf d 168 55 ls (.int (x <<< (y &&& 31)) :: s) h := rf_pure (i := .ishl) (len := 1) (okD_ok (by decide +kernel)) rfl
theorem e168_55 (hn : ip_nl l2 = true) : rf d 168 55 [l0, l1, l2, l3] (.int x :: s) h = rf d 168 56 [l0, l1, l2, some (.int x)] s h := g_sti (i := .istore_n 3) (len := 1) (q := 2) (p := 1) (by decide +kernel) rfl rfl hn
theorem e168_56 : rf d 168 56 [l0, some (.ref a), l2, l3] s h = rf d 168 57 [l0, some (.ref a), l2, l3] (.ref a :: s) h := rf_pure (i := .aload_n 1) (len := 1) (okD_ok (by decide +kernel)) rfl
theorem e168_57 (ha : isN a) : rf d 168 57 ls (.ref a :: s) (SH n, I, L, R, nc, ns, nx) = rf d 168 60 ls (.int (I a 6) :: s) (SH n, I, L, R, nc, ns, nx) := g_I (idx := 144) (by decide +kernel) ow168 f_7_144 rfl (kdN0 ha) (geN ha)
theorem e168_60 : rf d 168 60 [l0, l1, l2, some (.int x)] s h = rf d 168 61 [l0, l1, l2, some (.int x)] (.int x :: s) h := rf_pure (i := .iload_n 3) (len := 1) (okD_ok (by decide +kernel)) rfl
theorem e168_61 : rf d 168 61 ls (.int y :: .int x :: s) h = rf d 168 62 ls (.int (x &&& y) :: s) h := rf_pure (i := .iand) (len := 1) (okD_ok (by decide +kernel)) rfl
theorem e168_62 : rf d 168 62 ls (.int x :: s) h = if x = 0 then rf d 168 77 ls s h else rf d 168 65 ls s h := g_if (c := .eq) (off := 15) _ (by decide +kernel) rfl cmp_d
theorem e168_65 : rf d 168 65 [some (.ref a), l1, l2, l3] s h = rf d 168 66 [some (.ref a), l1, l2, l3] (.ref a :: s) h := rf_pure (i := .aload_n 0) (len := 1) (okD_ok (by decide +kernel)) rfl
theorem e168_66 (hR : LYR R) : rf d 168 66 ls (.ref 2 :: s) (SH n, I, L, R, nc, ns, nx) = rf d 168 69 ls (.ref 63 :: s) (SH n, I, L, R, nc, ns, nx) := g_R (idx := 63) (by decide +kernel) ow168 f_7_63 rfl rfl (by decide) (ly_2_10 hR)
theorem e168_69 : rf d 168 69 ls s h = rf d 168 71 ls (.int 63 :: s) h := rf_pure (i := .bipush (63)) (len := 2) (okD_ok (by decide +kernel)) rfl
theorem e168_71 (hcat : ip_cat s ≤ 8) : rf (d + 1) 168 71 ls (.int x0 :: .ref 63 :: s) (SH n, I, L, R, nc, ns, nx) = rf_k (d + 1) 168 71 ls s (cf d 32 [.ref 63, .int x0] (SH n, I, L, R, nc, ns, nx)) := g_cv (idx := 343) (t := 2) [.int x0] (by decide +kernel) ow168 ms_7_343 mt_7_343 cy32_2 rfl rfl mL32 rfl rfl (by decide) hcat
theorem e168_74 : rf d 168 74 ls s h = rf d 168 101 ls s h := rf_goto ⟨okD_ok (i := .goto (27)) (len := 3) (by decide +kernel), rfl⟩
theorem e168_77 : rf d 168 77 [some (.ref a), l1, l2, l3] s h = rf d 168 78 [some (.ref a), l1, l2, l3] (.ref a :: s) h := rf_pure (i := .aload_n 0) (len := 1) (okD_ok (by decide +kernel)) rfl
theorem e168_78 (hR : LYR R) : rf d 168 78 ls (.ref 2 :: s) (SH n, I, L, R, nc, ns, nx) = rf d 168 81 ls (.ref 63 :: s) (SH n, I, L, R, nc, ns, nx) := g_R (idx := 63) (by decide +kernel) ow168 f_7_63 rfl rfl (by decide) (ly_2_10 hR)
theorem e168_81 : rf d 168 81 ls s h = rf d 168 83 ls (.int 61 :: s) h := rf_pure (i := .bipush (61)) (len := 2) (okD_ok (by decide +kernel)) rfl
theorem e168_83 (hcat : ip_cat s ≤ 8) : rf (d + 1) 168 83 ls (.int x0 :: .ref 63 :: s) (SH n, I, L, R, nc, ns, nx) = rf_k (d + 1) 168 83 ls s (cf d 32 [.ref 63, .int x0] (SH n, I, L, R, nc, ns, nx)) := g_cv (idx := 343) (t := 2) [.int x0] (by decide +kernel) ow168 ms_7_343 mt_7_343 cy32_2 rfl rfl mL32 rfl rfl (by decide) hcat
theorem e168_86 : rf d 168 86 [some (.ref a), l1, l2, l3] s h = rf d 168 87 [some (.ref a), l1, l2, l3] (.ref a :: s) h := rf_pure (i := .aload_n 0) (len := 1) (okD_ok (by decide +kernel)) rfl
theorem e168_87 (hR : LYR R) : rf d 168 87 ls (.ref 2 :: s) (SH n, I, L, R, nc, ns, nx) = rf d 168 90 ls (.ref 63 :: s) (SH n, I, L, R, nc, ns, nx) := g_R (idx := 63) (by decide +kernel) ow168 f_7_63 rfl rfl (by decide) (ly_2_10 hR)
theorem e168_90 : rf d 168 90 ls s h = rf d 168 92 ls (.int 48 :: s) h := rf_pure (i := .bipush (48)) (len := 2) (okD_ok (by decide +kernel)) rfl
theorem e168_92 : rf d 168 92 [l0, some (.ref a), l2, l3] s h = rf d 168 93 [l0, some (.ref a), l2, l3] (.ref a :: s) h := rf_pure (i := .aload_n 1) (len := 1) (okD_ok (by decide +kernel)) rfl
theorem e168_93 : rf d 168 93 [l0, l1, some (.int x), l3] s h = rf d 168 94 [l0, l1, some (.int x), l3] (.int x :: s) h := rf_pure (i := .iload_n 2) (len := 1) (okD_ok (by decide +kernel)) rfl
theorem e168_94 (hb : isN b) (hcat : ip_cat s ≤ 8) : rf (d + 1) 168 94 ls (.int x0 :: .ref b :: s) (SH n, I, L, R, nc, ns, nx) = rf_k (d + 1) 168 94 ls s (cf d 117 [.ref b, .int x0] (SH n, I, L, R, nc, ns, nx)) := g_cv (idx := 295) (t := 1) [.int x0] (by decide +kernel) ow168 ms_7_295 mt_7_295 cy117_1 rfl rfl mL117 rfl (kdN0 hb) (geN hb) hcat
theorem e168_97 : rf d 168 97 ls (.int y :: .int x :: s) h = rf d 168 98 ls (.int (x + y) :: s) h := rf_pure (i := .iadd) (len := 1) (okD_ok (by decide +kernel)) rfl
theorem e168_98 (hcat : ip_cat s ≤ 8) : rf (d + 1) 168 98 ls (.int x0 :: .ref 63 :: s) (SH n, I, L, R, nc, ns, nx) = rf_k (d + 1) 168 98 ls s (cf d 32 [.ref 63, .int x0] (SH n, I, L, R, nc, ns, nx)) := g_cv (idx := 343) (t := 2) [.int x0] (by decide +kernel) ow168 ms_7_343 mt_7_343 cy32_2 rfl rfl mL32 rfl rfl (by decide) hcat
theorem e168_101 : rf d 168 101 [l0, some (.ref a), l2, l3] s h = rf d 168 102 [l0, some (.ref a), l2, l3] (.ref a :: s) h := rf_pure (i := .aload_n 1) (len := 1) (okD_ok (by decide +kernel)) rfl
theorem e168_102 (ha : isN a) : rf d 168 102 ls (.ref a :: s) (SH n, I, L, R, nc, ns, nx) = rf d 168 105 ls (.int (I a 7) :: s) (SH n, I, L, R, nc, ns, nx) := g_I (idx := 174) (by decide +kernel) ow168 f_7_174 rfl (kdN0 ha) (geN ha)
theorem e168_105 : rf d 168 105 [l0, l1, l2, some (.int x)] s h = rf d 168 106 [l0, l1, l2, some (.int x)] (.int x :: s) h := rf_pure (i := .iload_n 3) (len := 1) (okD_ok (by decide +kernel)) rfl
theorem e168_106 : rf d 168 106 ls (.int y :: .int x :: s) h = rf d 168 107 ls (.int (x &&& y) :: s) h := rf_pure (i := .iand) (len := 1) (okD_ok (by decide +kernel)) rfl
theorem e168_107 : rf d 168 107 ls (.int x :: s) h = if x = 0 then rf d 168 119 ls s h else rf d 168 110 ls s h := g_if (c := .eq) (off := 12) _ (by decide +kernel) rfl cmp_d
theorem e168_110 : rf d 168 110 [some (.ref a), l1, l2, l3] s h = rf d 168 111 [some (.ref a), l1, l2, l3] (.ref a :: s) h := rf_pure (i := .aload_n 0) (len := 1) (okD_ok (by decide +kernel)) rfl
theorem e168_111 (hR : LYR R) : rf d 168 111 ls (.ref 2 :: s) (SH n, I, L, R, nc, ns, nx) = rf d 168 114 ls (.ref 63 :: s) (SH n, I, L, R, nc, ns, nx) := g_R (idx := 63) (by decide +kernel) ow168 f_7_63 rfl rfl (by decide) (ly_2_10 hR)
theorem e168_114 : rf d 168 114 ls s h = rf d 168 116 ls (.int 33 :: s) h := rf_pure (i := .bipush (33)) (len := 2) (okD_ok (by decide +kernel)) rfl
theorem e168_116 (hcat : ip_cat s ≤ 8) : rf (d + 1) 168 116 ls (.int x0 :: .ref 63 :: s) (SH n, I, L, R, nc, ns, nx) = rf_k (d + 1) 168 116 ls s (cf d 32 [.ref 63, .int x0] (SH n, I, L, R, nc, ns, nx)) := g_cv (idx := 343) (t := 2) [.int x0] (by decide +kernel) ow168 ms_7_343 mt_7_343 cy32_2 rfl rfl mL32 rfl rfl (by decide) hcat
theorem e168_119 : rf d 168 119 ls [] h = some (.inl none, h) := g_rv (by decide +kernel) rt168
theorem en169 : cf d 169 [.ref a0, .int x1, .int x2, .int x3, .ref a4] h = rf d 169 0 [some (.ref a0), some (.int x1), some (.int x2), some (.int x3), some (.ref a4), none] [] h := rfl
theorem e169_0 : rf d 169 0 [l0, l1, l2, l3, some (.ref a), l5] s h = rf d 169 2 [l0, l1, l2, l3, some (.ref a), l5] (.ref a :: s) h := rf_pure (i := .aload 4) (len := 2) (okD_ok (by decide +kernel)) rfl
theorem e169_2 : rf d 169 2 ls s h = rf d 169 3 ls (.int 0 :: s) h := rf_pure (i := .iconst (0)) (len := 1) (okD_ok (by decide +kernel)) rfl
theorem e169_3 : rf d 169 3 [some (.ref a), l1, l2, l3, l4, l5] s h = rf d 169 4 [some (.ref a), l1, l2, l3, l4, l5] (.ref a :: s) h := rf_pure (i := .aload_n 0) (len := 1) (okD_ok (by decide +kernel)) rfl
theorem e169_4 : rf d 169 4 [l0, some (.int x), l2, l3, l4, l5] s h = rf d 169 5 [l0, some (.int x), l2, l3, l4, l5] (.int x :: s) h := rf_pure (i := .iload_n 1) (len := 1) (okD_ok (by decide +kernel)) rfl
theorem e169_5 : rf d 169 5 [l0, l1, some (.int x), l3, l4, l5] s h = rf d 169 6 [l0, l1, some (.int x), l3, l4, l5] (.int x :: s) h := rf_pure (i := .iload_n 2) (len := 1) (okD_ok (by decide +kernel)) rfl
theorem e169_6 : rf d 169 6 [l0, l1, l2, some (.int x), l4, l5] s h = rf d 169 7 [l0, l1, l2, some (.int x), l4, l5] (.int x :: s) h := rf_pure (i := .iload_n 3) (len := 1) (okD_ok (by decide +kernel)) rfl
theorem e169_7 (hcat : ip_cat s ≤ 8) : rf (d + 1) 169 7 ls (.int x2 :: .int x1 :: .int x0 :: .ref 2 :: s) (SH n, I, L, R, nc, ns, nx) = rf_k (d + 1) 169 7 ls s (cf d 170 [.ref 2, .int x0, .int x1, .int x2] (SH n, I, L, R, nc, ns, nx)) := g_cv (idx := 96) (t := 7) [.int x2, .int x1, .int x0] (by decide +kernel) ow169 ms_9_96 mt_9_96 cy170_7 rfl rfl mL170 rfl rfl (by decide) hcat
theorem e169_10 : rf d 169 10 ls (.int x :: s) h = rf d 169 11 ls (.long x.toInt64 :: s) h := rf_pure (i := .i2l) (len := 1) (okD_ok (by decide +kernel)) rfl
theorem e169_11 (q : la n a j) : rf d 169 11 ls (.long u :: .int j :: .ref a :: s) (SH n, I, L, R, nc, ns, nx) = rf d 169 12 ls s (SH n, I, ip_up L a j.toNatClampNeg u, R, nc, ns, nx) := g_las (by decide +kernel) q
theorem e169_12 : rf d 169 12 ls s h = rf d 169 23 ls s h := rf_goto ⟨okD_ok (i := .goto (11)) (len := 3) (by decide +kernel), rfl⟩
theorem e169_23 : rf d 169 23 ls s h = rf d 169 24 ls (.int 0 :: s) h := rf_pure (i := .iconst (0)) (len := 1) (okD_ok (by decide +kernel)) rfl
theorem e169_24 : rf d 169 24 ls [.int x] h = some (.inl (some (.int x)), h) := g_ri (by decide +kernel) rt169
theorem en170 : cf d 170 [.ref a, .int x0, .int x1, .int x2] h = rf d 170 0 [some (.ref a), some (.int x0), some (.int x1), some (.int x2), none, none] [] h := rfl
theorem e170_0 : rf d 170 0 [some (.ref a), l1, l2, l3, l4, l5] s h = rf d 170 1 [some (.ref a), l1, l2, l3, l4, l5] (.ref a :: s) h := rf_pure (i := .aload_n 0) (len := 1) (okD_ok (by decide +kernel)) rfl
theorem e170_1 : rf d 170 1 [l0, some (.int x), l2, l3, l4, l5] s h = rf d 170 2 [l0, some (.int x), l2, l3, l4, l5] (.int x :: s) h := rf_pure (i := .iload_n 1) (len := 1) (okD_ok (by decide +kernel)) rfl
theorem e170_2 (hcat : ip_cat s ≤ 8) : rf (d + 1) 170 2 ls (.int x0 :: .ref 2 :: s) (SH n, I, L, R, nc, ns, nx) = rf_k (d + 1) 170 2 ls s (cf d 124 [.ref 2, .int x0] (SH n, I, L, R, nc, ns, nx)) := g_cv (idx := 210) (t := 7) [.int x0] (by decide +kernel) ow170 ms_7_210 mt_7_210 cy124_7 rfl rfl mL124 rfl rfl (by decide) hcat
theorem e170_5 : rf d 170 5 [l0, l1, some (.int x), l3, l4, l5] s h = rf d 170 6 [l0, l1, some (.int x), l3, l4, l5] (.int x :: s) h := rf_pure (i := .iload_n 2) (len := 1) (okD_ok (by decide +kernel)) rfl
theorem e170_6 : rf d 170 6 ls s h = rf d 170 7 ls (.int (-1) :: s) h := rf_pure (i := .iconst (-1)) (len := 1) (okD_ok (by decide +kernel)) rfl
theorem e170_7 : rf d 170 7 ls (.int y :: .int x :: s) h = if x = y then rf d 170 14 ls s h else rf d 170 10 ls s h := g_ic (c := .eq) (off := 7) _ (by decide +kernel) rfl cmp_d
theorem e170_10 : rf d 170 10 [l0, l1, some (.int x), l3, l4, l5] s h = rf d 170 11 [l0, l1, some (.int x), l3, l4, l5] (.int x :: s) h := rf_pure (i := .iload_n 2) (len := 1) (okD_ok (by decide +kernel)) rfl
theorem e170_11 (hcat : ip_cat s ≤ 8) : rf (d + 1) 170 11 ls (.int x0 :: s) h = rf_k (d + 1) 170 11 ls s (cf d 86 [.int x0] h) := g_cs (idx := 133) [.int x0] (by decide +kernel) ow170 ms_7_133 mt_7_133 (by decide) rfl mL86 rfl hcat
theorem e170_14 : rf d 170 14 [l0, l1, l2, some (.int x), l4, l5] s h = rf d 170 15 [l0, l1, l2, some (.int x), l4, l5] (.int x :: s) h := rf_pure (i := .iload_n 3) (len := 1) (okD_ok (by decide +kernel)) rfl
theorem e170_15 : rf d 170 15 ls s h = rf d 170 16 ls (.int (-1) :: s) h := rf_pure (i := .iconst (-1)) (len := 1) (okD_ok (by decide +kernel)) rfl
theorem e170_16 : rf d 170 16 ls (.int y :: .int x :: s) h = if x < y then rf d 170 24 ls s h else rf d 170 19 ls s h := g_ic (c := .lt) (off := 8) _ (by decide +kernel) rfl cmp_d
theorem e170_19 : rf d 170 19 [l0, l1, l2, some (.int x), l4, l5] s h = rf d 170 20 [l0, l1, l2, some (.int x), l4, l5] (.int x :: s) h := rf_pure (i := .iload_n 3) (len := 1) (okD_ok (by decide +kernel)) rfl
theorem e170_20 : rf d 170 20 ls s h = rf d 170 21 ls (.int 3 :: s) h := rf_pure (i := .iconst (3)) (len := 1) (okD_ok (by decide +kernel)) rfl
theorem e170_21 : rf d 170 21 ls (.int y :: .int x :: s) h = if x < y then rf d 170 35 ls s h else rf d 170 24 ls s h := g_ic (c := .lt) (off := 14) _ (by decide +kernel) rfl cmp_d
theorem e170_24 : rf d 170 24 ls [] h = some (.inr "java/lang/IllegalArgumentException", ip_hx h) := g_thr (idx := 86) (by decide +kernel) ow170 (by decide +kernel) (by decide +kernel)
theorem e170_35 : rf d 170 35 [some (.ref a), l1, l2, l3, l4, l5] s h = rf d 170 36 [some (.ref a), l1, l2, l3, l4, l5] (.ref a :: s) h := rf_pure (i := .aload_n 0) (len := 1) (okD_ok (by decide +kernel)) rfl
theorem e170_36 (hR : LYR R) : rf d 170 36 ls (.ref 2 :: s) (SH n, I, L, R, nc, ns, nx) = rf d 170 39 ls (.ref 23 :: s) (SH n, I, L, R, nc, ns, nx) := g_R (idx := 36) (by decide +kernel) ow170 f_7_36 rfl rfl (by decide) (ly_2_5 hR)
theorem e170_39 : rf d 170 39 [l0, some (.int x), l2, l3, l4, l5] s h = rf d 170 40 [l0, some (.int x), l2, l3, l4, l5] (.int x :: s) h := rf_pure (i := .iload_n 1) (len := 1) (okD_ok (by decide +kernel)) rfl
theorem e170_40 (hR : LYR R) (q : inb j 40) : rf d 170 40 ls (.int j :: .ref 23 :: s) (SH n, I, L, R, nc, ns, nx) = rf d 170 41 ls (.ref (nd j) :: s) (SH n, I, L, R, nc, ns, nx) := g_aal (by decide +kernel) hR q
theorem e170_41 (hn : ip_nl l3 = true) : rf d 170 41 [l0, l1, l2, l3, l4, l5] (.ref a :: s) h = rf d 170 43 [l0, l1, l2, l3, some (.ref a), l5] s h := g_sta (i := .astore 4) (len := 2) (q := 3) (p := 2) (by decide +kernel) rfl rfl hn
theorem e170_43 : rf d 170 43 [l0, l1, some (.int x), l3, l4, l5] s h = rf d 170 44 [l0, l1, some (.int x), l3, l4, l5] (.int x :: s) h := rf_pure (i := .iload_n 2) (len := 1) (okD_ok (by decide +kernel)) rfl
theorem e170_44 : rf d 170 44 ls s h = rf d 170 45 ls (.int (-1) :: s) h := rf_pure (i := .iconst (-1)) (len := 1) (okD_ok (by decide +kernel)) rfl
theorem e170_45 : rf d 170 45 ls (.int y :: .int x :: s) h = if ¬ x = y then rf d 170 56 ls s h else rf d 170 48 ls s h := g_ic (c := .ne) (off := 11) _ (by decide +kernel) rfl cmp_d
theorem e170_48 : rf d 170 48 [l0, l1, l2, l3, some (.ref a), l5] s h = rf d 170 50 [l0, l1, l2, l3, some (.ref a), l5] (.ref a :: s) h := rf_pure (i := .aload 4) (len := 2) (okD_ok (by decide +kernel)) rfl
theorem e170_50 (ha : isN a) : rf d 170 50 ls (.ref a :: s) (SH n, I, L, R, nc, ns, nx) = rf d 170 53 ls (.int (I a 6) :: s) (SH n, I, L, R, nc, ns, nx) := g_I (idx := 144) (by decide +kernel) ow170 f_7_144 rfl (kdN0 ha) (geN ha)
theorem e170_53 : rf d 170 53 ls s h = rf d 170 62 ls s h := rf_goto ⟨okD_ok (i := .goto (9)) (len := 3) (by decide +kernel), rfl⟩
theorem e170_56 : rf d 170 56 [l0, l1, l2, l3, some (.ref a), l5] s h = rf d 170 58 [l0, l1, l2, l3, some (.ref a), l5] (.ref a :: s) h := rf_pure (i := .aload 4) (len := 2) (okD_ok (by decide +kernel)) rfl
theorem e170_58 : rf d 170 58 [l0, l1, some (.int x), l3, l4, l5] s h = rf d 170 59 [l0, l1, some (.int x), l3, l4, l5] (.int x :: s) h := rf_pure (i := .iload_n 2) (len := 1) (okD_ok (by decide +kernel)) rfl
theorem e170_59 (hb : isN b) (hcat : ip_cat s ≤ 8) : rf (d + 1) 170 59 ls (.int x0 :: .ref b :: s) (SH n, I, L, R, nc, ns, nx) = rf_k (d + 1) 170 59 ls s (cf d 92 [.ref b, .int x0] (SH n, I, L, R, nc, ns, nx)) := g_cv (idx := 165) (t := 1) [.int x0] (by decide +kernel) ow170 ms_7_165 mt_7_165 cy92_1 rfl rfl mL92 rfl (kdN0 hb) (geN hb) hcat
theorem e170_62 (hn : ip_nl l4 = true) : rf d 170 62 [l0, l1, l2, l3, l4, l5] (.int x :: s) h = rf d 170 64 [l0, l1, l2, l3, l4, some (.int x)] s h := g_sti (i := .istore 5) (len := 2) (q := 4) (p := 2) (by decide +kernel) rfl rfl hn
theorem e170_64 : rf d 170 64 [l0, l1, l2, some (.int x), l4, l5] s h = rf d 170 65 [l0, l1, l2, some (.int x), l4, l5] (.int x :: s) h := rf_pure (i := .iload_n 3) (len := 1) (okD_ok (by decide +kernel)) rfl
theorem e170_65 : rf d 170 65 ls s h = rf d 170 66 ls (.int (-1) :: s) h := rf_pure (i := .iconst (-1)) (len := 1) (okD_ok (by decide +kernel)) rfl
theorem e170_66 : rf d 170 66 ls (.int y :: .int x :: s) h = if ¬ x = y then rf d 170 74 ls s h else rf d 170 69 ls s h := g_ic (c := .ne) (off := 8) _ (by decide +kernel) rfl cmp_d
theorem e170_69 : rf d 170 69 [l0, l1, l2, l3, l4, some (.int x)] s h = rf d 170 71 [l0, l1, l2, l3, l4, some (.int x)] (.int x :: s) h := rf_pure (i := .iload 5) (len := 2) (okD_ok (by decide +kernel)) rfl
theorem e170_71 : rf d 170 71 ls s h = rf d 170 85 ls s h := rf_goto ⟨okD_ok (i := .goto (14)) (len := 3) (by decide +kernel), rfl⟩
theorem e170_74 : rf d 170 74 [l0, l1, l2, l3, l4, some (.int x)] s h = rf d 170 76 [l0, l1, l2, l3, l4, some (.int x)] (.int x :: s) h := rf_pure (i := .iload 5) (len := 2) (okD_ok (by decide +kernel)) rfl
theorem e170_76 : rf d 170 76 [some (.ref a), l1, l2, l3, l4, l5] s h = rf d 170 77 [some (.ref a), l1, l2, l3, l4, l5] (.ref a :: s) h := rf_pure (i := .aload_n 0) (len := 1) (okD_ok (by decide +kernel)) rfl
theorem e170_77 : rf d 170 77 ls (.ref 2 :: s) (SH n, I, L, R, nc, ns, nx) = rf d 170 80 ls (ip_rf (R 2 4) :: s) (SH n, I, L, R, nc, ns, nx) := g_R (idx := 30) (by decide +kernel) ow170 f_7_30 rfl rfl (by decide) rfl
theorem e170_80 : rf d 170 80 [l0, l1, l2, some (.int x), l4, l5] s h = rf d 170 81 [l0, l1, l2, some (.int x), l4, l5] (.int x :: s) h := rf_pure (i := .iload_n 3) (len := 1) (okD_ok (by decide +kernel)) rfl
theorem e170_81 (hb : isT b) (hcat : ip_cat s ≤ 8) : rf (d + 1) 170 81 ls (.int x0 :: .ref b :: s) (SH n, I, L, R, nc, ns, nx) = rf_k (d + 1) 170 81 ls s (cf d 102 [.ref b, .int x0] (SH n, I, L, R, nc, ns, nx)) := g_cv (idx := 351) (t := 6) [.int x0] (by decide +kernel) ow170 ms_7_351 mt_7_351 cy102_6 rfl rfl mL102 rfl (kdT0 hb) (geT hb) hcat
theorem e170_84 : rf d 170 84 ls (.int y :: .int x :: s) h = rf d 170 85 ls (.int (x &&& y) :: s) h := rf_pure (i := .iand) (len := 1) (okD_ok (by decide +kernel)) rfl
theorem e170_85 (hcat : ip_cat s ≤ 8) : rf (d + 1) 170 85 ls (.int x0 :: s) h = rf_k (d + 1) 170 85 ls s (cf d 19 [.int x0] h) := g_cs (idx := 156) [.int x0] (by decide +kernel) ow170 ms_7_156 mt_7_156 (by decide) rfl mL19 rfl hcat
theorem e170_88 : rf d 170 88 ls [.int x] h = some (.inl (some (.int x)), h) := g_ri (by decide +kernel) rt170
theorem en171 : cf d 171 [.ref a0, .int x1, .int x2, .ref a3] h = rf d 171 0 [some (.ref a0), some (.int x1), some (.int x2), some (.ref a3), none] [] h := rfl
theorem e171_0 : rf d 171 0 [l0, l1, l2, some (.ref a), l4] s h = rf d 171 1 [l0, l1, l2, some (.ref a), l4] (.ref a :: s) h := rf_pure (i := .aload_n 3) (len := 1) (okD_ok (by decide +kernel)) rfl
theorem e171_1 : rf d 171 1 ls s h = rf d 171 2 ls (.int 0 :: s) h := rf_pure (i := .iconst (0)) (len := 1) (okD_ok (by decide +kernel)) rfl
theorem e171_2 : rf d 171 2 [some (.ref a), l1, l2, l3, l4] s h = rf d 171 3 [some (.ref a), l1, l2, l3, l4] (.ref a :: s) h := rf_pure (i := .aload_n 0) (len := 1) (okD_ok (by decide +kernel)) rfl
theorem e171_3 : rf d 171 3 [l0, some (.int x), l2, l3, l4] s h = rf d 171 4 [l0, some (.int x), l2, l3, l4] (.int x :: s) h := rf_pure (i := .iload_n 1) (len := 1) (okD_ok (by decide +kernel)) rfl
theorem e171_4 : rf d 171 4 [l0, l1, some (.int x), l3, l4] s h = rf d 171 5 [l0, l1, some (.int x), l3, l4] (.int x :: s) h := rf_pure (i := .iload_n 2) (len := 1) (okD_ok (by decide +kernel)) rfl
theorem e171_5 (hcat : ip_cat s ≤ 8) : rf (d + 1) 171 5 ls (.int x1 :: .int x0 :: .ref 2 :: s) (SH n, I, L, R, nc, ns, nx) = rf_k (d + 1) 171 5 ls s (cf d 172 [.ref 2, .int x0, .int x1] (SH n, I, L, R, nc, ns, nx)) := g_cv (idx := 99) (t := 7) [.int x1, .int x0] (by decide +kernel) ow171 ms_9_99 mt_9_99 cy172_7 rfl rfl mL172 rfl rfl (by decide) hcat
theorem e171_8 : rf d 171 8 ls (.int x :: s) h = rf d 171 9 ls (.long x.toInt64 :: s) h := rf_pure (i := .i2l) (len := 1) (okD_ok (by decide +kernel)) rfl
theorem e171_9 (q : la n a j) : rf d 171 9 ls (.long u :: .int j :: .ref a :: s) (SH n, I, L, R, nc, ns, nx) = rf d 171 10 ls s (SH n, I, ip_up L a j.toNatClampNeg u, R, nc, ns, nx) := g_las (by decide +kernel) q
theorem e171_10 : rf d 171 10 ls s h = rf d 171 17 ls s h := rf_goto ⟨okD_ok (i := .goto (7)) (len := 3) (by decide +kernel), rfl⟩
theorem e171_17 : rf d 171 17 ls s h = rf d 171 18 ls (.int 0 :: s) h := rf_pure (i := .iconst (0)) (len := 1) (okD_ok (by decide +kernel)) rfl
theorem e171_18 : rf d 171 18 ls [.int x] h = some (.inl (some (.int x)), h) := g_ri (by decide +kernel) rt171
theorem en172 : cf d 172 [.ref a, .int x0, .int x1] h = rf d 172 0 [some (.ref a), some (.int x0), some (.int x1), none, none] [] h := rfl
theorem e172_0 : rf d 172 0 [some (.ref a), l1, l2, l3, l4] s h = rf d 172 1 [some (.ref a), l1, l2, l3, l4] (.ref a :: s) h := rf_pure (i := .aload_n 0) (len := 1) (okD_ok (by decide +kernel)) rfl
theorem e172_1 : rf d 172 1 [l0, some (.int x), l2, l3, l4] s h = rf d 172 2 [l0, some (.int x), l2, l3, l4] (.int x :: s) h := rf_pure (i := .iload_n 1) (len := 1) (okD_ok (by decide +kernel)) rfl
theorem e172_2 (hcat : ip_cat s ≤ 8) : rf (d + 1) 172 2 ls (.int x0 :: .ref 2 :: s) (SH n, I, L, R, nc, ns, nx) = rf_k (d + 1) 172 2 ls s (cf d 124 [.ref 2, .int x0] (SH n, I, L, R, nc, ns, nx)) := g_cv (idx := 210) (t := 7) [.int x0] (by decide +kernel) ow172 ms_7_210 mt_7_210 cy124_7 rfl rfl mL124 rfl rfl (by decide) hcat
theorem e172_5 : rf d 172 5 [some (.ref a), l1, l2, l3, l4] s h = rf d 172 6 [some (.ref a), l1, l2, l3, l4] (.ref a :: s) h := rf_pure (i := .aload_n 0) (len := 1) (okD_ok (by decide +kernel)) rfl
theorem e172_6 : rf d 172 6 [l0, l1, some (.int x), l3, l4] s h = rf d 172 7 [l0, l1, some (.int x), l3, l4] (.int x :: s) h := rf_pure (i := .iload_n 2) (len := 1) (okD_ok (by decide +kernel)) rfl
theorem e172_7 (hcat : ip_cat s ≤ 8) : rf (d + 1) 172 7 ls (.int x0 :: .ref 2 :: s) (SH n, I, L, R, nc, ns, nx) = rf_k (d + 1) 172 7 ls s (cf d 124 [.ref 2, .int x0] (SH n, I, L, R, nc, ns, nx)) := g_cv (idx := 210) (t := 7) [.int x0] (by decide +kernel) ow172 ms_7_210 mt_7_210 cy124_7 rfl rfl mL124 rfl rfl (by decide) hcat
theorem e172_10 : rf d 172 10 [some (.ref a), l1, l2, l3, l4] s h = rf d 172 11 [some (.ref a), l1, l2, l3, l4] (.ref a :: s) h := rf_pure (i := .aload_n 0) (len := 1) (okD_ok (by decide +kernel)) rfl
theorem e172_11 (hR : LYR R) : rf d 172 11 ls (.ref 2 :: s) (SH n, I, L, R, nc, ns, nx) = rf d 172 14 ls (.ref 23 :: s) (SH n, I, L, R, nc, ns, nx) := g_R (idx := 36) (by decide +kernel) ow172 f_7_36 rfl rfl (by decide) (ly_2_5 hR)
theorem e172_14 : rf d 172 14 [l0, some (.int x), l2, l3, l4] s h = rf d 172 15 [l0, some (.int x), l2, l3, l4] (.int x :: s) h := rf_pure (i := .iload_n 1) (len := 1) (okD_ok (by decide +kernel)) rfl
theorem e172_15 (hR : LYR R) (q : inb j 40) : rf d 172 15 ls (.int j :: .ref 23 :: s) (SH n, I, L, R, nc, ns, nx) = rf d 172 16 ls (.ref (nd j) :: s) (SH n, I, L, R, nc, ns, nx) := g_aal (by decide +kernel) hR q
theorem e172_16 (hn : ip_nl l2 = true) : rf d 172 16 [l0, l1, l2, l3, l4] (.ref a :: s) h = rf d 172 17 [l0, l1, l2, some (.ref a), l4] s h := g_sta (i := .astore_n 3) (len := 1) (q := 2) (p := 1) (by decide +kernel) rfl rfl hn
theorem e172_17 : rf d 172 17 [some (.ref a), l1, l2, l3, l4] s h = rf d 172 18 [some (.ref a), l1, l2, l3, l4] (.ref a :: s) h := rf_pure (i := .aload_n 0) (len := 1) (okD_ok (by decide +kernel)) rfl
theorem e172_18 (hR : LYR R) : rf d 172 18 ls (.ref 2 :: s) (SH n, I, L, R, nc, ns, nx) = rf d 172 21 ls (.ref 23 :: s) (SH n, I, L, R, nc, ns, nx) := g_R (idx := 36) (by decide +kernel) ow172 f_7_36 rfl rfl (by decide) (ly_2_5 hR)
theorem e172_21 : rf d 172 21 [l0, l1, some (.int x), l3, l4] s h = rf d 172 22 [l0, l1, some (.int x), l3, l4] (.int x :: s) h := rf_pure (i := .iload_n 2) (len := 1) (okD_ok (by decide +kernel)) rfl
theorem e172_22 (hR : LYR R) (q : inb j 40) : rf d 172 22 ls (.int j :: .ref 23 :: s) (SH n, I, L, R, nc, ns, nx) = rf d 172 23 ls (.ref (nd j) :: s) (SH n, I, L, R, nc, ns, nx) := g_aal (by decide +kernel) hR q
theorem e172_23 (hn : ip_nl l3 = true) : rf d 172 23 [l0, l1, l2, l3, l4] (.ref a :: s) h = rf d 172 25 [l0, l1, l2, l3, some (.ref a)] s h := g_sta (i := .astore 4) (len := 2) (q := 3) (p := 2) (by decide +kernel) rfl rfl hn
theorem e172_25 : rf d 172 25 [l0, l1, l2, some (.ref a), l4] s h = rf d 172 26 [l0, l1, l2, some (.ref a), l4] (.ref a :: s) h := rf_pure (i := .aload_n 3) (len := 1) (okD_ok (by decide +kernel)) rfl
theorem e172_26 (ha : isN a) : rf d 172 26 ls (.ref a :: s) (SH n, I, L, R, nc, ns, nx) = rf d 172 29 ls (.int (I a 4) :: s) (SH n, I, L, R, nc, ns, nx) := g_I (idx := 265) (by decide +kernel) ow172 f_7_265 rfl (kdN0 ha) (geN ha)
theorem e172_29 : rf d 172 29 [l0, l1, l2, l3, some (.ref a)] s h = rf d 172 31 [l0, l1, l2, l3, some (.ref a)] (.ref a :: s) h := rf_pure (i := .aload 4) (len := 2) (okD_ok (by decide +kernel)) rfl
theorem e172_31 (ha : isN a) : rf d 172 31 ls (.ref a :: s) (SH n, I, L, R, nc, ns, nx) = rf d 172 34 ls (.int (I a 4) :: s) (SH n, I, L, R, nc, ns, nx) := g_I (idx := 265) (by decide +kernel) ow172 f_7_265 rfl (kdN0 ha) (geN ha)
theorem e172_34 : rf d 172 34 ls (.int y :: .int x :: s) h = rf d 172 35 ls (.int (x ^^^ y) :: s) h := rf_pure (i := .ixor) (len := 1) (okD_ok (by decide +kernel)) rfl
theorem e172_35 : rf d 172 35 [l0, l1, l2, some (.ref a), l4] s h = rf d 172 36 [l0, l1, l2, some (.ref a), l4] (.ref a :: s) h := rf_pure (i := .aload_n 3) (len := 1) (okD_ok (by decide +kernel)) rfl
theorem e172_36 (ha : isN a) : rf d 172 36 ls (.ref a :: s) (SH n, I, L, R, nc, ns, nx) = rf d 172 39 ls (.int (I a 5) :: s) (SH n, I, L, R, nc, ns, nx) := g_I (idx := 354) (by decide +kernel) ow172 f_7_354 rfl (kdN0 ha) (geN ha)
theorem e172_39 : rf d 172 39 [l0, l1, l2, l3, some (.ref a)] s h = rf d 172 41 [l0, l1, l2, l3, some (.ref a)] (.ref a :: s) h := rf_pure (i := .aload 4) (len := 2) (okD_ok (by decide +kernel)) rfl
theorem e172_41 (ha : isN a) : rf d 172 41 ls (.ref a :: s) (SH n, I, L, R, nc, ns, nx) = rf d 172 44 ls (.int (I a 5) :: s) (SH n, I, L, R, nc, ns, nx) := g_I (idx := 354) (by decide +kernel) ow172 f_7_354 rfl (kdN0 ha) (geN ha)
theorem e172_44 : rf d 172 44 ls (.int y :: .int x :: s) h = rf d 172 45 ls (.int (x ^^^ y) :: s) h := rf_pure (i := .ixor) (len := 1) (okD_ok (by decide +kernel)) rfl
theorem e172_45 : rf d 172 45 ls (.int y :: .int x :: s) h = rf d 172 46 ls (.int (x ||| y) :: s) h := rf_pure (i := .ior) (len := 1) (okD_ok (by decide +kernel)) rfl
theorem e172_46 : rf d 172 46 ls [.int x] h = some (.inl (some (.int x)), h) := g_ri (by decide +kernel) rt172
theorem en173 : cf d 173 [.ref a0, .int x1, .ref a2] h = rf d 173 0 [some (.ref a0), some (.int x1), some (.ref a2), none] [] h := rfl
theorem e173_0 : rf d 173 0 [l0, l1, some (.ref a), l3] s h = rf d 173 1 [l0, l1, some (.ref a), l3] (.ref a :: s) h := rf_pure (i := .aload_n 2) (len := 1) (okD_ok (by decide +kernel)) rfl
theorem e173_1 : rf d 173 1 ls s h = rf d 173 2 ls (.int 0 :: s) h := rf_pure (i := .iconst (0)) (len := 1) (okD_ok (by decide +kernel)) rfl
theorem e173_2 : rf d 173 2 [some (.ref a), l1, l2, l3] s h = rf d 173 3 [some (.ref a), l1, l2, l3] (.ref a :: s) h := rf_pure (i := .aload_n 0) (len := 1) (okD_ok (by decide +kernel)) rfl
theorem e173_3 : rf d 173 3 [l0, some (.int x), l2, l3] s h = rf d 173 4 [l0, some (.int x), l2, l3] (.int x :: s) h := rf_pure (i := .iload_n 1) (len := 1) (okD_ok (by decide +kernel)) rfl
theorem e173_4 (hcat : ip_cat s ≤ 8) : rf (d + 1) 173 4 ls (.int x0 :: .ref 2 :: s) (SH n, I, L, R, nc, ns, nx) = rf_k (d + 1) 173 4 ls s (cf d 174 [.ref 2, .int x0] (SH n, I, L, R, nc, ns, nx)) := g_cv (idx := 102) (t := 7) [.int x0] (by decide +kernel) ow173 ms_9_102 mt_9_102 cy174_7 rfl rfl mL174 rfl rfl (by decide) hcat
theorem e173_7 : rf d 173 7 ls (.int x :: s) h = rf d 173 8 ls (.long x.toInt64 :: s) h := rf_pure (i := .i2l) (len := 1) (okD_ok (by decide +kernel)) rfl
theorem e173_8 (q : la n a j) : rf d 173 8 ls (.long u :: .int j :: .ref a :: s) (SH n, I, L, R, nc, ns, nx) = rf d 173 9 ls s (SH n, I, ip_up L a j.toNatClampNeg u, R, nc, ns, nx) := g_las (by decide +kernel) q
theorem e173_9 : rf d 173 9 ls s h = rf d 173 15 ls s h := rf_goto ⟨okD_ok (i := .goto (6)) (len := 3) (by decide +kernel), rfl⟩
theorem e173_15 : rf d 173 15 ls s h = rf d 173 16 ls (.int 0 :: s) h := rf_pure (i := .iconst (0)) (len := 1) (okD_ok (by decide +kernel)) rfl
theorem e173_16 : rf d 173 16 ls [.int x] h = some (.inl (some (.int x)), h) := g_ri (by decide +kernel) rt173
theorem en174 : cf d 174 [.ref a, .int x0] h = rf d 174 0 [some (.ref a), some (.int x0), none, none, none, none] [] h := rfl
theorem e174_0 : rf d 174 0 [some (.ref a), l1, l2, l3, l4, l5] s h = rf d 174 1 [some (.ref a), l1, l2, l3, l4, l5] (.ref a :: s) h := rf_pure (i := .aload_n 0) (len := 1) (okD_ok (by decide +kernel)) rfl
theorem e174_1 : rf d 174 1 [l0, some (.int x), l2, l3, l4, l5] s h = rf d 174 2 [l0, some (.int x), l2, l3, l4, l5] (.int x :: s) h := rf_pure (i := .iload_n 1) (len := 1) (okD_ok (by decide +kernel)) rfl
theorem e174_2 (hcat : ip_cat s ≤ 8) : rf (d + 1) 174 2 ls (.int x0 :: .ref 2 :: s) (SH n, I, L, R, nc, ns, nx) = rf_k (d + 1) 174 2 ls s (cf d 124 [.ref 2, .int x0] (SH n, I, L, R, nc, ns, nx)) := g_cv (idx := 210) (t := 7) [.int x0] (by decide +kernel) ow174 ms_7_210 mt_7_210 cy124_7 rfl rfl mL124 rfl rfl (by decide) hcat
theorem e174_5 : rf d 174 5 [some (.ref a), l1, l2, l3, l4, l5] s h = rf d 174 6 [some (.ref a), l1, l2, l3, l4, l5] (.ref a :: s) h := rf_pure (i := .aload_n 0) (len := 1) (okD_ok (by decide +kernel)) rfl
theorem e174_6 (hR : LYR R) : rf d 174 6 ls (.ref 2 :: s) (SH n, I, L, R, nc, ns, nx) = rf d 174 9 ls (.ref 23 :: s) (SH n, I, L, R, nc, ns, nx) := g_R (idx := 36) (by decide +kernel) ow174 f_7_36 rfl rfl (by decide) (ly_2_5 hR)
theorem e174_9 : rf d 174 9 [l0, some (.int x), l2, l3, l4, l5] s h = rf d 174 10 [l0, some (.int x), l2, l3, l4, l5] (.int x :: s) h := rf_pure (i := .iload_n 1) (len := 1) (okD_ok (by decide +kernel)) rfl
theorem e174_10 (hR : LYR R) (q : inb j 40) : rf d 174 10 ls (.int j :: .ref 23 :: s) (SH n, I, L, R, nc, ns, nx) = rf d 174 11 ls (.ref (nd j) :: s) (SH n, I, L, R, nc, ns, nx) := g_aal (by decide +kernel) hR q
theorem e174_11 (hn : ip_nl l1 = true) : rf d 174 11 [l0, l1, l2, l3, l4, l5] (.ref a :: s) h = rf d 174 12 [l0, l1, some (.ref a), l3, l4, l5] s h := g_sta (i := .astore_n 2) (len := 1) (q := 1) (p := 1) (by decide +kernel) rfl rfl hn
theorem e174_12 : rf d 174 12 [l0, l1, some (.ref a), l3, l4, l5] s h = rf d 174 13 [l0, l1, some (.ref a), l3, l4, l5] (.ref a :: s) h := rf_pure (i := .aload_n 2) (len := 1) (okD_ok (by decide +kernel)) rfl
theorem e174_13 (ha : isN a) : rf d 174 13 ls (.ref a :: s) (SH n, I, L, R, nc, ns, nx) = rf d 174 16 ls (.int (I a 0) :: s) (SH n, I, L, R, nc, ns, nx) := g_I (idx := 138) (by decide +kernel) ow174 f_7_138 rfl (kdN0 ha) (geN ha)
theorem e174_16 : rf d 174 16 ls (.int x :: s) h = if x = 0 then rf d 174 21 ls s h else rf d 174 19 ls s h := g_if (c := .eq) (off := 5) _ (by decide +kernel) rfl cmp_d
theorem e174_19 : rf d 174 19 ls s h = rf d 174 20 ls (.int 0 :: s) h := rf_pure (i := .iconst (0)) (len := 1) (okD_ok (by decide +kernel)) rfl
theorem e174_20 : rf d 174 20 ls [.int x] h = some (.inl (some (.int x)), h) := g_ri (by decide +kernel) rt174
theorem e174_21 : rf d 174 21 [l0, l1, some (.ref a), l3, l4, l5] s h = rf d 174 22 [l0, l1, some (.ref a), l3, l4, l5] (.ref a :: s) h := rf_pure (i := .aload_n 2) (len := 1) (okD_ok (by decide +kernel)) rfl
theorem e174_22 (ha : isN a) : rf d 174 22 ls (.ref a :: s) (SH n, I, L, R, nc, ns, nx) = rf d 174 25 ls (.int (I a 1) :: s) (SH n, I, L, R, nc, ns, nx) := g_I (idx := 279) (by decide +kernel) ow174 f_7_279 rfl (kdN0 ha) (geN ha)
theorem e174_25 (hn : ip_nl l2 = true) : rf d 174 25 [l0, l1, l2, l3, l4, l5] (.int x :: s) h = rf d 174 26 [l0, l1, l2, some (.int x), l4, l5] s h := g_sti (i := .istore_n 3) (len := 1) (q := 2) (p := 1) (by decide +kernel) rfl rfl hn
theorem e174_26 : rf d 174 26 ls s h = rf d 174 27 ls (.int 0 :: s) h := rf_pure (i := .iconst (0)) (len := 1) (okD_ok (by decide +kernel)) rfl
theorem e174_27 (hn : ip_nl l3 = true) : rf d 174 27 [l0, l1, l2, l3, l4, l5] (.int x :: s) h = rf d 174 29 [l0, l1, l2, l3, some (.int x), l5] s h := g_sti (i := .istore 4) (len := 2) (q := 3) (p := 2) (by decide +kernel) rfl rfl hn
theorem e174_29 : rf d 174 29 [l0, l1, l2, l3, some (.int x), l5] s h = rf d 174 31 [l0, l1, l2, l3, some (.int x), l5] (.int x :: s) h := rf_pure (i := .iload 4) (len := 2) (okD_ok (by decide +kernel)) rfl
theorem e174_31 : rf d 174 31 ls s h = rf d 174 33 ls (.int 40 :: s) h := rf_pure (i := .bipush (40)) (len := 2) (okD_ok (by decide +kernel)) rfl
theorem e174_33 : rf d 174 33 ls (.int y :: .int x :: s) h = if y ≤ x then rf d 174 82 ls s h else rf d 174 36 ls s h := g_ic (c := .ge) (off := 49) _ (by decide +kernel) rfl cmp_d
theorem e174_36 : rf d 174 36 [l0, l1, l2, some (.int x), l4, l5] s h = rf d 174 37 [l0, l1, l2, some (.int x), l4, l5] (.int x :: s) h := rf_pure (i := .iload_n 3) (len := 1) (okD_ok (by decide +kernel)) rfl
theorem e174_37 : rf d 174 37 ls s h = rf d 174 38 ls (.int (-1) :: s) h := rf_pure (i := .iconst (-1)) (len := 1) (okD_ok (by decide +kernel)) rfl
theorem e174_38 : rf d 174 38 ls (.int y :: .int x :: s) h = if x = y then rf d 174 82 ls s h else rf d 174 41 ls s h := g_ic (c := .eq) (off := 44) _ (by decide +kernel) rfl cmp_d
theorem e174_41 : rf d 174 41 [some (.ref a), l1, l2, l3, l4, l5] s h = rf d 174 42 [some (.ref a), l1, l2, l3, l4, l5] (.ref a :: s) h := rf_pure (i := .aload_n 0) (len := 1) (okD_ok (by decide +kernel)) rfl
theorem e174_42 (hR : LYR R) : rf d 174 42 ls (.ref 2 :: s) (SH n, I, L, R, nc, ns, nx) = rf d 174 45 ls (.ref 23 :: s) (SH n, I, L, R, nc, ns, nx) := g_R (idx := 36) (by decide +kernel) ow174 f_7_36 rfl rfl (by decide) (ly_2_5 hR)
theorem e174_45 : rf d 174 45 [l0, l1, l2, some (.int x), l4, l5] s h = rf d 174 46 [l0, l1, l2, some (.int x), l4, l5] (.int x :: s) h := rf_pure (i := .iload_n 3) (len := 1) (okD_ok (by decide +kernel)) rfl
theorem e174_46 (hR : LYR R) (q : inb j 40) : rf d 174 46 ls (.int j :: .ref 23 :: s) (SH n, I, L, R, nc, ns, nx) = rf d 174 47 ls (.ref (nd j) :: s) (SH n, I, L, R, nc, ns, nx) := g_aal (by decide +kernel) hR q
theorem e174_47 (hn : ip_nl l4 = true) : rf d 174 47 [l0, l1, l2, l3, l4, l5] (.ref a :: s) h = rf d 174 49 [l0, l1, l2, l3, l4, some (.ref a)] s h := g_sta (i := .astore 5) (len := 2) (q := 4) (p := 2) (by decide +kernel) rfl rfl hn
theorem e174_49 : rf d 174 49 [l0, l1, l2, l3, l4, some (.ref a)] s h = rf d 174 51 [l0, l1, l2, l3, l4, some (.ref a)] (.ref a :: s) h := rf_pure (i := .aload 5) (len := 2) (okD_ok (by decide +kernel)) rfl
theorem e174_51 (ha : isN a) : rf d 174 51 ls (.ref a :: s) (SH n, I, L, R, nc, ns, nx) = rf d 174 54 ls (.int (I a 0) :: s) (SH n, I, L, R, nc, ns, nx) := g_I (idx := 138) (by decide +kernel) ow174 f_7_138 rfl (kdN0 ha) (geN ha)
theorem e174_54 : rf d 174 54 ls (.int x :: s) h = if ¬ x = 0 then rf d 174 70 ls s h else rf d 174 57 ls s h := g_if (c := .ne) (off := 16) _ (by decide +kernel) rfl cmp_d
theorem e174_57 : rf d 174 57 [l0, l1, some (.ref a), l3, l4, l5] s h = rf d 174 58 [l0, l1, some (.ref a), l3, l4, l5] (.ref a :: s) h := rf_pure (i := .aload_n 2) (len := 1) (okD_ok (by decide +kernel)) rfl
theorem e174_58 (ha : isN a) : rf d 174 58 ls (.ref a :: s) (SH n, I, L, R, nc, ns, nx) = rf d 174 61 ls (.int (I a 3) :: s) (SH n, I, L, R, nc, ns, nx) := g_I (idx := 141) (by decide +kernel) ow174 f_7_141 rfl (kdN0 ha) (geN ha)
theorem e174_61 : rf d 174 61 [l0, l1, l2, l3, l4, some (.ref a)] s h = rf d 174 63 [l0, l1, l2, l3, l4, some (.ref a)] (.ref a :: s) h := rf_pure (i := .aload 5) (len := 2) (okD_ok (by decide +kernel)) rfl
theorem e174_63 (ha : isN a) : rf d 174 63 ls (.ref a :: s) (SH n, I, L, R, nc, ns, nx) = rf d 174 66 ls (.int (I a 3) :: s) (SH n, I, L, R, nc, ns, nx) := g_I (idx := 141) (by decide +kernel) ow174 f_7_141 rfl (kdN0 ha) (geN ha)
theorem e174_66 : rf d 174 66 ls s h = rf d 174 67 ls (.int (-1) :: s) h := rf_pure (i := .iconst (-1)) (len := 1) (okD_ok (by decide +kernel)) rfl
theorem e174_67 : rf d 174 67 ls (.int y :: .int x :: s) h = rf d 174 68 ls (.int (x ^^^ y) :: s) h := rf_pure (i := .ixor) (len := 1) (okD_ok (by decide +kernel)) rfl
theorem e174_68 : rf d 174 68 ls (.int y :: .int x :: s) h = rf d 174 69 ls (.int (x &&& y) :: s) h := rf_pure (i := .iand) (len := 1) (okD_ok (by decide +kernel)) rfl
theorem e174_69 : rf d 174 69 ls [.int x] h = some (.inl (some (.int x)), h) := g_ri (by decide +kernel) rt174
theorem e174_70 : rf d 174 70 [l0, l1, l2, l3, l4, some (.ref a)] s h = rf d 174 72 [l0, l1, l2, l3, l4, some (.ref a)] (.ref a :: s) h := rf_pure (i := .aload 5) (len := 2) (okD_ok (by decide +kernel)) rfl
theorem e174_72 (ha : isN a) : rf d 174 72 ls (.ref a :: s) (SH n, I, L, R, nc, ns, nx) = rf d 174 75 ls (.int (I a 1) :: s) (SH n, I, L, R, nc, ns, nx) := g_I (idx := 279) (by decide +kernel) ow174 f_7_279 rfl (kdN0 ha) (geN ha)
theorem e174_75 (hn : ip_nl l2 = true) : rf d 174 75 [l0, l1, l2, l3, l4, l5] (.int x :: s) h = rf d 174 76 [l0, l1, l2, some (.int x), l4, l5] s h := g_sti (i := .istore_n 3) (len := 1) (q := 2) (p := 1) (by decide +kernel) rfl rfl hn
theorem e174_76 (hn : ip_nl l3 = true) : rf d 174 76 [l0, l1, l2, l3, some (.int x), l5] s h = rf d 174 79 [l0, l1, l2, l3, some (.int (x + 1)), l5] s h := g_inc (q := 3) (z := 1) (w := 1) (x := x) (by decide) (by decide +kernel) rfl rfl hn
theorem e174_79 : rf d 174 79 ls s h = rf d 174 29 ls s h := rf_goto ⟨okD_ok (i := .goto (-50)) (len := 3) (by decide +kernel), rfl⟩
theorem e174_82 : rf d 174 82 ls s h = rf d 174 83 ls (.int 0 :: s) h := rf_pure (i := .iconst (0)) (len := 1) (okD_ok (by decide +kernel)) rfl
theorem e174_83 : rf d 174 83 ls [.int x] h = some (.inl (some (.int x)), h) := g_ri (by decide +kernel) rt174
theorem en175 : cf d 175 [.ref a0, .int x1, .int x2, .ref a3] h = rf d 175 0 [some (.ref a0), some (.int x1), some (.int x2), some (.ref a3), none] [] h := rfl
theorem e175_0 : rf d 175 0 [l0, l1, l2, some (.ref a), l4] s h = rf d 175 1 [l0, l1, l2, some (.ref a), l4] (.ref a :: s) h := rf_pure (i := .aload_n 3) (len := 1) (okD_ok (by decide +kernel)) rfl
theorem e175_1 : rf d 175 1 ls s h = rf d 175 2 ls (.int 0 :: s) h := rf_pure (i := .iconst (0)) (len := 1) (okD_ok (by decide +kernel)) rfl
theorem e175_2 : rf d 175 2 [some (.ref a), l1, l2, l3, l4] s h = rf d 175 3 [some (.ref a), l1, l2, l3, l4] (.ref a :: s) h := rf_pure (i := .aload_n 0) (len := 1) (okD_ok (by decide +kernel)) rfl
theorem e175_3 : rf d 175 3 [l0, some (.int x), l2, l3, l4] s h = rf d 175 4 [l0, some (.int x), l2, l3, l4] (.int x :: s) h := rf_pure (i := .iload_n 1) (len := 1) (okD_ok (by decide +kernel)) rfl
theorem e175_4 : rf d 175 4 [l0, l1, some (.int x), l3, l4] s h = rf d 175 5 [l0, l1, some (.int x), l3, l4] (.int x :: s) h := rf_pure (i := .iload_n 2) (len := 1) (okD_ok (by decide +kernel)) rfl
theorem e175_5 (hcat : ip_cat s ≤ 8) : rf (d + 1) 175 5 ls (.int x1 :: .int x0 :: .ref 2 :: s) (SH n, I, L, R, nc, ns, nx) = rf_k (d + 1) 175 5 ls s (cf d 176 [.ref 2, .int x0, .int x1] (SH n, I, L, R, nc, ns, nx)) := g_cv (idx := 105) (t := 7) [.int x1, .int x0] (by decide +kernel) ow175 ms_9_105 mt_9_105 cy176_7 rfl rfl mL176 rfl rfl (by decide) hcat
theorem e175_8 : rf d 175 8 ls (.int x :: s) h = rf d 175 9 ls (.long x.toInt64 :: s) h := rf_pure (i := .i2l) (len := 1) (okD_ok (by decide +kernel)) rfl
theorem e175_9 (q : la n a j) : rf d 175 9 ls (.long u :: .int j :: .ref a :: s) (SH n, I, L, R, nc, ns, nx) = rf d 175 10 ls s (SH n, I, ip_up L a j.toNatClampNeg u, R, nc, ns, nx) := g_las (by decide +kernel) q
theorem e175_10 : rf d 175 10 ls s h = rf d 175 17 ls s h := rf_goto ⟨okD_ok (i := .goto (7)) (len := 3) (by decide +kernel), rfl⟩
theorem e175_17 : rf d 175 17 ls s h = rf d 175 18 ls (.int 0 :: s) h := rf_pure (i := .iconst (0)) (len := 1) (okD_ok (by decide +kernel)) rfl
theorem e175_18 : rf d 175 18 ls [.int x] h = some (.inl (some (.int x)), h) := g_ri (by decide +kernel) rt175
theorem en176 : cf d 176 [.ref a, .int x0, .int x1] h = rf d 176 0 [some (.ref a), some (.int x0), some (.int x1), none] [] h := rfl
theorem e176_0 : rf d 176 0 [some (.ref a), l1, l2, l3] s h = rf d 176 1 [some (.ref a), l1, l2, l3] (.ref a :: s) h := rf_pure (i := .aload_n 0) (len := 1) (okD_ok (by decide +kernel)) rfl
theorem e176_1 : rf d 176 1 [l0, some (.int x), l2, l3] s h = rf d 176 2 [l0, some (.int x), l2, l3] (.int x :: s) h := rf_pure (i := .iload_n 1) (len := 1) (okD_ok (by decide +kernel)) rfl
theorem e176_2 (hcat : ip_cat s ≤ 8) : rf (d + 1) 176 2 ls (.int x0 :: .ref 2 :: s) (SH n, I, L, R, nc, ns, nx) = rf_k (d + 1) 176 2 ls s (cf d 124 [.ref 2, .int x0] (SH n, I, L, R, nc, ns, nx)) := g_cv (idx := 210) (t := 7) [.int x0] (by decide +kernel) ow176 ms_7_210 mt_7_210 cy124_7 rfl rfl mL124 rfl rfl (by decide) hcat
theorem e176_5 : rf d 176 5 [some (.ref a), l1, l2, l3] s h = rf d 176 6 [some (.ref a), l1, l2, l3] (.ref a :: s) h := rf_pure (i := .aload_n 0) (len := 1) (okD_ok (by decide +kernel)) rfl
theorem e176_6 : rf d 176 6 [l0, some (.int x), l2, l3] s h = rf d 176 7 [l0, some (.int x), l2, l3] (.int x :: s) h := rf_pure (i := .iload_n 1) (len := 1) (okD_ok (by decide +kernel)) rfl
theorem e176_7 (hcat : ip_cat s ≤ 8) : rf (d + 1) 176 7 ls (.int x0 :: .ref 2 :: s) (SH n, I, L, R, nc, ns, nx) = rf_k (d + 1) 176 7 ls s (cf d 177 [.ref 2, .int x0] (SH n, I, L, R, nc, ns, nx)) := g_cv (idx := 370) (t := 7) [.int x0] (by decide +kernel) ow176 ms_7_370 mt_7_370 cy177_7 rfl rfl mL177 rfl rfl (by decide) hcat
theorem e176_10 : rf d 176 10 [l0, l1, some (.int x), l3] s h = rf d 176 11 [l0, l1, some (.int x), l3] (.int x :: s) h := rf_pure (i := .iload_n 2) (len := 1) (okD_ok (by decide +kernel)) rfl
theorem e176_11 : rf d 176 11 ls (.int y :: .int x :: s) h = rf d 176 12 ls (.int (x - y) :: s) h := rf_pure (i := .isub) (len := 1) (okD_ok (by decide +kernel)) rfl
theorem e176_12 (hn : ip_nl l2 = true) : rf d 176 12 [l0, l1, l2, l3] (.int x :: s) h = rf d 176 13 [l0, l1, l2, some (.int x)] s h := g_sti (i := .istore_n 3) (len := 1) (q := 2) (p := 1) (by decide +kernel) rfl rfl hn
theorem e176_13 : rf d 176 13 [l0, l1, some (.int x), l3] s h = rf d 176 14 [l0, l1, some (.int x), l3] (.int x :: s) h := rf_pure (i := .iload_n 2) (len := 1) (okD_ok (by decide +kernel)) rfl
theorem e176_14 : rf d 176 14 ls (.int x :: s) h = if x < 0 then rf d 176 21 ls s h else rf d 176 17 ls s h := g_if (c := .lt) (off := 7) _ (by decide +kernel) rfl cmp_d
theorem e176_17 : rf d 176 17 [l0, l1, l2, some (.int x)] s h = rf d 176 18 [l0, l1, l2, some (.int x)] (.int x :: s) h := rf_pure (i := .iload_n 3) (len := 1) (okD_ok (by decide +kernel)) rfl
theorem e176_18 : rf d 176 18 ls (.int x :: s) h = if 0 ≤ x then rf d 176 23 ls s h else rf d 176 21 ls s h := g_if (c := .ge) (off := 5) _ (by decide +kernel) rfl cmp_d
theorem e176_21 : rf d 176 21 ls s h = rf d 176 22 ls (.int (-1) :: s) h := rf_pure (i := .iconst (-1)) (len := 1) (okD_ok (by decide +kernel)) rfl
theorem e176_22 : rf d 176 22 ls [.int x] h = some (.inl (some (.int x)), h) := g_ri (by decide +kernel) rt176
theorem e176_23 : rf d 176 23 [some (.ref a), l1, l2, l3] s h = rf d 176 24 [some (.ref a), l1, l2, l3] (.ref a :: s) h := rf_pure (i := .aload_n 0) (len := 1) (okD_ok (by decide +kernel)) rfl
theorem e176_24 : rf d 176 24 [l0, some (.int x), l2, l3] s h = rf d 176 25 [l0, some (.int x), l2, l3] (.int x :: s) h := rf_pure (i := .iload_n 1) (len := 1) (okD_ok (by decide +kernel)) rfl
theorem e176_25 : rf d 176 25 [l0, l1, l2, some (.int x)] s h = rf d 176 26 [l0, l1, l2, some (.int x)] (.int x :: s) h := rf_pure (i := .iload_n 3) (len := 1) (okD_ok (by decide +kernel)) rfl
theorem e176_26 (hcat : ip_cat s ≤ 8) : rf (d + 1) 176 26 ls (.int x1 :: .int x0 :: .ref 2 :: s) (SH n, I, L, R, nc, ns, nx) = rf_k (d + 1) 176 26 ls s (cf d 178 [.ref 2, .int x0, .int x1] (SH n, I, L, R, nc, ns, nx)) := g_cv (idx := 373) (t := 7) [.int x1, .int x0] (by decide +kernel) ow176 ms_7_373 mt_7_373 cy178_7 rfl rfl mL178 rfl rfl (by decide) hcat
theorem e176_29 : rf d 176 29 ls [.int x] h = some (.inl (some (.int x)), h) := g_ri (by decide +kernel) rt176
theorem en177 : cf d 177 [.ref a, .int x0] h = rf d 177 0 [some (.ref a), some (.int x0), none, none, none] [] h := rfl
theorem e177_0 : rf d 177 0 ls s h = rf d 177 1 ls (.int 0 :: s) h := rf_pure (i := .iconst (0)) (len := 1) (okD_ok (by decide +kernel)) rfl
theorem e177_1 (hn : ip_nl l1 = true) : rf d 177 1 [l0, l1, l2, l3, l4] (.int x :: s) h = rf d 177 2 [l0, l1, some (.int x), l3, l4] s h := g_sti (i := .istore_n 2) (len := 1) (q := 1) (p := 1) (by decide +kernel) rfl rfl hn
theorem e177_2 : rf d 177 2 [some (.ref a), l1, l2, l3, l4] s h = rf d 177 3 [some (.ref a), l1, l2, l3, l4] (.ref a :: s) h := rf_pure (i := .aload_n 0) (len := 1) (okD_ok (by decide +kernel)) rfl
theorem e177_3 (hR : LYR R) : rf d 177 3 ls (.ref 2 :: s) (SH n, I, L, R, nc, ns, nx) = rf d 177 6 ls (.ref 23 :: s) (SH n, I, L, R, nc, ns, nx) := g_R (idx := 36) (by decide +kernel) ow177 f_7_36 rfl rfl (by decide) (ly_2_5 hR)
theorem e177_6 : rf d 177 6 [l0, some (.int x), l2, l3, l4] s h = rf d 177 7 [l0, some (.int x), l2, l3, l4] (.int x :: s) h := rf_pure (i := .iload_n 1) (len := 1) (okD_ok (by decide +kernel)) rfl
theorem e177_7 (hR : LYR R) (q : inb j 40) : rf d 177 7 ls (.int j :: .ref 23 :: s) (SH n, I, L, R, nc, ns, nx) = rf d 177 8 ls (.ref (nd j) :: s) (SH n, I, L, R, nc, ns, nx) := g_aal (by decide +kernel) hR q
theorem e177_8 (ha : isN a) : rf d 177 8 ls (.ref a :: s) (SH n, I, L, R, nc, ns, nx) = rf d 177 11 ls (.int (I a 1) :: s) (SH n, I, L, R, nc, ns, nx) := g_I (idx := 279) (by decide +kernel) ow177 f_7_279 rfl (kdN0 ha) (geN ha)
theorem e177_11 (hn : ip_nl l2 = true) : rf d 177 11 [l0, l1, l2, l3, l4] (.int x :: s) h = rf d 177 12 [l0, l1, l2, some (.int x), l4] s h := g_sti (i := .istore_n 3) (len := 1) (q := 2) (p := 1) (by decide +kernel) rfl rfl hn
theorem e177_12 : rf d 177 12 ls s h = rf d 177 13 ls (.int 0 :: s) h := rf_pure (i := .iconst (0)) (len := 1) (okD_ok (by decide +kernel)) rfl
theorem e177_13 (hn : ip_nl l3 = true) : rf d 177 13 [l0, l1, l2, l3, l4] (.int x :: s) h = rf d 177 15 [l0, l1, l2, l3, some (.int x)] s h := g_sti (i := .istore 4) (len := 2) (q := 3) (p := 2) (by decide +kernel) rfl rfl hn
theorem e177_15 : rf d 177 15 [l0, l1, l2, l3, some (.int x)] s h = rf d 177 17 [l0, l1, l2, l3, some (.int x)] (.int x :: s) h := rf_pure (i := .iload 4) (len := 2) (okD_ok (by decide +kernel)) rfl
theorem e177_17 : rf d 177 17 ls s h = rf d 177 19 ls (.int 40 :: s) h := rf_pure (i := .bipush (40)) (len := 2) (okD_ok (by decide +kernel)) rfl
theorem e177_19 : rf d 177 19 ls (.int y :: .int x :: s) h = if y ≤ x then rf d 177 46 ls s h else rf d 177 22 ls s h := g_ic (c := .ge) (off := 27) _ (by decide +kernel) rfl cmp_d
theorem e177_22 : rf d 177 22 [l0, l1, l2, some (.int x), l4] s h = rf d 177 23 [l0, l1, l2, some (.int x), l4] (.int x :: s) h := rf_pure (i := .iload_n 3) (len := 1) (okD_ok (by decide +kernel)) rfl
theorem e177_23 : rf d 177 23 ls s h = rf d 177 24 ls (.int (-1) :: s) h := rf_pure (i := .iconst (-1)) (len := 1) (okD_ok (by decide +kernel)) rfl
theorem e177_24 : rf d 177 24 ls (.int y :: .int x :: s) h = if x = y then rf d 177 46 ls s h else rf d 177 27 ls s h := g_ic (c := .eq) (off := 22) _ (by decide +kernel) rfl cmp_d
theorem e177_27 (hn : ip_nl l1 = true) : rf d 177 27 [l0, l1, some (.int x), l3, l4] s h = rf d 177 30 [l0, l1, some (.int (x + 1)), l3, l4] s h := g_inc (q := 1) (z := 1) (w := 1) (x := x) (by decide) (by decide +kernel) rfl rfl hn
theorem e177_30 : rf d 177 30 [some (.ref a), l1, l2, l3, l4] s h = rf d 177 31 [some (.ref a), l1, l2, l3, l4] (.ref a :: s) h := rf_pure (i := .aload_n 0) (len := 1) (okD_ok (by decide +kernel)) rfl
theorem e177_31 (hR : LYR R) : rf d 177 31 ls (.ref 2 :: s) (SH n, I, L, R, nc, ns, nx) = rf d 177 34 ls (.ref 23 :: s) (SH n, I, L, R, nc, ns, nx) := g_R (idx := 36) (by decide +kernel) ow177 f_7_36 rfl rfl (by decide) (ly_2_5 hR)
theorem e177_34 : rf d 177 34 [l0, l1, l2, some (.int x), l4] s h = rf d 177 35 [l0, l1, l2, some (.int x), l4] (.int x :: s) h := rf_pure (i := .iload_n 3) (len := 1) (okD_ok (by decide +kernel)) rfl
theorem e177_35 (hR : LYR R) (q : inb j 40) : rf d 177 35 ls (.int j :: .ref 23 :: s) (SH n, I, L, R, nc, ns, nx) = rf d 177 36 ls (.ref (nd j) :: s) (SH n, I, L, R, nc, ns, nx) := g_aal (by decide +kernel) hR q
theorem e177_36 (ha : isN a) : rf d 177 36 ls (.ref a :: s) (SH n, I, L, R, nc, ns, nx) = rf d 177 39 ls (.int (I a 1) :: s) (SH n, I, L, R, nc, ns, nx) := g_I (idx := 279) (by decide +kernel) ow177 f_7_279 rfl (kdN0 ha) (geN ha)
theorem e177_39 (hn : ip_nl l2 = true) : rf d 177 39 [l0, l1, l2, l3, l4] (.int x :: s) h = rf d 177 40 [l0, l1, l2, some (.int x), l4] s h := g_sti (i := .istore_n 3) (len := 1) (q := 2) (p := 1) (by decide +kernel) rfl rfl hn
theorem e177_40 (hn : ip_nl l3 = true) : rf d 177 40 [l0, l1, l2, l3, some (.int x)] s h = rf d 177 43 [l0, l1, l2, l3, some (.int (x + 1))] s h := g_inc (q := 3) (z := 1) (w := 1) (x := x) (by decide) (by decide +kernel) rfl rfl hn
theorem e177_43 : rf d 177 43 ls s h = rf d 177 15 ls s h := rf_goto ⟨okD_ok (i := .goto (-28)) (len := 3) (by decide +kernel), rfl⟩
theorem e177_46 : rf d 177 46 [l0, l1, some (.int x), l3, l4] s h = rf d 177 47 [l0, l1, some (.int x), l3, l4] (.int x :: s) h := rf_pure (i := .iload_n 2) (len := 1) (okD_ok (by decide +kernel)) rfl
theorem e177_47 : rf d 177 47 ls [.int x] h = some (.inl (some (.int x)), h) := g_ri (by decide +kernel) rt177
end S04
