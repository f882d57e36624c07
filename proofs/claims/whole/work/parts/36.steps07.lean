/-! STEPS, 7 (printed by wip/whole/gen_steps.py) -/
section S07
variable {n d a b t : Nat} {l0 l1 l2 l3 l4 l5 l6 l7 l8 l9 l10 l11 l12 l13 : Option Value} {ls : List (Option Value)} {s : List Value} {h : ip_H} {I : Nat → Nat → Int32} {L : Nat → Nat → Int64} {R : Nat → Nat → Option Nat} {nc ns : Nat} {nx : Bool} {x y j z sp dp x0 x1 x2 x3 x4 x5 : Int32} {u v u0 u1 u2 u3 : Int64} {a0 a1 a2 a3 a4 : Nat}
theorem en223 : cf d 223 [.ref a, .int x0, .int x1, .int x2] h = rf d 223 0 [some (.ref a), some (.int x0), some (.int x1), some (.int x2), none] [] h := rfl
theorem e223_0 : rf d 223 0 [some (.ref a), l1, l2, l3, l4] s h = rf d 223 1 [some (.ref a), l1, l2, l3, l4] (.ref a :: s) h := rf_pure (i := .aload_n 0) (len := 1) (okD_ok (by decide +kernel)) rfl
theorem e223_1 : rf d 223 1 [l0, some (.int x), l2, l3, l4] s h = rf d 223 2 [l0, some (.int x), l2, l3, l4] (.int x :: s) h := rf_pure (i := .iload_n 1) (len := 1) (okD_ok (by decide +kernel)) rfl
theorem e223_2 : rf d 223 2 ls s h = rf d 223 3 ls (.int 1 :: s) h := rf_pure (i := .iconst (1)) (len := 1) (okD_ok (by decide +kernel)) rfl
theorem e223_3 : rf d 223 3 ls s h = rf d 223 4 ls (.int 2 :: s) h := rf_pure (i := .iconst (2)) (len := 1) (okD_ok (by decide +kernel)) rfl
theorem e223_4 (hcat : ip_cat s ≤ 8) : rf (d + 1) 223 4 ls (.int x2 :: .int x1 :: .int x0 :: s) h = rf_k (d + 1) 223 4 ls s (cf d 217 [.int x0, .int x1, .int x2] h) := g_cs (idx := 315) [.int x2, .int x1, .int x0] (by decide +kernel) ow223 ms_8_315 mt_8_315 (by decide) rfl mL217 rfl hcat
theorem e223_7 : rf d 223 7 ls (.int x :: s) h = if x = 0 then rf d 223 33 ls s h else rf d 223 10 ls s h := g_if (c := .eq) (off := 26) _ (by decide +kernel) rfl cmp_d
theorem e223_10 : rf d 223 10 [l0, l1, some (.int x), l3, l4] s h = rf d 223 11 [l0, l1, some (.int x), l3, l4] (.int x :: s) h := rf_pure (i := .iload_n 2) (len := 1) (okD_ok (by decide +kernel)) rfl
theorem e223_11 : rf d 223 11 ls s h = rf d 223 12 ls (.int 0 :: s) h := rf_pure (i := .iconst (0)) (len := 1) (okD_ok (by decide +kernel)) rfl
theorem e223_12 : rf d 223 12 ls s h = rf d 223 13 ls (.int 2 :: s) h := rf_pure (i := .iconst (2)) (len := 1) (okD_ok (by decide +kernel)) rfl
theorem e223_13 (hcat : ip_cat s ≤ 8) : rf (d + 1) 223 13 ls (.int x2 :: .int x1 :: .int x0 :: s) h = rf_k (d + 1) 223 13 ls s (cf d 217 [.int x0, .int x1, .int x2] h) := g_cs (idx := 315) [.int x2, .int x1, .int x0] (by decide +kernel) ow223 ms_8_315 mt_8_315 (by decide) rfl mL217 rfl hcat
theorem e223_16 : rf d 223 16 ls (.int x :: s) h = if x = 0 then rf d 223 33 ls s h else rf d 223 19 ls s h := g_if (c := .eq) (off := 17) _ (by decide +kernel) rfl cmp_d
theorem e223_19 : rf d 223 19 [l0, l1, l2, some (.int x), l4] s h = rf d 223 20 [l0, l1, l2, some (.int x), l4] (.int x :: s) h := rf_pure (i := .iload_n 3) (len := 1) (okD_ok (by decide +kernel)) rfl
theorem e223_20 : rf d 223 20 ls s h = rf d 223 21 ls (.int 0 :: s) h := rf_pure (i := .iconst (0)) (len := 1) (okD_ok (by decide +kernel)) rfl
theorem e223_21 : rf d 223 21 ls s h = rf d 223 23 ls (.int 9 :: s) h := rf_pure (i := .bipush (9)) (len := 2) (okD_ok (by decide +kernel)) rfl
theorem e223_23 (hcat : ip_cat s ≤ 8) : rf (d + 1) 223 23 ls (.int x2 :: .int x1 :: .int x0 :: s) h = rf_k (d + 1) 223 23 ls s (cf d 217 [.int x0, .int x1, .int x2] h) := g_cs (idx := 315) [.int x2, .int x1, .int x0] (by decide +kernel) ow223 ms_8_315 mt_8_315 (by decide) rfl mL217 rfl hcat
theorem e223_26 : rf d 223 26 ls (.int x :: s) h = if x = 0 then rf d 223 33 ls s h else rf d 223 29 ls s h := g_if (c := .eq) (off := 7) _ (by decide +kernel) rfl cmp_d
theorem e223_29 : rf d 223 29 ls s h = rf d 223 30 ls (.int 0 :: s) h := rf_pure (i := .iconst (0)) (len := 1) (okD_ok (by decide +kernel)) rfl
theorem e223_30 : rf d 223 30 ls s h = rf d 223 34 ls s h := rf_goto ⟨okD_ok (i := .goto (4)) (len := 3) (by decide +kernel), rfl⟩
theorem e223_33 : rf d 223 33 ls s h = rf d 223 34 ls (.int 1 :: s) h := rf_pure (i := .iconst (1)) (len := 1) (okD_ok (by decide +kernel)) rfl
theorem e223_34 : rf d 223 34 ls (.int x :: .ref 265 :: s) (SH n, I, L, R, nc, ns, nx) = rf d 223 37 ls s (SH n, ip_up I 265 0 x, L, R, nc, ns, nx) := g_pI (idx := 142) (by decide +kernel) ow223 f_8_142 rfl (by decide +kernel) rfl (by decide)
theorem e223_37 : rf d 223 37 [some (.ref a), l1, l2, l3, l4] s h = rf d 223 38 [some (.ref a), l1, l2, l3, l4] (.ref a :: s) h := rf_pure (i := .aload_n 0) (len := 1) (okD_ok (by decide +kernel)) rfl
theorem e223_38 : rf d 223 38 ls (.ref 265 :: s) (SH n, I, L, R, nc, ns, nx) = rf d 223 41 ls (.int (I 265 0) :: s) (SH n, I, L, R, nc, ns, nx) := g_I (idx := 142) (by decide +kernel) ow223 f_8_142 rfl rfl (by decide)
theorem e223_41 : rf d 223 41 ls (.int x :: s) h = if x ≤ 0 then rf d 223 46 ls s h else rf d 223 44 ls s h := g_if (c := .le) (off := 5) _ (by decide +kernel) rfl cmp_d
theorem e223_44 : rf d 223 44 ls s h = rf d 223 45 ls (.int 0 :: s) h := rf_pure (i := .iconst (0)) (len := 1) (okD_ok (by decide +kernel)) rfl
theorem e223_45 : rf d 223 45 ls [.int x] h = some (.inl (some (.int x)), h) := g_ri (by decide +kernel) rt223
theorem e223_46 : rf d 223 46 [some (.ref a), l1, l2, l3, l4] s h = rf d 223 47 [some (.ref a), l1, l2, l3, l4] (.ref a :: s) h := rf_pure (i := .aload_n 0) (len := 1) (okD_ok (by decide +kernel)) rfl
theorem e223_47 (hR : LYR R) : rf d 223 47 ls (.ref 265 :: s) (SH n, I, L, R, nc, ns, nx) = rf d 223 50 ls (.ref 277 :: s) (SH n, I, L, R, nc, ns, nx) := g_R (idx := 48) (by decide +kernel) ow223 f_8_48 rfl rfl (by decide) (ly_265_23 hR)
theorem e223_50 : rf d 223 50 ls s h = rf d 223 51 ls (.int 3 :: s) h := rf_pure (i := .iconst (3)) (len := 1) (okD_ok (by decide +kernel)) rfl
theorem e223_51 : rf d 223 51 [l0, some (.int x), l2, l3, l4] s h = rf d 223 52 [l0, some (.int x), l2, l3, l4] (.int x :: s) h := rf_pure (i := .iload_n 1) (len := 1) (okD_ok (by decide +kernel)) rfl
theorem e223_52 : rf d 223 52 ls (.int y :: .int x :: s) h = rf d 223 53 ls (.int (x * y) :: s) h := rf_pure (i := .imul) (len := 1) (okD_ok (by decide +kernel)) rfl
theorem e223_53 : rf d 223 53 ls s h = rf d 223 54 ls (.int 3 :: s) h := rf_pure (i := .iconst (3)) (len := 1) (okD_ok (by decide +kernel)) rfl
theorem e223_54 : rf d 223 54 ls (.int y :: .int x :: s) h = rf d 223 55 ls (.int (x - y) :: s) h := rf_pure (i := .isub) (len := 1) (okD_ok (by decide +kernel)) rfl
theorem e223_55 : rf d 223 55 [l0, l1, some (.int x), l3, l4] s h = rf d 223 56 [l0, l1, some (.int x), l3, l4] (.int x :: s) h := rf_pure (i := .iload_n 2) (len := 1) (okD_ok (by decide +kernel)) rfl
theorem e223_56 : rf d 223 56 ls (.int y :: .int x :: s) h = rf d 223 57 ls (.int (x + y) :: s) h := rf_pure (i := .iadd) (len := 1) (okD_ok (by decide +kernel)) rfl
theorem e223_57 (q : ia n a j) : rf d 223 57 ls (.int j :: .ref a :: s) (SH n, I, L, R, nc, ns, nx) = rf d 223 58 ls (.int (I a j.toNatClampNeg) :: s) (SH n, I, L, R, nc, ns, nx) := g_ial (by decide +kernel) q
theorem e223_58 (hn : ip_nl l3 = true) : rf d 223 58 [l0, l1, l2, l3, l4] (.int x :: s) h = rf d 223 60 [l0, l1, l2, l3, some (.int x)] s h := g_sti (i := .istore 4) (len := 2) (q := 3) (p := 2) (by decide +kernel) rfl rfl hn
theorem e223_60 : rf d 223 60 [some (.ref a), l1, l2, l3, l4] s h = rf d 223 61 [some (.ref a), l1, l2, l3, l4] (.ref a :: s) h := rf_pure (i := .aload_n 0) (len := 1) (okD_ok (by decide +kernel)) rfl
theorem e223_61 (hR : LYR R) : rf d 223 61 ls (.ref 265 :: s) (SH n, I, L, R, nc, ns, nx) = rf d 223 64 ls (.ref 277 :: s) (SH n, I, L, R, nc, ns, nx) := g_R (idx := 48) (by decide +kernel) ow223 f_8_48 rfl rfl (by decide) (ly_265_23 hR)
theorem e223_64 : rf d 223 64 ls s h = rf d 223 65 ls (.int 3 :: s) h := rf_pure (i := .iconst (3)) (len := 1) (okD_ok (by decide +kernel)) rfl
theorem e223_65 : rf d 223 65 [l0, some (.int x), l2, l3, l4] s h = rf d 223 66 [l0, some (.int x), l2, l3, l4] (.int x :: s) h := rf_pure (i := .iload_n 1) (len := 1) (okD_ok (by decide +kernel)) rfl
theorem e223_66 : rf d 223 66 ls (.int y :: .int x :: s) h = rf d 223 67 ls (.int (x * y) :: s) h := rf_pure (i := .imul) (len := 1) (okD_ok (by decide +kernel)) rfl
theorem e223_67 : rf d 223 67 ls s h = rf d 223 68 ls (.int 3 :: s) h := rf_pure (i := .iconst (3)) (len := 1) (okD_ok (by decide +kernel)) rfl
theorem e223_68 : rf d 223 68 ls (.int y :: .int x :: s) h = rf d 223 69 ls (.int (x - y) :: s) h := rf_pure (i := .isub) (len := 1) (okD_ok (by decide +kernel)) rfl
theorem e223_69 : rf d 223 69 [l0, l1, some (.int x), l3, l4] s h = rf d 223 70 [l0, l1, some (.int x), l3, l4] (.int x :: s) h := rf_pure (i := .iload_n 2) (len := 1) (okD_ok (by decide +kernel)) rfl
theorem e223_70 : rf d 223 70 ls (.int y :: .int x :: s) h = rf d 223 71 ls (.int (x + y) :: s) h := rf_pure (i := .iadd) (len := 1) (okD_ok (by decide +kernel)) rfl
theorem e223_71 : rf d 223 71 [l0, l1, l2, some (.int x), l4] s h = rf d 223 72 [l0, l1, l2, some (.int x), l4] (.int x :: s) h := rf_pure (i := .iload_n 3) (len := 1) (okD_ok (by decide +kernel)) rfl
theorem e223_72 (q : ia n a j) : rf d 223 72 ls (.int x :: .int j :: .ref a :: s) (SH n, I, L, R, nc, ns, nx) = rf d 223 73 ls s (SH n, ip_up I a j.toNatClampNeg x, L, R, nc, ns, nx) := g_ias (by decide +kernel) q
theorem e223_73 : rf d 223 73 [l0, l1, l2, l3, some (.int x)] s h = rf d 223 75 [l0, l1, l2, l3, some (.int x)] (.int x :: s) h := rf_pure (i := .iload 4) (len := 2) (okD_ok (by decide +kernel)) rfl
theorem e223_75 : rf d 223 75 ls [.int x] h = some (.inl (some (.int x)), h) := g_ri (by decide +kernel) rt223
theorem en224 : cf d 224 [.ref a, .int x0, .int x1, .int x2] h = rf d 224 0 [some (.ref a), some (.int x0), some (.int x1), some (.int x2), none] [] h := rfl
theorem e224_0 : rf d 224 0 [some (.ref a), l1, l2, l3, l4] s h = rf d 224 1 [some (.ref a), l1, l2, l3, l4] (.ref a :: s) h := rf_pure (i := .aload_n 0) (len := 1) (okD_ok (by decide +kernel)) rfl
theorem e224_1 : rf d 224 1 [some (.ref a), l1, l2, l3, l4] s h = rf d 224 2 [some (.ref a), l1, l2, l3, l4] (.ref a :: s) h := rf_pure (i := .aload_n 0) (len := 1) (okD_ok (by decide +kernel)) rfl
theorem e224_2 : rf d 224 2 [l0, some (.int x), l2, l3, l4] s h = rf d 224 3 [l0, some (.int x), l2, l3, l4] (.int x :: s) h := rf_pure (i := .iload_n 1) (len := 1) (okD_ok (by decide +kernel)) rfl
theorem e224_3 (hcat : ip_cat s ≤ 8) : rf (d + 1) 224 3 ls (.int x0 :: .ref 265 :: s) (SH n, I, L, R, nc, ns, nx) = rf_k (d + 1) 224 3 ls s (cf d 216 [.ref 265, .int x0] (SH n, I, L, R, nc, ns, nx)) := g_cv (idx := 319) (t := 8) [.int x0] (by decide +kernel) ow224 ms_8_319 mt_8_319 cy216_8 rfl rfl mL216 rfl rfl (by decide) hcat
theorem e224_6 : rf d 224 6 ls (.int x :: s) h = if ¬ x = 0 then rf d 224 13 ls s h else rf d 224 9 ls s h := g_if (c := .ne) (off := 7) _ (by decide +kernel) rfl cmp_d
theorem e224_9 : rf d 224 9 ls s h = rf d 224 10 ls (.int 1 :: s) h := rf_pure (i := .iconst (1)) (len := 1) (okD_ok (by decide +kernel)) rfl
theorem e224_10 : rf d 224 10 ls s h = rf d 224 35 ls s h := rf_goto ⟨okD_ok (i := .goto (25)) (len := 3) (by decide +kernel), rfl⟩
theorem e224_13 : rf d 224 13 [l0, l1, some (.int x), l3, l4] s h = rf d 224 14 [l0, l1, some (.int x), l3, l4] (.int x :: s) h := rf_pure (i := .iload_n 2) (len := 1) (okD_ok (by decide +kernel)) rfl
theorem e224_14 (hcat : ip_cat s ≤ 8) : rf (d + 1) 224 14 ls (.int x0 :: s) h = rf_k (d + 1) 224 14 ls s (cf d 225 [.int x0] h) := g_cs (idx := 330) [.int x0] (by decide +kernel) ow224 ms_8_330 mt_8_330 (by decide) rfl mL225 rfl hcat
theorem e224_17 : rf d 224 17 ls (.int x :: s) h = if x = 0 then rf d 224 30 ls s h else rf d 224 20 ls s h := g_if (c := .eq) (off := 13) _ (by decide +kernel) rfl cmp_d
theorem e224_20 : rf d 224 20 [l0, l1, l2, some (.int x), l4] s h = rf d 224 21 [l0, l1, l2, some (.int x), l4] (.int x :: s) h := rf_pure (i := .iload_n 3) (len := 1) (okD_ok (by decide +kernel)) rfl
theorem e224_21 : rf d 224 21 ls s h = rf d 224 22 ls (.int 0 :: s) h := rf_pure (i := .iconst (0)) (len := 1) (okD_ok (by decide +kernel)) rfl
theorem e224_22 : rf d 224 22 ls s h = rf d 224 24 ls (.int 9 :: s) h := rf_pure (i := .bipush (9)) (len := 2) (okD_ok (by decide +kernel)) rfl
theorem e224_24 (hcat : ip_cat s ≤ 8) : rf (d + 1) 224 24 ls (.int x2 :: .int x1 :: .int x0 :: s) h = rf_k (d + 1) 224 24 ls s (cf d 217 [.int x0, .int x1, .int x2] h) := g_cs (idx := 315) [.int x2, .int x1, .int x0] (by decide +kernel) ow224 ms_8_315 mt_8_315 (by decide) rfl mL217 rfl hcat
theorem e224_27 : rf d 224 27 ls (.int x :: s) h = if ¬ x = 0 then rf d 224 34 ls s h else rf d 224 30 ls s h := g_if (c := .ne) (off := 7) _ (by decide +kernel) rfl cmp_d
theorem e224_30 : rf d 224 30 ls s h = rf d 224 31 ls (.int 2 :: s) h := rf_pure (i := .iconst (2)) (len := 1) (okD_ok (by decide +kernel)) rfl
theorem e224_31 : rf d 224 31 ls s h = rf d 224 35 ls s h := rf_goto ⟨okD_ok (i := .goto (4)) (len := 3) (by decide +kernel), rfl⟩
theorem e224_34 : rf d 224 34 ls s h = rf d 224 35 ls (.int 0 :: s) h := rf_pure (i := .iconst (0)) (len := 1) (okD_ok (by decide +kernel)) rfl
theorem e224_35 : rf d 224 35 ls (.int x :: .ref 265 :: s) (SH n, I, L, R, nc, ns, nx) = rf d 224 38 ls s (SH n, ip_up I 265 0 x, L, R, nc, ns, nx) := g_pI (idx := 142) (by decide +kernel) ow224 f_8_142 rfl (by decide +kernel) rfl (by decide)
theorem e224_38 : rf d 224 38 [some (.ref a), l1, l2, l3, l4] s h = rf d 224 39 [some (.ref a), l1, l2, l3, l4] (.ref a :: s) h := rf_pure (i := .aload_n 0) (len := 1) (okD_ok (by decide +kernel)) rfl
theorem e224_39 : rf d 224 39 ls (.ref 265 :: s) (SH n, I, L, R, nc, ns, nx) = rf d 224 42 ls (.int (I 265 0) :: s) (SH n, I, L, R, nc, ns, nx) := g_I (idx := 142) (by decide +kernel) ow224 f_8_142 rfl rfl (by decide)
theorem e224_42 : rf d 224 42 ls (.int x :: s) h = if ¬ x = 0 then rf d 224 107 ls s h else rf d 224 45 ls s h := g_if (c := .ne) (off := 65) _ (by decide +kernel) rfl cmp_d
theorem e224_45 : rf d 224 45 [some (.ref a), l1, l2, l3, l4] s h = rf d 224 46 [some (.ref a), l1, l2, l3, l4] (.ref a :: s) h := rf_pure (i := .aload_n 0) (len := 1) (okD_ok (by decide +kernel)) rfl
theorem e224_46 (hR : LYR R) : rf d 224 46 ls (.ref 265 :: s) (SH n, I, L, R, nc, ns, nx) = rf d 224 49 ls (.ref 289 :: s) (SH n, I, L, R, nc, ns, nx) := g_R (idx := 85) (by decide +kernel) ow224 f_8_85 rfl rfl (by decide) (ly_265_39 hR)
theorem e224_49 : rf d 224 49 [some (.ref a), l1, l2, l3, l4] s h = rf d 224 50 [some (.ref a), l1, l2, l3, l4] (.ref a :: s) h := rf_pure (i := .aload_n 0) (len := 1) (okD_ok (by decide +kernel)) rfl
theorem e224_50 : rf d 224 50 ls (.ref 265 :: s) (SH n, I, L, R, nc, ns, nx) = rf d 224 53 ls (.int (I 265 38) :: s) (SH n, I, L, R, nc, ns, nx) := g_I (idx := 306) (by decide +kernel) ow224 f_8_306 rfl rfl (by decide)
theorem e224_53 (q : ia n a j) : rf d 224 53 ls (.int j :: .ref a :: s) (SH n, I, L, R, nc, ns, nx) = rf d 224 54 ls (.int (I a j.toNatClampNeg) :: s) (SH n, I, L, R, nc, ns, nx) := g_ial (by decide +kernel) q
theorem e224_54 : rf d 224 54 ls (.int x :: s) h = if ¬ x = 0 then rf d 224 102 ls s h else rf d 224 57 ls s h := g_if (c := .ne) (off := 48) _ (by decide +kernel) rfl cmp_d
theorem e224_57 : rf d 224 57 [some (.ref a), l1, l2, l3, l4] s h = rf d 224 58 [some (.ref a), l1, l2, l3, l4] (.ref a :: s) h := rf_pure (i := .aload_n 0) (len := 1) (okD_ok (by decide +kernel)) rfl
theorem e224_58 (hR : LYR R) : rf d 224 58 ls (.ref 265 :: s) (SH n, I, L, R, nc, ns, nx) = rf d 224 61 ls (.ref 293 :: s) (SH n, I, L, R, nc, ns, nx) := g_R (idx := 97) (by decide +kernel) ow224 f_8_97 rfl rfl (by decide) (ly_265_43 hR)
theorem e224_61 : rf d 224 61 [some (.ref a), l1, l2, l3, l4] s h = rf d 224 62 [some (.ref a), l1, l2, l3, l4] (.ref a :: s) h := rf_pure (i := .aload_n 0) (len := 1) (okD_ok (by decide +kernel)) rfl
theorem e224_62 : rf d 224 62 ls (.ref 265 :: s) (SH n, I, L, R, nc, ns, nx) = rf d 224 65 ls (.int (I 265 38) :: s) (SH n, I, L, R, nc, ns, nx) := g_I (idx := 306) (by decide +kernel) ow224 f_8_306 rfl rfl (by decide)
theorem e224_65 (q : ia n a j) : rf d 224 65 ls (.int j :: .ref a :: s) (SH n, I, L, R, nc, ns, nx) = rf d 224 66 ls (.int (I a j.toNatClampNeg) :: s) (SH n, I, L, R, nc, ns, nx) := g_ial (by decide +kernel) q
theorem e224_66 : rf d 224 66 [some (.ref a), l1, l2, l3, l4] s h = rf d 224 67 [some (.ref a), l1, l2, l3, l4] (.ref a :: s) h := rf_pure (i := .aload_n 0) (len := 1) (okD_ok (by decide +kernel)) rfl
theorem e224_67 (hR : LYR R) : rf d 224 67 ls (.ref 265 :: s) (SH n, I, L, R, nc, ns, nx) = rf d 224 70 ls (.ref 292 :: s) (SH n, I, L, R, nc, ns, nx) := g_R (idx := 94) (by decide +kernel) ow224 f_8_94 rfl rfl (by decide) (ly_265_42 hR)
theorem e224_70 : rf d 224 70 [some (.ref a), l1, l2, l3, l4] s h = rf d 224 71 [some (.ref a), l1, l2, l3, l4] (.ref a :: s) h := rf_pure (i := .aload_n 0) (len := 1) (okD_ok (by decide +kernel)) rfl
theorem e224_71 : rf d 224 71 ls (.ref 265 :: s) (SH n, I, L, R, nc, ns, nx) = rf d 224 74 ls (.int (I 265 38) :: s) (SH n, I, L, R, nc, ns, nx) := g_I (idx := 306) (by decide +kernel) ow224 f_8_306 rfl rfl (by decide)
theorem e224_74 (q : ia n a j) : rf d 224 74 ls (.int j :: .ref a :: s) (SH n, I, L, R, nc, ns, nx) = rf d 224 75 ls (.int (I a j.toNatClampNeg) :: s) (SH n, I, L, R, nc, ns, nx) := g_ial (by decide +kernel) q
theorem e224_75 : rf d 224 75 ls (.int y :: .int x :: s) h = rf d 224 76 ls (.int (x &&& y) :: s) h := rf_pure (i := .iand) (len := 1) (okD_ok (by decide +kernel)) rfl
theorem e224_76 : rf d 224 76 [l0, some (.int x), l2, l3, l4] s h = rf d 224 77 [l0, some (.int x), l2, l3, l4] (.int x :: s) h := rf_pure (i := .iload_n 1) (len := 1) (okD_ok (by decide +kernel)) rfl
theorem e224_77 (hcat : ip_cat s ≤ 8) : rf (d + 1) 224 77 ls (.int x1 :: .int x0 :: s) h = rf_k (d + 1) 224 77 ls s (cf d 186 [.int x0, .int x1] h) := g_cs (idx := 234) [.int x1, .int x0] (by decide +kernel) ow224 ms_8_234 mt_8_234 (by decide) rfl mL186 rfl hcat
theorem e224_80 : rf d 224 80 ls (.int x :: s) h = if x = 0 then rf d 224 102 ls s h else rf d 224 83 ls s h := g_if (c := .eq) (off := 22) _ (by decide +kernel) rfl cmp_d
theorem e224_83 : rf d 224 83 [some (.ref a), l1, l2, l3, l4] s h = rf d 224 84 [some (.ref a), l1, l2, l3, l4] (.ref a :: s) h := rf_pure (i := .aload_n 0) (len := 1) (okD_ok (by decide +kernel)) rfl
theorem e224_84 (hR : LYR R) : rf d 224 84 ls (.ref 265 :: s) (SH n, I, L, R, nc, ns, nx) = rf d 224 87 ls (.ref 276 :: s) (SH n, I, L, R, nc, ns, nx) := g_R (idx := 45) (by decide +kernel) ow224 f_8_45 rfl rfl (by decide) (ly_265_22 hR)
theorem e224_87 : rf d 224 87 [l0, some (.int x), l2, l3, l4] s h = rf d 224 88 [l0, some (.int x), l2, l3, l4] (.int x :: s) h := rf_pure (i := .iload_n 1) (len := 1) (okD_ok (by decide +kernel)) rfl
theorem e224_88 (q : ia n a j) : rf d 224 88 ls (.int j :: .ref a :: s) (SH n, I, L, R, nc, ns, nx) = rf d 224 89 ls (.int (I a j.toNatClampNeg) :: s) (SH n, I, L, R, nc, ns, nx) := g_ial (by decide +kernel) q
theorem e224_89 : rf d 224 89 [some (.ref a), l1, l2, l3, l4] s h = rf d 224 90 [some (.ref a), l1, l2, l3, l4] (.ref a :: s) h := rf_pure (i := .aload_n 0) (len := 1) (okD_ok (by decide +kernel)) rfl
theorem e224_90 (hR : LYR R) : rf d 224 90 ls (.ref 265 :: s) (SH n, I, L, R, nc, ns, nx) = rf d 224 93 ls (.ref 293 :: s) (SH n, I, L, R, nc, ns, nx) := g_R (idx := 97) (by decide +kernel) ow224 f_8_97 rfl rfl (by decide) (ly_265_43 hR)
theorem e224_93 : rf d 224 93 [some (.ref a), l1, l2, l3, l4] s h = rf d 224 94 [some (.ref a), l1, l2, l3, l4] (.ref a :: s) h := rf_pure (i := .aload_n 0) (len := 1) (okD_ok (by decide +kernel)) rfl
theorem e224_94 : rf d 224 94 ls (.ref 265 :: s) (SH n, I, L, R, nc, ns, nx) = rf d 224 97 ls (.int (I 265 38) :: s) (SH n, I, L, R, nc, ns, nx) := g_I (idx := 306) (by decide +kernel) ow224 f_8_306 rfl rfl (by decide)
theorem e224_97 (q : ia n a j) : rf d 224 97 ls (.int j :: .ref a :: s) (SH n, I, L, R, nc, ns, nx) = rf d 224 98 ls (.int (I a j.toNatClampNeg) :: s) (SH n, I, L, R, nc, ns, nx) := g_ial (by decide +kernel) q
theorem e224_98 : rf d 224 98 ls (.int y :: .int x :: s) h = rf d 224 99 ls (.int (x &&& y) :: s) h := rf_pure (i := .iand) (len := 1) (okD_ok (by decide +kernel)) rfl
theorem e224_99 : rf d 224 99 ls (.int x :: s) h = if x = 0 then rf d 224 107 ls s h else rf d 224 102 ls s h := g_if (c := .eq) (off := 8) _ (by decide +kernel) rfl cmp_d
theorem e224_102 : rf d 224 102 [some (.ref a), l1, l2, l3, l4] s h = rf d 224 103 [some (.ref a), l1, l2, l3, l4] (.ref a :: s) h := rf_pure (i := .aload_n 0) (len := 1) (okD_ok (by decide +kernel)) rfl
theorem e224_103 : rf d 224 103 ls s h = rf d 224 104 ls (.int 3 :: s) h := rf_pure (i := .iconst (3)) (len := 1) (okD_ok (by decide +kernel)) rfl
theorem e224_104 : rf d 224 104 ls (.int x :: .ref 265 :: s) (SH n, I, L, R, nc, ns, nx) = rf d 224 107 ls s (SH n, ip_up I 265 0 x, L, R, nc, ns, nx) := g_pI (idx := 142) (by decide +kernel) ow224 f_8_142 rfl (by decide +kernel) rfl (by decide)
theorem e224_107 : rf d 224 107 [some (.ref a), l1, l2, l3, l4] s h = rf d 224 108 [some (.ref a), l1, l2, l3, l4] (.ref a :: s) h := rf_pure (i := .aload_n 0) (len := 1) (okD_ok (by decide +kernel)) rfl
theorem e224_108 : rf d 224 108 ls (.ref 265 :: s) (SH n, I, L, R, nc, ns, nx) = rf d 224 111 ls (.int (I 265 0) :: s) (SH n, I, L, R, nc, ns, nx) := g_I (idx := 142) (by decide +kernel) ow224 f_8_142 rfl rfl (by decide)
theorem e224_111 : rf d 224 111 ls (.int x :: s) h = if x ≤ 0 then rf d 224 116 ls s h else rf d 224 114 ls s h := g_if (c := .le) (off := 5) _ (by decide +kernel) rfl cmp_d
theorem e224_114 : rf d 224 114 ls s h = rf d 224 115 ls (.int 0 :: s) h := rf_pure (i := .iconst (0)) (len := 1) (okD_ok (by decide +kernel)) rfl
theorem e224_115 : rf d 224 115 ls [.int x] h = some (.inl (some (.int x)), h) := g_ri (by decide +kernel) rt224
theorem e224_116 : rf d 224 116 ls s h = rf d 224 117 ls (.int 1 :: s) h := rf_pure (i := .iconst (1)) (len := 1) (okD_ok (by decide +kernel)) rfl
theorem e224_117 : rf d 224 117 [l0, some (.int x), l2, l3, l4] s h = rf d 224 118 [l0, some (.int x), l2, l3, l4] (.int x :: s) h := rf_pure (i := .iload_n 1) (len := 1) (okD_ok (by decide +kernel)) rfl
theorem e224_118 : rf d 224 118 ls (.int y :: .int x :: s) h = rf d 224 119 ls (.int (x <<< (y &&& 31)) :: s) h := rf_pure (i := .ishl) (len := 1) (okD_ok (by decide +kernel)) rfl
theorem e224_119 (hn : ip_nl l3 = true) : rf d 224 119 [l0, l1, l2, l3, l4] (.int x :: s) h = rf d 224 121 [l0, l1, l2, l3, some (.int x)] s h := g_sti (i := .istore 4) (len := 2) (q := 3) (p := 2) (by decide +kernel) rfl rfl hn
theorem e224_121 : rf d 224 121 [some (.ref a), l1, l2, l3, l4] s h = rf d 224 122 [some (.ref a), l1, l2, l3, l4] (.ref a :: s) h := rf_pure (i := .aload_n 0) (len := 1) (okD_ok (by decide +kernel)) rfl
theorem e224_122 (hR : LYR R) : rf d 224 122 ls (.ref 265 :: s) (SH n, I, L, R, nc, ns, nx) = rf d 224 125 ls (.ref 293 :: s) (SH n, I, L, R, nc, ns, nx) := g_R (idx := 97) (by decide +kernel) ow224 f_8_97 rfl rfl (by decide) (ly_265_43 hR)
theorem e224_125 : rf d 224 125 [some (.ref a), l1, l2, l3, l4] s h = rf d 224 126 [some (.ref a), l1, l2, l3, l4] (.ref a :: s) h := rf_pure (i := .aload_n 0) (len := 1) (okD_ok (by decide +kernel)) rfl
theorem e224_126 : rf d 224 126 ls (.ref 265 :: s) (SH n, I, L, R, nc, ns, nx) = rf d 224 129 ls (.int (I 265 38) :: s) (SH n, I, L, R, nc, ns, nx) := g_I (idx := 306) (by decide +kernel) ow224 f_8_306 rfl rfl (by decide)
theorem e224_129 : rf d 224 129 ls (.int j :: .ref a :: s) h = rf d 224 130 ls (.int j :: .ref a :: .int j :: .ref a :: s) h := rf_pure (i := .dup2) (len := 1) (okD_ok (by decide +kernel)) rfl
theorem e224_130 (q : ia n a j) : rf d 224 130 ls (.int j :: .ref a :: s) (SH n, I, L, R, nc, ns, nx) = rf d 224 131 ls (.int (I a j.toNatClampNeg) :: s) (SH n, I, L, R, nc, ns, nx) := g_ial (by decide +kernel) q
theorem e224_131 : rf d 224 131 [l0, l1, l2, l3, some (.int x)] s h = rf d 224 133 [l0, l1, l2, l3, some (.int x)] (.int x :: s) h := rf_pure (i := .iload 4) (len := 2) (okD_ok (by decide +kernel)) rfl
theorem e224_133 : rf d 224 133 ls s h = rf d 224 134 ls (.int (-1) :: s) h := rf_pure (i := .iconst (-1)) (len := 1) (okD_ok (by decide +kernel)) rfl
theorem e224_134 : rf d 224 134 ls (.int y :: .int x :: s) h = rf d 224 135 ls (.int (x ^^^ y) :: s) h := rf_pure (i := .ixor) (len := 1) (okD_ok (by decide +kernel)) rfl
theorem e224_135 : rf d 224 135 ls (.int y :: .int x :: s) h = rf d 224 136 ls (.int (x &&& y) :: s) h := rf_pure (i := .iand) (len := 1) (okD_ok (by decide +kernel)) rfl
theorem e224_136 (q : ia n a j) : rf d 224 136 ls (.int x :: .int j :: .ref a :: s) (SH n, I, L, R, nc, ns, nx) = rf d 224 137 ls s (SH n, ip_up I a j.toNatClampNeg x, L, R, nc, ns, nx) := g_ias (by decide +kernel) q
theorem e224_137 : rf d 224 137 [some (.ref a), l1, l2, l3, l4] s h = rf d 224 138 [some (.ref a), l1, l2, l3, l4] (.ref a :: s) h := rf_pure (i := .aload_n 0) (len := 1) (okD_ok (by decide +kernel)) rfl
theorem e224_138 (hR : LYR R) : rf d 224 138 ls (.ref 265 :: s) (SH n, I, L, R, nc, ns, nx) = rf d 224 141 ls (.ref 296 :: s) (SH n, I, L, R, nc, ns, nx) := g_R (idx := 106) (by decide +kernel) ow224 f_8_106 rfl rfl (by decide) (ly_265_46 hR)
theorem e224_141 : rf d 224 141 [some (.ref a), l1, l2, l3, l4] s h = rf d 224 142 [some (.ref a), l1, l2, l3, l4] (.ref a :: s) h := rf_pure (i := .aload_n 0) (len := 1) (okD_ok (by decide +kernel)) rfl
theorem e224_142 : rf d 224 142 ls (.ref 265 :: s) (SH n, I, L, R, nc, ns, nx) = rf d 224 145 ls (.int (I 265 38) :: s) (SH n, I, L, R, nc, ns, nx) := g_I (idx := 306) (by decide +kernel) ow224 f_8_306 rfl rfl (by decide)
theorem e224_145 : rf d 224 145 [l0, l1, some (.int x), l3, l4] s h = rf d 224 146 [l0, l1, some (.int x), l3, l4] (.int x :: s) h := rf_pure (i := .iload_n 2) (len := 1) (okD_ok (by decide +kernel)) rfl
theorem e224_146 : rf d 224 146 ls (.int x :: s) h = if ¬ x = 0 then rf d 224 164 ls s h else rf d 224 149 ls s h := g_if (c := .ne) (off := 18) _ (by decide +kernel) rfl cmp_d
theorem e224_149 : rf d 224 149 [some (.ref a), l1, l2, l3, l4] s h = rf d 224 150 [some (.ref a), l1, l2, l3, l4] (.ref a :: s) h := rf_pure (i := .aload_n 0) (len := 1) (okD_ok (by decide +kernel)) rfl
theorem e224_150 (hR : LYR R) : rf d 224 150 ls (.ref 265 :: s) (SH n, I, L, R, nc, ns, nx) = rf d 224 153 ls (.ref 296 :: s) (SH n, I, L, R, nc, ns, nx) := g_R (idx := 106) (by decide +kernel) ow224 f_8_106 rfl rfl (by decide) (ly_265_46 hR)
theorem e224_153 : rf d 224 153 [some (.ref a), l1, l2, l3, l4] s h = rf d 224 154 [some (.ref a), l1, l2, l3, l4] (.ref a :: s) h := rf_pure (i := .aload_n 0) (len := 1) (okD_ok (by decide +kernel)) rfl
theorem e224_154 : rf d 224 154 ls (.ref 265 :: s) (SH n, I, L, R, nc, ns, nx) = rf d 224 157 ls (.int (I 265 38) :: s) (SH n, I, L, R, nc, ns, nx) := g_I (idx := 306) (by decide +kernel) ow224 f_8_306 rfl rfl (by decide)
theorem e224_157 (q : ia n a j) : rf d 224 157 ls (.int j :: .ref a :: s) (SH n, I, L, R, nc, ns, nx) = rf d 224 158 ls (.int (I a j.toNatClampNeg) :: s) (SH n, I, L, R, nc, ns, nx) := g_ial (by decide +kernel) q
theorem e224_158 : rf d 224 158 [l0, l1, l2, l3, some (.int x)] s h = rf d 224 160 [l0, l1, l2, l3, some (.int x)] (.int x :: s) h := rf_pure (i := .iload 4) (len := 2) (okD_ok (by decide +kernel)) rfl
theorem e224_160 : rf d 224 160 ls (.int y :: .int x :: s) h = rf d 224 161 ls (.int (x ||| y) :: s) h := rf_pure (i := .ior) (len := 1) (okD_ok (by decide +kernel)) rfl
theorem e224_161 : rf d 224 161 ls s h = rf d 224 178 ls s h := rf_goto ⟨okD_ok (i := .goto (17)) (len := 3) (by decide +kernel), rfl⟩
theorem e224_164 : rf d 224 164 [some (.ref a), l1, l2, l3, l4] s h = rf d 224 165 [some (.ref a), l1, l2, l3, l4] (.ref a :: s) h := rf_pure (i := .aload_n 0) (len := 1) (okD_ok (by decide +kernel)) rfl
theorem e224_165 (hR : LYR R) : rf d 224 165 ls (.ref 265 :: s) (SH n, I, L, R, nc, ns, nx) = rf d 224 168 ls (.ref 296 :: s) (SH n, I, L, R, nc, ns, nx) := g_R (idx := 106) (by decide +kernel) ow224 f_8_106 rfl rfl (by decide) (ly_265_46 hR)
theorem e224_168 : rf d 224 168 [some (.ref a), l1, l2, l3, l4] s h = rf d 224 169 [some (.ref a), l1, l2, l3, l4] (.ref a :: s) h := rf_pure (i := .aload_n 0) (len := 1) (okD_ok (by decide +kernel)) rfl
theorem e224_169 : rf d 224 169 ls (.ref 265 :: s) (SH n, I, L, R, nc, ns, nx) = rf d 224 172 ls (.int (I 265 38) :: s) (SH n, I, L, R, nc, ns, nx) := g_I (idx := 306) (by decide +kernel) ow224 f_8_306 rfl rfl (by decide)
theorem e224_172 (q : ia n a j) : rf d 224 172 ls (.int j :: .ref a :: s) (SH n, I, L, R, nc, ns, nx) = rf d 224 173 ls (.int (I a j.toNatClampNeg) :: s) (SH n, I, L, R, nc, ns, nx) := g_ial (by decide +kernel) q
theorem e224_173 : rf d 224 173 [l0, l1, l2, l3, some (.int x)] s h = rf d 224 175 [l0, l1, l2, l3, some (.int x)] (.int x :: s) h := rf_pure (i := .iload 4) (len := 2) (okD_ok (by decide +kernel)) rfl
theorem e224_175 : rf d 224 175 ls s h = rf d 224 176 ls (.int (-1) :: s) h := rf_pure (i := .iconst (-1)) (len := 1) (okD_ok (by decide +kernel)) rfl
theorem e224_176 : rf d 224 176 ls (.int y :: .int x :: s) h = rf d 224 177 ls (.int (x ^^^ y) :: s) h := rf_pure (i := .ixor) (len := 1) (okD_ok (by decide +kernel)) rfl
theorem e224_177 : rf d 224 177 ls (.int y :: .int x :: s) h = rf d 224 178 ls (.int (x &&& y) :: s) h := rf_pure (i := .iand) (len := 1) (okD_ok (by decide +kernel)) rfl
theorem e224_178 (q : ia n a j) : rf d 224 178 ls (.int x :: .int j :: .ref a :: s) (SH n, I, L, R, nc, ns, nx) = rf d 224 179 ls s (SH n, ip_up I a j.toNatClampNeg x, L, R, nc, ns, nx) := g_ias (by decide +kernel) q
theorem e224_179 : rf d 224 179 [some (.ref a), l1, l2, l3, l4] s h = rf d 224 180 [some (.ref a), l1, l2, l3, l4] (.ref a :: s) h := rf_pure (i := .aload_n 0) (len := 1) (okD_ok (by decide +kernel)) rfl
theorem e224_180 (hR : LYR R) : rf d 224 180 ls (.ref 265 :: s) (SH n, I, L, R, nc, ns, nx) = rf d 224 183 ls (.ref 299 :: s) (SH n, I, L, R, nc, ns, nx) := g_R (idx := 115) (by decide +kernel) ow224 f_8_115 rfl rfl (by decide) (ly_265_49 hR)
theorem e224_183 : rf d 224 183 [some (.ref a), l1, l2, l3, l4] s h = rf d 224 184 [some (.ref a), l1, l2, l3, l4] (.ref a :: s) h := rf_pure (i := .aload_n 0) (len := 1) (okD_ok (by decide +kernel)) rfl
theorem e224_184 : rf d 224 184 ls (.ref 265 :: s) (SH n, I, L, R, nc, ns, nx) = rf d 224 187 ls (.int (I 265 38) :: s) (SH n, I, L, R, nc, ns, nx) := g_I (idx := 306) (by decide +kernel) ow224 f_8_306 rfl rfl (by decide)
theorem e224_187 : rf d 224 187 ls (.int j :: .ref a :: s) h = rf d 224 188 ls (.int j :: .ref a :: .int j :: .ref a :: s) h := rf_pure (i := .dup2) (len := 1) (okD_ok (by decide +kernel)) rfl
theorem e224_188 (q : ia n a j) : rf d 224 188 ls (.int j :: .ref a :: s) (SH n, I, L, R, nc, ns, nx) = rf d 224 189 ls (.int (I a j.toNatClampNeg) :: s) (SH n, I, L, R, nc, ns, nx) := g_ial (by decide +kernel) q
theorem e224_189 : rf d 224 189 [l0, l1, l2, l3, some (.int x)] s h = rf d 224 191 [l0, l1, l2, l3, some (.int x)] (.int x :: s) h := rf_pure (i := .iload 4) (len := 2) (okD_ok (by decide +kernel)) rfl
theorem e224_191 : rf d 224 191 ls (.int y :: .int x :: s) h = rf d 224 192 ls (.int (x ||| y) :: s) h := rf_pure (i := .ior) (len := 1) (okD_ok (by decide +kernel)) rfl
theorem e224_192 (q : ia n a j) : rf d 224 192 ls (.int x :: .int j :: .ref a :: s) (SH n, I, L, R, nc, ns, nx) = rf d 224 193 ls s (SH n, ip_up I a j.toNatClampNeg x, L, R, nc, ns, nx) := g_ias (by decide +kernel) q
theorem e224_193 : rf d 224 193 [some (.ref a), l1, l2, l3, l4] s h = rf d 224 194 [some (.ref a), l1, l2, l3, l4] (.ref a :: s) h := rf_pure (i := .aload_n 0) (len := 1) (okD_ok (by decide +kernel)) rfl
theorem e224_194 (hR : LYR R) : rf d 224 194 ls (.ref 265 :: s) (SH n, I, L, R, nc, ns, nx) = rf d 224 197 ls (.ref 301 :: s) (SH n, I, L, R, nc, ns, nx) := g_R (idx := 121) (by decide +kernel) ow224 f_8_121 rfl rfl (by decide) (ly_265_51 hR)
theorem e224_197 : rf d 224 197 ls s h = rf d 224 198 ls (.int 2 :: s) h := rf_pure (i := .iconst (2)) (len := 1) (okD_ok (by decide +kernel)) rfl
theorem e224_198 : rf d 224 198 [some (.ref a), l1, l2, l3, l4] s h = rf d 224 199 [some (.ref a), l1, l2, l3, l4] (.ref a :: s) h := rf_pure (i := .aload_n 0) (len := 1) (okD_ok (by decide +kernel)) rfl
theorem e224_199 : rf d 224 199 ls (.ref 265 :: s) (SH n, I, L, R, nc, ns, nx) = rf d 224 202 ls (.int (I 265 38) :: s) (SH n, I, L, R, nc, ns, nx) := g_I (idx := 306) (by decide +kernel) ow224 f_8_306 rfl rfl (by decide)
theorem e224_202 : rf d 224 202 ls (.int y :: .int x :: s) h = rf d 224 203 ls (.int (x * y) :: s) h := rf_pure (i := .imul) (len := 1) (okD_ok (by decide +kernel)) rfl
theorem e224_203 : rf d 224 203 ls (.int j :: .ref a :: s) h = rf d 224 204 ls (.int j :: .ref a :: .int j :: .ref a :: s) h := rf_pure (i := .dup2) (len := 1) (okD_ok (by decide +kernel)) rfl
theorem e224_204 (q : ia n a j) : rf d 224 204 ls (.int j :: .ref a :: s) (SH n, I, L, R, nc, ns, nx) = rf d 224 205 ls (.int (I a j.toNatClampNeg) :: s) (SH n, I, L, R, nc, ns, nx) := g_ial (by decide +kernel) q
theorem e224_205 : rf d 224 205 [l0, l1, l2, l3, some (.int x)] s h = rf d 224 207 [l0, l1, l2, l3, some (.int x)] (.int x :: s) h := rf_pure (i := .iload 4) (len := 2) (okD_ok (by decide +kernel)) rfl
theorem e224_207 : rf d 224 207 ls s h = rf d 224 208 ls (.int (-1) :: s) h := rf_pure (i := .iconst (-1)) (len := 1) (okD_ok (by decide +kernel)) rfl
theorem e224_208 : rf d 224 208 ls (.int y :: .int x :: s) h = rf d 224 209 ls (.int (x ^^^ y) :: s) h := rf_pure (i := .ixor) (len := 1) (okD_ok (by decide +kernel)) rfl
theorem e224_209 : rf d 224 209 ls (.int y :: .int x :: s) h = rf d 224 210 ls (.int (x &&& y) :: s) h := rf_pure (i := .iand) (len := 1) (okD_ok (by decide +kernel)) rfl
theorem e224_210 (q : ia n a j) : rf d 224 210 ls (.int x :: .int j :: .ref a :: s) (SH n, I, L, R, nc, ns, nx) = rf d 224 211 ls s (SH n, ip_up I a j.toNatClampNeg x, L, R, nc, ns, nx) := g_ias (by decide +kernel) q
theorem e224_211 : rf d 224 211 [some (.ref a), l1, l2, l3, l4] s h = rf d 224 212 [some (.ref a), l1, l2, l3, l4] (.ref a :: s) h := rf_pure (i := .aload_n 0) (len := 1) (okD_ok (by decide +kernel)) rfl
theorem e224_212 (hR : LYR R) : rf d 224 212 ls (.ref 265 :: s) (SH n, I, L, R, nc, ns, nx) = rf d 224 215 ls (.ref 301 :: s) (SH n, I, L, R, nc, ns, nx) := g_R (idx := 121) (by decide +kernel) ow224 f_8_121 rfl rfl (by decide) (ly_265_51 hR)
theorem e224_215 : rf d 224 215 ls s h = rf d 224 216 ls (.int 2 :: s) h := rf_pure (i := .iconst (2)) (len := 1) (okD_ok (by decide +kernel)) rfl
theorem e224_216 : rf d 224 216 [some (.ref a), l1, l2, l3, l4] s h = rf d 224 217 [some (.ref a), l1, l2, l3, l4] (.ref a :: s) h := rf_pure (i := .aload_n 0) (len := 1) (okD_ok (by decide +kernel)) rfl
theorem e224_217 : rf d 224 217 ls (.ref 265 :: s) (SH n, I, L, R, nc, ns, nx) = rf d 224 220 ls (.int (I 265 38) :: s) (SH n, I, L, R, nc, ns, nx) := g_I (idx := 306) (by decide +kernel) ow224 f_8_306 rfl rfl (by decide)
theorem e224_220 : rf d 224 220 ls (.int y :: .int x :: s) h = rf d 224 221 ls (.int (x * y) :: s) h := rf_pure (i := .imul) (len := 1) (okD_ok (by decide +kernel)) rfl
theorem e224_221 : rf d 224 221 ls s h = rf d 224 222 ls (.int 1 :: s) h := rf_pure (i := .iconst (1)) (len := 1) (okD_ok (by decide +kernel)) rfl
theorem e224_222 : rf d 224 222 ls (.int y :: .int x :: s) h = rf d 224 223 ls (.int (x + y) :: s) h := rf_pure (i := .iadd) (len := 1) (okD_ok (by decide +kernel)) rfl
theorem e224_223 : rf d 224 223 ls (.int j :: .ref a :: s) h = rf d 224 224 ls (.int j :: .ref a :: .int j :: .ref a :: s) h := rf_pure (i := .dup2) (len := 1) (okD_ok (by decide +kernel)) rfl
theorem e224_224 (q : ia n a j) : rf d 224 224 ls (.int j :: .ref a :: s) (SH n, I, L, R, nc, ns, nx) = rf d 224 225 ls (.int (I a j.toNatClampNeg) :: s) (SH n, I, L, R, nc, ns, nx) := g_ial (by decide +kernel) q
theorem e224_225 : rf d 224 225 [l0, l1, l2, l3, some (.int x)] s h = rf d 224 227 [l0, l1, l2, l3, some (.int x)] (.int x :: s) h := rf_pure (i := .iload 4) (len := 2) (okD_ok (by decide +kernel)) rfl
theorem e224_227 : rf d 224 227 ls s h = rf d 224 228 ls (.int (-1) :: s) h := rf_pure (i := .iconst (-1)) (len := 1) (okD_ok (by decide +kernel)) rfl
theorem e224_228 : rf d 224 228 ls (.int y :: .int x :: s) h = rf d 224 229 ls (.int (x ^^^ y) :: s) h := rf_pure (i := .ixor) (len := 1) (okD_ok (by decide +kernel)) rfl
theorem e224_229 : rf d 224 229 ls (.int y :: .int x :: s) h = rf d 224 230 ls (.int (x &&& y) :: s) h := rf_pure (i := .iand) (len := 1) (okD_ok (by decide +kernel)) rfl
theorem e224_230 (q : ia n a j) : rf d 224 230 ls (.int x :: .int j :: .ref a :: s) (SH n, I, L, R, nc, ns, nx) = rf d 224 231 ls s (SH n, ip_up I a j.toNatClampNeg x, L, R, nc, ns, nx) := g_ias (by decide +kernel) q
theorem e224_231 : rf d 224 231 [some (.ref a), l1, l2, l3, l4] s h = rf d 224 232 [some (.ref a), l1, l2, l3, l4] (.ref a :: s) h := rf_pure (i := .aload_n 0) (len := 1) (okD_ok (by decide +kernel)) rfl
theorem e224_232 (hR : LYR R) : rf d 224 232 ls (.ref 265 :: s) (SH n, I, L, R, nc, ns, nx) = rf d 224 235 ls (.ref 302 :: s) (SH n, I, L, R, nc, ns, nx) := g_R (idx := 124) (by decide +kernel) ow224 f_8_124 rfl rfl (by decide) (ly_265_52 hR)
theorem e224_235 : rf d 224 235 ls s h = rf d 224 237 ls (.int 8 :: s) h := rf_pure (i := .bipush (8)) (len := 2) (okD_ok (by decide +kernel)) rfl
theorem e224_237 : rf d 224 237 [some (.ref a), l1, l2, l3, l4] s h = rf d 224 238 [some (.ref a), l1, l2, l3, l4] (.ref a :: s) h := rf_pure (i := .aload_n 0) (len := 1) (okD_ok (by decide +kernel)) rfl
theorem e224_238 : rf d 224 238 ls (.ref 265 :: s) (SH n, I, L, R, nc, ns, nx) = rf d 224 241 ls (.int (I 265 38) :: s) (SH n, I, L, R, nc, ns, nx) := g_I (idx := 306) (by decide +kernel) ow224 f_8_306 rfl rfl (by decide)
theorem e224_241 : rf d 224 241 ls (.int y :: .int x :: s) h = rf d 224 242 ls (.int (x * y) :: s) h := rf_pure (i := .imul) (len := 1) (okD_ok (by decide +kernel)) rfl
theorem e224_242 : rf d 224 242 [l0, some (.int x), l2, l3, l4] s h = rf d 224 243 [l0, some (.int x), l2, l3, l4] (.int x :: s) h := rf_pure (i := .iload_n 1) (len := 1) (okD_ok (by decide +kernel)) rfl
theorem e224_243 : rf d 224 243 ls (.int y :: .int x :: s) h = rf d 224 244 ls (.int (x + y) :: s) h := rf_pure (i := .iadd) (len := 1) (okD_ok (by decide +kernel)) rfl
theorem e224_244 : rf d 224 244 [l0, l1, l2, some (.int x), l4] s h = rf d 224 245 [l0, l1, l2, some (.int x), l4] (.int x :: s) h := rf_pure (i := .iload_n 3) (len := 1) (okD_ok (by decide +kernel)) rfl
theorem e224_245 (q : ia n a j) : rf d 224 245 ls (.int x :: .int j :: .ref a :: s) (SH n, I, L, R, nc, ns, nx) = rf d 224 246 ls s (SH n, ip_up I a j.toNatClampNeg x, L, R, nc, ns, nx) := g_ias (by decide +kernel) q
theorem e224_246 : rf d 224 246 [some (.ref a), l1, l2, l3, l4] s h = rf d 224 247 [some (.ref a), l1, l2, l3, l4] (.ref a :: s) h := rf_pure (i := .aload_n 0) (len := 1) (okD_ok (by decide +kernel)) rfl
theorem e224_247 (hR : LYR R) : rf d 224 247 ls (.ref 265 :: s) (SH n, I, L, R, nc, ns, nx) = rf d 224 250 ls (.ref 303 :: s) (SH n, I, L, R, nc, ns, nx) := g_R (idx := 127) (by decide +kernel) ow224 f_8_127 rfl rfl (by decide) (ly_265_53 hR)
theorem e224_250 : rf d 224 250 ls s h = rf d 224 252 ls (.int 8 :: s) h := rf_pure (i := .bipush (8)) (len := 2) (okD_ok (by decide +kernel)) rfl
theorem e224_252 : rf d 224 252 [some (.ref a), l1, l2, l3, l4] s h = rf d 224 253 [some (.ref a), l1, l2, l3, l4] (.ref a :: s) h := rf_pure (i := .aload_n 0) (len := 1) (okD_ok (by decide +kernel)) rfl
theorem e224_253 : rf d 224 253 ls (.ref 265 :: s) (SH n, I, L, R, nc, ns, nx) = rf d 224 256 ls (.int (I 265 38) :: s) (SH n, I, L, R, nc, ns, nx) := g_I (idx := 306) (by decide +kernel) ow224 f_8_306 rfl rfl (by decide)
theorem e224_256 : rf d 224 256 ls (.int y :: .int x :: s) h = rf d 224 257 ls (.int (x * y) :: s) h := rf_pure (i := .imul) (len := 1) (okD_ok (by decide +kernel)) rfl
theorem e224_257 : rf d 224 257 [l0, some (.int x), l2, l3, l4] s h = rf d 224 258 [l0, some (.int x), l2, l3, l4] (.int x :: s) h := rf_pure (i := .iload_n 1) (len := 1) (okD_ok (by decide +kernel)) rfl
theorem e224_258 : rf d 224 258 ls (.int y :: .int x :: s) h = rf d 224 259 ls (.int (x + y) :: s) h := rf_pure (i := .iadd) (len := 1) (okD_ok (by decide +kernel)) rfl
theorem e224_259 : rf d 224 259 ls s h = rf d 224 260 ls (.int 0 :: s) h := rf_pure (i := .iconst (0)) (len := 1) (okD_ok (by decide +kernel)) rfl
theorem e224_260 (q : ia n a j) : rf d 224 260 ls (.int x :: .int j :: .ref a :: s) (SH n, I, L, R, nc, ns, nx) = rf d 224 261 ls s (SH n, ip_up I a j.toNatClampNeg x, L, R, nc, ns, nx) := g_ias (by decide +kernel) q
theorem e224_261 : rf d 224 261 [some (.ref a), l1, l2, l3, l4] s h = rf d 224 262 [some (.ref a), l1, l2, l3, l4] (.ref a :: s) h := rf_pure (i := .aload_n 0) (len := 1) (okD_ok (by decide +kernel)) rfl
theorem e224_262 (hR : LYR R) : rf d 224 262 ls (.ref 265 :: s) (SH n, I, L, R, nc, ns, nx) = rf d 224 265 ls (.ref 304 :: s) (SH n, I, L, R, nc, ns, nx) := g_R (idx := 130) (by decide +kernel) ow224 f_8_130 rfl rfl (by decide) (ly_265_54 hR)
theorem e224_265 : rf d 224 265 ls s h = rf d 224 267 ls (.int 8 :: s) h := rf_pure (i := .bipush (8)) (len := 2) (okD_ok (by decide +kernel)) rfl
theorem e224_267 : rf d 224 267 [some (.ref a), l1, l2, l3, l4] s h = rf d 224 268 [some (.ref a), l1, l2, l3, l4] (.ref a :: s) h := rf_pure (i := .aload_n 0) (len := 1) (okD_ok (by decide +kernel)) rfl
theorem e224_268 : rf d 224 268 ls (.ref 265 :: s) (SH n, I, L, R, nc, ns, nx) = rf d 224 271 ls (.int (I 265 38) :: s) (SH n, I, L, R, nc, ns, nx) := g_I (idx := 306) (by decide +kernel) ow224 f_8_306 rfl rfl (by decide)
theorem e224_271 : rf d 224 271 ls (.int y :: .int x :: s) h = rf d 224 272 ls (.int (x * y) :: s) h := rf_pure (i := .imul) (len := 1) (okD_ok (by decide +kernel)) rfl
theorem e224_272 : rf d 224 272 [l0, some (.int x), l2, l3, l4] s h = rf d 224 273 [l0, some (.int x), l2, l3, l4] (.int x :: s) h := rf_pure (i := .iload_n 1) (len := 1) (okD_ok (by decide +kernel)) rfl
theorem e224_273 : rf d 224 273 ls (.int y :: .int x :: s) h = rf d 224 274 ls (.int (x + y) :: s) h := rf_pure (i := .iadd) (len := 1) (okD_ok (by decide +kernel)) rfl
theorem e224_274 : rf d 224 274 [some (.ref a), l1, l2, l3, l4] s h = rf d 224 275 [some (.ref a), l1, l2, l3, l4] (.ref a :: s) h := rf_pure (i := .aload_n 0) (len := 1) (okD_ok (by decide +kernel)) rfl
theorem e224_275 : rf d 224 275 ls (.ref 265 :: s) (SH n, I, L, R, nc, ns, nx) = rf d 224 278 ls (.int (I 265 38) :: s) (SH n, I, L, R, nc, ns, nx) := g_I (idx := 306) (by decide +kernel) ow224 f_8_306 rfl rfl (by decide)
theorem e224_278 (q : ia n a j) : rf d 224 278 ls (.int x :: .int j :: .ref a :: s) (SH n, I, L, R, nc, ns, nx) = rf d 224 279 ls s (SH n, ip_up I a j.toNatClampNeg x, L, R, nc, ns, nx) := g_ias (by decide +kernel) q
theorem e224_279 : rf d 224 279 [some (.ref a), l1, l2, l3, l4] s h = rf d 224 280 [some (.ref a), l1, l2, l3, l4] (.ref a :: s) h := rf_pure (i := .aload_n 0) (len := 1) (okD_ok (by decide +kernel)) rfl
theorem e224_280 (hR : LYR R) : rf d 224 280 ls (.ref 265 :: s) (SH n, I, L, R, nc, ns, nx) = rf d 224 283 ls (.ref 293 :: s) (SH n, I, L, R, nc, ns, nx) := g_R (idx := 97) (by decide +kernel) ow224 f_8_97 rfl rfl (by decide) (ly_265_43 hR)
theorem e224_283 : rf d 224 283 [some (.ref a), l1, l2, l3, l4] s h = rf d 224 284 [some (.ref a), l1, l2, l3, l4] (.ref a :: s) h := rf_pure (i := .aload_n 0) (len := 1) (okD_ok (by decide +kernel)) rfl
theorem e224_284 : rf d 224 284 ls (.ref 265 :: s) (SH n, I, L, R, nc, ns, nx) = rf d 224 287 ls (.int (I 265 38) :: s) (SH n, I, L, R, nc, ns, nx) := g_I (idx := 306) (by decide +kernel) ow224 f_8_306 rfl rfl (by decide)
theorem e224_287 (q : ia n a j) : rf d 224 287 ls (.int j :: .ref a :: s) (SH n, I, L, R, nc, ns, nx) = rf d 224 288 ls (.int (I a j.toNatClampNeg) :: s) (SH n, I, L, R, nc, ns, nx) := g_ial (by decide +kernel) q
theorem e224_288 : rf d 224 288 [some (.ref a), l1, l2, l3, l4] s h = rf d 224 289 [some (.ref a), l1, l2, l3, l4] (.ref a :: s) h := rf_pure (i := .aload_n 0) (len := 1) (okD_ok (by decide +kernel)) rfl
theorem e224_289 (hR : LYR R) : rf d 224 289 ls (.ref 265 :: s) (SH n, I, L, R, nc, ns, nx) = rf d 224 292 ls (.ref 292 :: s) (SH n, I, L, R, nc, ns, nx) := g_R (idx := 94) (by decide +kernel) ow224 f_8_94 rfl rfl (by decide) (ly_265_42 hR)
theorem e224_292 : rf d 224 292 [some (.ref a), l1, l2, l3, l4] s h = rf d 224 293 [some (.ref a), l1, l2, l3, l4] (.ref a :: s) h := rf_pure (i := .aload_n 0) (len := 1) (okD_ok (by decide +kernel)) rfl
theorem e224_293 : rf d 224 293 ls (.ref 265 :: s) (SH n, I, L, R, nc, ns, nx) = rf d 224 296 ls (.int (I 265 38) :: s) (SH n, I, L, R, nc, ns, nx) := g_I (idx := 306) (by decide +kernel) ow224 f_8_306 rfl rfl (by decide)
theorem e224_296 (q : ia n a j) : rf d 224 296 ls (.int j :: .ref a :: s) (SH n, I, L, R, nc, ns, nx) = rf d 224 297 ls (.int (I a j.toNatClampNeg) :: s) (SH n, I, L, R, nc, ns, nx) := g_ial (by decide +kernel) q
theorem e224_297 : rf d 224 297 ls (.int y :: .int x :: s) h = rf d 224 298 ls (.int (x &&& y) :: s) h := rf_pure (i := .iand) (len := 1) (okD_ok (by decide +kernel)) rfl
theorem e224_298 (hcat : ip_cat s ≤ 8) : rf (d + 1) 224 298 ls (.int x0 :: s) h = rf_k (d + 1) 224 298 ls s (cf d 226 [.int x0] h) := g_cs (idx := 333) [.int x0] (by decide +kernel) ow224 ms_8_333 mt_8_333 (by decide) rfl mL226 rfl hcat
theorem e224_301 : rf d 224 301 ls [.int x] h = some (.inl (some (.int x)), h) := g_ri (by decide +kernel) rt224
theorem en225 : cf d 225 [.int x0] h = rf d 225 0 [some (.int x0)] [] h := rfl
theorem e225_0 : rf d 225 0 [some (.int x)] s h = rf d 225 1 [some (.int x)] (.int x :: s) h := rf_pure (i := .iload_n 0) (len := 1) (okD_ok (by decide +kernel)) rfl
theorem e225_1 : rf d 225 1 ls s h = rf d 225 2 ls (.int 0 :: s) h := rf_pure (i := .iconst (0)) (len := 1) (okD_ok (by decide +kernel)) rfl
theorem e225_2 : rf d 225 2 ls s h = rf d 225 3 ls (.int 1 :: s) h := rf_pure (i := .iconst (1)) (len := 1) (okD_ok (by decide +kernel)) rfl
theorem e225_3 (hcat : ip_cat s ≤ 8) : rf (d + 1) 225 3 ls (.int x2 :: .int x1 :: .int x0 :: s) h = rf_k (d + 1) 225 3 ls s (cf d 217 [.int x0, .int x1, .int x2] h) := g_cs (idx := 315) [.int x2, .int x1, .int x0] (by decide +kernel) ow225 ms_8_315 mt_8_315 (by decide) rfl mL217 rfl hcat
theorem e225_6 (hx : x = 0 ∨ x = 1) : rf d 225 6 ls [.int x] h = some (.inl (some (.int x)), h) := g_rz (by decide +kernel) rt225 hx
theorem en226 : cf d 226 [.int x0] h = rf d 226 0 [some (.int x0), none, none] [] h := rfl
theorem e226_0 : rf d 226 0 ls s h = rf d 226 1 ls (.int 0 :: s) h := rf_pure (i := .iconst (0)) (len := 1) (okD_ok (by decide +kernel)) rfl
theorem e226_1 (hn : ip_nl l0 = true) : rf d 226 1 [l0, l1, l2] (.int x :: s) h = rf d 226 2 [l0, some (.int x), l2] s h := g_sti (i := .istore_n 1) (len := 1) (q := 0) (p := 1) (by decide +kernel) rfl rfl hn
theorem e226_2 : rf d 226 2 [some (.int x), l1, l2] s h = rf d 226 3 [some (.int x), l1, l2] (.int x :: s) h := rf_pure (i := .iload_n 0) (len := 1) (okD_ok (by decide +kernel)) rfl
theorem e226_3 (hn : ip_nl l1 = true) : rf d 226 3 [l0, l1, l2] (.int x :: s) h = rf d 226 4 [l0, l1, some (.int x)] s h := g_sti (i := .istore_n 2) (len := 1) (q := 1) (p := 1) (by decide +kernel) rfl rfl hn
theorem e226_4 : rf d 226 4 [l0, l1, some (.int x)] s h = rf d 226 5 [l0, l1, some (.int x)] (.int x :: s) h := rf_pure (i := .iload_n 2) (len := 1) (okD_ok (by decide +kernel)) rfl
theorem e226_5 : rf d 226 5 ls (.int x :: s) h = if x = 0 then rf d 226 20 ls s h else rf d 226 8 ls s h := g_if (c := .eq) (off := 15) _ (by decide +kernel) rfl cmp_d
theorem e226_8 (hn : ip_nl l0 = true) : rf d 226 8 [l0, some (.int x), l2] s h = rf d 226 11 [l0, some (.int (x + 1)), l2] s h := g_inc (q := 0) (z := 1) (w := 1) (x := x) (by decide) (by decide +kernel) rfl rfl hn
theorem e226_11 : rf d 226 11 [l0, l1, some (.int x)] s h = rf d 226 12 [l0, l1, some (.int x)] (.int x :: s) h := rf_pure (i := .iload_n 2) (len := 1) (okD_ok (by decide +kernel)) rfl
theorem e226_12 : rf d 226 12 [l0, l1, some (.int x)] s h = rf d 226 13 [l0, l1, some (.int x)] (.int x :: s) h := rf_pure (i := .iload_n 2) (len := 1) (okD_ok (by decide +kernel)) rfl
theorem e226_13 : rf d 226 13 ls s h = rf d 226 14 ls (.int 1 :: s) h := rf_pure (i := .iconst (1)) (len := 1) (okD_ok (by decide +kernel)) rfl
theorem e226_14 : rf d 226 14 ls (.int y :: .int x :: s) h = rf d 226 15 ls (.int (x - y) :: s) h := rf_pure (i := .isub) (len := 1) (okD_ok (by decide +kernel)) rfl
theorem e226_15 : rf d 226 15 ls (.int y :: .int x :: s) h = rf d 226 16 ls (.int (x &&& y) :: s) h := rf_pure (i := .iand) (len := 1) (okD_ok (by decide +kernel)) rfl
theorem e226_16 (hn : ip_nl l1 = true) : rf d 226 16 [l0, l1, l2] (.int x :: s) h = rf d 226 17 [l0, l1, some (.int x)] s h := g_sti (i := .istore_n 2) (len := 1) (q := 1) (p := 1) (by decide +kernel) rfl rfl hn
theorem e226_17 : rf d 226 17 ls s h = rf d 226 4 ls s h := rf_goto ⟨okD_ok (i := .goto (-13)) (len := 3) (by decide +kernel), rfl⟩
theorem e226_20 : rf d 226 20 [l0, some (.int x), l2] s h = rf d 226 21 [l0, some (.int x), l2] (.int x :: s) h := rf_pure (i := .iload_n 1) (len := 1) (okD_ok (by decide +kernel)) rfl
theorem e226_21 : rf d 226 21 ls [.int x] h = some (.inl (some (.int x)), h) := g_ri (by decide +kernel) rt226
theorem en227 : cf d 227 [.ref a, .int x0, .int x1] h = rf d 227 0 [some (.ref a), some (.int x0), some (.int x1), none] [] h := rfl
theorem e227_0 : rf d 227 0 [some (.ref a), l1, l2, l3] s h = rf d 227 1 [some (.ref a), l1, l2, l3] (.ref a :: s) h := rf_pure (i := .aload_n 0) (len := 1) (okD_ok (by decide +kernel)) rfl
theorem e227_1 : rf d 227 1 [some (.ref a), l1, l2, l3] s h = rf d 227 2 [some (.ref a), l1, l2, l3] (.ref a :: s) h := rf_pure (i := .aload_n 0) (len := 1) (okD_ok (by decide +kernel)) rfl
theorem e227_2 : rf d 227 2 [l0, some (.int x), l2, l3] s h = rf d 227 3 [l0, some (.int x), l2, l3] (.int x :: s) h := rf_pure (i := .iload_n 1) (len := 1) (okD_ok (by decide +kernel)) rfl
theorem e227_3 (hcat : ip_cat s ≤ 8) : rf (d + 1) 227 3 ls (.int x0 :: .ref 265 :: s) (SH n, I, L, R, nc, ns, nx) = rf_k (d + 1) 227 3 ls s (cf d 216 [.ref 265, .int x0] (SH n, I, L, R, nc, ns, nx)) := g_cv (idx := 319) (t := 8) [.int x0] (by decide +kernel) ow227 ms_8_319 mt_8_319 cy216_8 rfl rfl mL216 rfl rfl (by decide) hcat
theorem e227_6 : rf d 227 6 ls (.int x :: s) h = if ¬ x = 0 then rf d 227 13 ls s h else rf d 227 9 ls s h := g_if (c := .ne) (off := 7) _ (by decide +kernel) rfl cmp_d
theorem e227_9 : rf d 227 9 ls s h = rf d 227 10 ls (.int 1 :: s) h := rf_pure (i := .iconst (1)) (len := 1) (okD_ok (by decide +kernel)) rfl
theorem e227_10 : rf d 227 10 ls s h = rf d 227 70 ls s h := rf_goto ⟨okD_ok (i := .goto (60)) (len := 3) (by decide +kernel), rfl⟩
theorem e227_13 : rf d 227 13 [l0, l1, some (.int x), l3] s h = rf d 227 14 [l0, l1, some (.int x), l3] (.int x :: s) h := rf_pure (i := .iload_n 2) (len := 1) (okD_ok (by decide +kernel)) rfl
theorem e227_14 (hcat : ip_cat s ≤ 8) : rf (d + 1) 227 14 ls (.int x0 :: s) h = rf_k (d + 1) 227 14 ls s (cf d 225 [.int x0] h) := g_cs (idx := 330) [.int x0] (by decide +kernel) ow227 ms_8_330 mt_8_330 (by decide) rfl mL225 rfl hcat
theorem e227_17 : rf d 227 17 ls (.int x :: s) h = if ¬ x = 0 then rf d 227 24 ls s h else rf d 227 20 ls s h := g_if (c := .ne) (off := 7) _ (by decide +kernel) rfl cmp_d
theorem e227_20 : rf d 227 20 ls s h = rf d 227 21 ls (.int 2 :: s) h := rf_pure (i := .iconst (2)) (len := 1) (okD_ok (by decide +kernel)) rfl
theorem e227_21 : rf d 227 21 ls s h = rf d 227 70 ls s h := rf_goto ⟨okD_ok (i := .goto (49)) (len := 3) (by decide +kernel), rfl⟩
theorem e227_24 : rf d 227 24 [some (.ref a), l1, l2, l3] s h = rf d 227 25 [some (.ref a), l1, l2, l3] (.ref a :: s) h := rf_pure (i := .aload_n 0) (len := 1) (okD_ok (by decide +kernel)) rfl
theorem e227_25 (hR : LYR R) : rf d 227 25 ls (.ref 265 :: s) (SH n, I, L, R, nc, ns, nx) = rf d 227 28 ls (.ref 289 :: s) (SH n, I, L, R, nc, ns, nx) := g_R (idx := 85) (by decide +kernel) ow227 f_8_85 rfl rfl (by decide) (ly_265_39 hR)
theorem e227_28 : rf d 227 28 [some (.ref a), l1, l2, l3] s h = rf d 227 29 [some (.ref a), l1, l2, l3] (.ref a :: s) h := rf_pure (i := .aload_n 0) (len := 1) (okD_ok (by decide +kernel)) rfl
theorem e227_29 : rf d 227 29 ls (.ref 265 :: s) (SH n, I, L, R, nc, ns, nx) = rf d 227 32 ls (.int (I 265 38) :: s) (SH n, I, L, R, nc, ns, nx) := g_I (idx := 306) (by decide +kernel) ow227 f_8_306 rfl rfl (by decide)
theorem e227_32 (q : ia n a j) : rf d 227 32 ls (.int j :: .ref a :: s) (SH n, I, L, R, nc, ns, nx) = rf d 227 33 ls (.int (I a j.toNatClampNeg) :: s) (SH n, I, L, R, nc, ns, nx) := g_ial (by decide +kernel) q
theorem e227_33 : rf d 227 33 ls (.int x :: s) h = if ¬ x = 0 then rf d 227 65 ls s h else rf d 227 36 ls s h := g_if (c := .ne) (off := 32) _ (by decide +kernel) rfl cmp_d
theorem e227_36 : rf d 227 36 [some (.ref a), l1, l2, l3] s h = rf d 227 37 [some (.ref a), l1, l2, l3] (.ref a :: s) h := rf_pure (i := .aload_n 0) (len := 1) (okD_ok (by decide +kernel)) rfl
theorem e227_37 (hR : LYR R) : rf d 227 37 ls (.ref 265 :: s) (SH n, I, L, R, nc, ns, nx) = rf d 227 40 ls (.ref 299 :: s) (SH n, I, L, R, nc, ns, nx) := g_R (idx := 115) (by decide +kernel) ow227 f_8_115 rfl rfl (by decide) (ly_265_49 hR)
theorem e227_40 : rf d 227 40 [some (.ref a), l1, l2, l3] s h = rf d 227 41 [some (.ref a), l1, l2, l3] (.ref a :: s) h := rf_pure (i := .aload_n 0) (len := 1) (okD_ok (by decide +kernel)) rfl
theorem e227_41 : rf d 227 41 ls (.ref 265 :: s) (SH n, I, L, R, nc, ns, nx) = rf d 227 44 ls (.int (I 265 38) :: s) (SH n, I, L, R, nc, ns, nx) := g_I (idx := 306) (by decide +kernel) ow227 f_8_306 rfl rfl (by decide)
theorem e227_44 (q : ia n a j) : rf d 227 44 ls (.int j :: .ref a :: s) (SH n, I, L, R, nc, ns, nx) = rf d 227 45 ls (.int (I a j.toNatClampNeg) :: s) (SH n, I, L, R, nc, ns, nx) := g_ial (by decide +kernel) q
theorem e227_45 : rf d 227 45 [l0, some (.int x), l2, l3] s h = rf d 227 46 [l0, some (.int x), l2, l3] (.int x :: s) h := rf_pure (i := .iload_n 1) (len := 1) (okD_ok (by decide +kernel)) rfl
theorem e227_46 (hcat : ip_cat s ≤ 8) : rf (d + 1) 227 46 ls (.int x1 :: .int x0 :: s) h = rf_k (d + 1) 227 46 ls s (cf d 186 [.int x0, .int x1] h) := g_cs (idx := 234) [.int x1, .int x0] (by decide +kernel) ow227 ms_8_234 mt_8_234 (by decide) rfl mL186 rfl hcat
theorem e227_49 : rf d 227 49 ls (.int x :: s) h = if x = 0 then rf d 227 65 ls s h else rf d 227 52 ls s h := g_if (c := .eq) (off := 16) _ (by decide +kernel) rfl cmp_d
theorem e227_52 : rf d 227 52 [some (.ref a), l1, l2, l3] s h = rf d 227 53 [some (.ref a), l1, l2, l3] (.ref a :: s) h := rf_pure (i := .aload_n 0) (len := 1) (okD_ok (by decide +kernel)) rfl
theorem e227_53 : rf d 227 53 [some (.ref a), l1, l2, l3] s h = rf d 227 54 [some (.ref a), l1, l2, l3] (.ref a :: s) h := rf_pure (i := .aload_n 0) (len := 1) (okD_ok (by decide +kernel)) rfl
theorem e227_54 : rf d 227 54 ls (.ref 265 :: s) (SH n, I, L, R, nc, ns, nx) = rf d 227 57 ls (.int (I 265 38) :: s) (SH n, I, L, R, nc, ns, nx) := g_I (idx := 306) (by decide +kernel) ow227 f_8_306 rfl rfl (by decide)
theorem e227_57 : rf d 227 57 [l0, some (.int x), l2, l3] s h = rf d 227 58 [l0, some (.int x), l2, l3] (.int x :: s) h := rf_pure (i := .iload_n 1) (len := 1) (okD_ok (by decide +kernel)) rfl
theorem e227_58 : rf d 227 58 [l0, l1, some (.int x), l3] s h = rf d 227 59 [l0, l1, some (.int x), l3] (.int x :: s) h := rf_pure (i := .iload_n 2) (len := 1) (okD_ok (by decide +kernel)) rfl
theorem e227_59 (hcat : ip_cat s ≤ 8) : rf (d + 1) 227 59 ls (.int x2 :: .int x1 :: .int x0 :: .ref 265 :: s) (SH n, I, L, R, nc, ns, nx) = rf_k (d + 1) 227 59 ls s (cf d 228 [.ref 265, .int x0, .int x1, .int x2] (SH n, I, L, R, nc, ns, nx)) := g_cv (idx := 336) (t := 8) [.int x2, .int x1, .int x0] (by decide +kernel) ow227 ms_8_336 mt_8_336 cy228_8 rfl rfl mL228 rfl rfl (by decide) hcat
theorem e227_62 : rf d 227 62 ls (.int x :: s) h = if ¬ x = 0 then rf d 227 69 ls s h else rf d 227 65 ls s h := g_if (c := .ne) (off := 7) _ (by decide +kernel) rfl cmp_d
theorem e227_65 : rf d 227 65 ls s h = rf d 227 66 ls (.int 3 :: s) h := rf_pure (i := .iconst (3)) (len := 1) (okD_ok (by decide +kernel)) rfl
theorem e227_66 : rf d 227 66 ls s h = rf d 227 70 ls s h := rf_goto ⟨okD_ok (i := .goto (4)) (len := 3) (by decide +kernel), rfl⟩
theorem e227_69 : rf d 227 69 ls s h = rf d 227 70 ls (.int 0 :: s) h := rf_pure (i := .iconst (0)) (len := 1) (okD_ok (by decide +kernel)) rfl
theorem e227_70 : rf d 227 70 ls (.int x :: .ref 265 :: s) (SH n, I, L, R, nc, ns, nx) = rf d 227 73 ls s (SH n, ip_up I 265 0 x, L, R, nc, ns, nx) := g_pI (idx := 142) (by decide +kernel) ow227 f_8_142 rfl (by decide +kernel) rfl (by decide)
theorem e227_73 : rf d 227 73 [some (.ref a), l1, l2, l3] s h = rf d 227 74 [some (.ref a), l1, l2, l3] (.ref a :: s) h := rf_pure (i := .aload_n 0) (len := 1) (okD_ok (by decide +kernel)) rfl
theorem e227_74 : rf d 227 74 ls (.ref 265 :: s) (SH n, I, L, R, nc, ns, nx) = rf d 227 77 ls (.int (I 265 0) :: s) (SH n, I, L, R, nc, ns, nx) := g_I (idx := 142) (by decide +kernel) ow227 f_8_142 rfl rfl (by decide)
theorem e227_77 : rf d 227 77 ls (.int x :: s) h = if x ≤ 0 then rf d 227 82 ls s h else rf d 227 80 ls s h := g_if (c := .le) (off := 5) _ (by decide +kernel) rfl cmp_d
theorem e227_80 : rf d 227 80 ls s h = rf d 227 81 ls (.int 0 :: s) h := rf_pure (i := .iconst (0)) (len := 1) (okD_ok (by decide +kernel)) rfl
theorem e227_81 (hx : x = 0 ∨ x = 1) : rf d 227 81 ls [.int x] h = some (.inl (some (.int x)), h) := g_rz (by decide +kernel) rt227 hx
theorem e227_82 : rf d 227 82 [some (.ref a), l1, l2, l3] s h = rf d 227 83 [some (.ref a), l1, l2, l3] (.ref a :: s) h := rf_pure (i := .aload_n 0) (len := 1) (okD_ok (by decide +kernel)) rfl
theorem e227_83 (hR : LYR R) : rf d 227 83 ls (.ref 265 :: s) (SH n, I, L, R, nc, ns, nx) = rf d 227 86 ls (.ref 301 :: s) (SH n, I, L, R, nc, ns, nx) := g_R (idx := 121) (by decide +kernel) ow227 f_8_121 rfl rfl (by decide) (ly_265_51 hR)
theorem e227_86 : rf d 227 86 ls s h = rf d 227 87 ls (.int 2 :: s) h := rf_pure (i := .iconst (2)) (len := 1) (okD_ok (by decide +kernel)) rfl
theorem e227_87 : rf d 227 87 [some (.ref a), l1, l2, l3] s h = rf d 227 88 [some (.ref a), l1, l2, l3] (.ref a :: s) h := rf_pure (i := .aload_n 0) (len := 1) (okD_ok (by decide +kernel)) rfl
theorem e227_88 : rf d 227 88 ls (.ref 265 :: s) (SH n, I, L, R, nc, ns, nx) = rf d 227 91 ls (.int (I 265 38) :: s) (SH n, I, L, R, nc, ns, nx) := g_I (idx := 306) (by decide +kernel) ow227 f_8_306 rfl rfl (by decide)
theorem e227_91 : rf d 227 91 ls (.int y :: .int x :: s) h = rf d 227 92 ls (.int (x * y) :: s) h := rf_pure (i := .imul) (len := 1) (okD_ok (by decide +kernel)) rfl
theorem e227_92 : rf d 227 92 [l0, l1, some (.int x), l3] s h = rf d 227 93 [l0, l1, some (.int x), l3] (.int x :: s) h := rf_pure (i := .iload_n 2) (len := 1) (okD_ok (by decide +kernel)) rfl
theorem e227_93 : rf d 227 93 ls (.int y :: .int x :: s) h = rf d 227 94 ls (.int (x + y) :: s) h := rf_pure (i := .iadd) (len := 1) (okD_ok (by decide +kernel)) rfl
theorem e227_94 (q : ia n a j) : rf d 227 94 ls (.int j :: .ref a :: s) (SH n, I, L, R, nc, ns, nx) = rf d 227 95 ls (.int (I a j.toNatClampNeg) :: s) (SH n, I, L, R, nc, ns, nx) := g_ial (by decide +kernel) q
theorem e227_95 : rf d 227 95 [l0, some (.int x), l2, l3] s h = rf d 227 96 [l0, some (.int x), l2, l3] (.int x :: s) h := rf_pure (i := .iload_n 1) (len := 1) (okD_ok (by decide +kernel)) rfl
theorem e227_96 (hcat : ip_cat s ≤ 8) : rf (d + 1) 227 96 ls (.int x1 :: .int x0 :: s) h = rf_k (d + 1) 227 96 ls s (cf d 186 [.int x0, .int x1] h) := g_cs (idx := 234) [.int x1, .int x0] (by decide +kernel) ow227 ms_8_234 mt_8_234 (by decide) rfl mL186 rfl hcat
theorem e227_99 : rf d 227 99 ls (.int x :: s) h = if ¬ x = 0 then rf d 227 106 ls s h else rf d 227 102 ls s h := g_if (c := .ne) (off := 7) _ (by decide +kernel) rfl cmp_d
theorem e227_102 : rf d 227 102 ls s h = rf d 227 103 ls (.int 1 :: s) h := rf_pure (i := .iconst (1)) (len := 1) (okD_ok (by decide +kernel)) rfl
theorem e227_103 : rf d 227 103 ls s h = rf d 227 107 ls s h := rf_goto ⟨okD_ok (i := .goto (4)) (len := 3) (by decide +kernel), rfl⟩
theorem e227_106 : rf d 227 106 ls s h = rf d 227 107 ls (.int 0 :: s) h := rf_pure (i := .iconst (0)) (len := 1) (okD_ok (by decide +kernel)) rfl
theorem e227_107 (hn : ip_nl l2 = true) : rf d 227 107 [l0, l1, l2, l3] (.int x :: s) h = rf d 227 108 [l0, l1, l2, some (.int x)] s h := g_sti (i := .istore_n 3) (len := 1) (q := 2) (p := 1) (by decide +kernel) rfl rfl hn
theorem e227_108 : rf d 227 108 [some (.ref a), l1, l2, l3] s h = rf d 227 109 [some (.ref a), l1, l2, l3] (.ref a :: s) h := rf_pure (i := .aload_n 0) (len := 1) (okD_ok (by decide +kernel)) rfl
theorem e227_109 (hR : LYR R) : rf d 227 109 ls (.ref 265 :: s) (SH n, I, L, R, nc, ns, nx) = rf d 227 112 ls (.ref 301 :: s) (SH n, I, L, R, nc, ns, nx) := g_R (idx := 121) (by decide +kernel) ow227 f_8_121 rfl rfl (by decide) (ly_265_51 hR)
theorem e227_112 : rf d 227 112 ls s h = rf d 227 113 ls (.int 2 :: s) h := rf_pure (i := .iconst (2)) (len := 1) (okD_ok (by decide +kernel)) rfl
theorem e227_113 : rf d 227 113 [some (.ref a), l1, l2, l3] s h = rf d 227 114 [some (.ref a), l1, l2, l3] (.ref a :: s) h := rf_pure (i := .aload_n 0) (len := 1) (okD_ok (by decide +kernel)) rfl
theorem e227_114 : rf d 227 114 ls (.ref 265 :: s) (SH n, I, L, R, nc, ns, nx) = rf d 227 117 ls (.int (I 265 38) :: s) (SH n, I, L, R, nc, ns, nx) := g_I (idx := 306) (by decide +kernel) ow227 f_8_306 rfl rfl (by decide)
theorem e227_117 : rf d 227 117 ls (.int y :: .int x :: s) h = rf d 227 118 ls (.int (x * y) :: s) h := rf_pure (i := .imul) (len := 1) (okD_ok (by decide +kernel)) rfl
theorem e227_118 : rf d 227 118 [l0, l1, some (.int x), l3] s h = rf d 227 119 [l0, l1, some (.int x), l3] (.int x :: s) h := rf_pure (i := .iload_n 2) (len := 1) (okD_ok (by decide +kernel)) rfl
theorem e227_119 : rf d 227 119 ls (.int y :: .int x :: s) h = rf d 227 120 ls (.int (x + y) :: s) h := rf_pure (i := .iadd) (len := 1) (okD_ok (by decide +kernel)) rfl
theorem e227_120 : rf d 227 120 ls (.int j :: .ref a :: s) h = rf d 227 121 ls (.int j :: .ref a :: .int j :: .ref a :: s) h := rf_pure (i := .dup2) (len := 1) (okD_ok (by decide +kernel)) rfl
theorem e227_121 (q : ia n a j) : rf d 227 121 ls (.int j :: .ref a :: s) (SH n, I, L, R, nc, ns, nx) = rf d 227 122 ls (.int (I a j.toNatClampNeg) :: s) (SH n, I, L, R, nc, ns, nx) := g_ial (by decide +kernel) q
theorem e227_122 : rf d 227 122 ls s h = rf d 227 123 ls (.int 1 :: s) h := rf_pure (i := .iconst (1)) (len := 1) (okD_ok (by decide +kernel)) rfl
theorem e227_123 : rf d 227 123 [l0, some (.int x), l2, l3] s h = rf d 227 124 [l0, some (.int x), l2, l3] (.int x :: s) h := rf_pure (i := .iload_n 1) (len := 1) (okD_ok (by decide +kernel)) rfl
theorem e227_124 : rf d 227 124 ls (.int y :: .int x :: s) h = rf d 227 125 ls (.int (x <<< (y &&& 31)) :: s) h := rf_pure (i := .ishl) (len := 1) (okD_ok (by decide +kernel)) rfl
theorem e227_125 : rf d 227 125 ls (.int y :: .int x :: s) h = rf d 227 126 ls (.int (x ||| y) :: s) h := rf_pure (i := .ior) (len := 1) (okD_ok (by decide +kernel)) rfl
theorem e227_126 (q : ia n a j) : rf d 227 126 ls (.int x :: .int j :: .ref a :: s) (SH n, I, L, R, nc, ns, nx) = rf d 227 127 ls s (SH n, ip_up I a j.toNatClampNeg x, L, R, nc, ns, nx) := g_ias (by decide +kernel) q
theorem e227_127 : rf d 227 127 [l0, l1, l2, some (.int x)] s h = rf d 227 128 [l0, l1, l2, some (.int x)] (.int x :: s) h := rf_pure (i := .iload_n 3) (len := 1) (okD_ok (by decide +kernel)) rfl
theorem e227_128 (hx : x = 0 ∨ x = 1) : rf d 227 128 ls [.int x] h = some (.inl (some (.int x)), h) := g_rz (by decide +kernel) rt227 hx
theorem en228 : cf d 228 [.ref a, .int x0, .int x1, .int x2] h = rf d 228 0 [some (.ref a), some (.int x0), some (.int x1), some (.int x2)] [] h := rfl
theorem e228_0 : rf d 228 0 [some (.ref a), l1, l2, l3] s h = rf d 228 1 [some (.ref a), l1, l2, l3] (.ref a :: s) h := rf_pure (i := .aload_n 0) (len := 1) (okD_ok (by decide +kernel)) rfl
theorem e228_1 (hR : LYR R) : rf d 228 1 ls (.ref 265 :: s) (SH n, I, L, R, nc, ns, nx) = rf d 228 4 ls (.ref 293 :: s) (SH n, I, L, R, nc, ns, nx) := g_R (idx := 97) (by decide +kernel) ow228 f_8_97 rfl rfl (by decide) (ly_265_43 hR)
theorem e228_4 : rf d 228 4 [l0, some (.int x), l2, l3] s h = rf d 228 5 [l0, some (.int x), l2, l3] (.int x :: s) h := rf_pure (i := .iload_n 1) (len := 1) (okD_ok (by decide +kernel)) rfl
theorem e228_5 (q : ia n a j) : rf d 228 5 ls (.int j :: .ref a :: s) (SH n, I, L, R, nc, ns, nx) = rf d 228 6 ls (.int (I a j.toNatClampNeg) :: s) (SH n, I, L, R, nc, ns, nx) := g_ial (by decide +kernel) q
theorem e228_6 : rf d 228 6 [l0, l1, some (.int x), l3] s h = rf d 228 7 [l0, l1, some (.int x), l3] (.int x :: s) h := rf_pure (i := .iload_n 2) (len := 1) (okD_ok (by decide +kernel)) rfl
theorem e228_7 (hcat : ip_cat s ≤ 8) : rf (d + 1) 228 7 ls (.int x1 :: .int x0 :: s) h = rf_k (d + 1) 228 7 ls s (cf d 186 [.int x0, .int x1] h) := g_cs (idx := 234) [.int x1, .int x0] (by decide +kernel) ow228 ms_8_234 mt_8_234 (by decide) rfl mL186 rfl hcat
theorem e228_10 : rf d 228 10 ls (.int x :: s) h = if ¬ x = 0 then rf d 228 40 ls s h else rf d 228 13 ls s h := g_if (c := .ne) (off := 30) _ (by decide +kernel) rfl cmp_d
theorem e228_13 : rf d 228 13 [some (.ref a), l1, l2, l3] s h = rf d 228 14 [some (.ref a), l1, l2, l3] (.ref a :: s) h := rf_pure (i := .aload_n 0) (len := 1) (okD_ok (by decide +kernel)) rfl
theorem e228_14 (hR : LYR R) : rf d 228 14 ls (.ref 265 :: s) (SH n, I, L, R, nc, ns, nx) = rf d 228 17 ls (.ref 296 :: s) (SH n, I, L, R, nc, ns, nx) := g_R (idx := 106) (by decide +kernel) ow228 f_8_106 rfl rfl (by decide) (ly_265_46 hR)
theorem e228_17 : rf d 228 17 [l0, some (.int x), l2, l3] s h = rf d 228 18 [l0, some (.int x), l2, l3] (.int x :: s) h := rf_pure (i := .iload_n 1) (len := 1) (okD_ok (by decide +kernel)) rfl
theorem e228_18 (q : ia n a j) : rf d 228 18 ls (.int j :: .ref a :: s) (SH n, I, L, R, nc, ns, nx) = rf d 228 19 ls (.int (I a j.toNatClampNeg) :: s) (SH n, I, L, R, nc, ns, nx) := g_ial (by decide +kernel) q
theorem e228_19 : rf d 228 19 [l0, l1, some (.int x), l3] s h = rf d 228 20 [l0, l1, some (.int x), l3] (.int x :: s) h := rf_pure (i := .iload_n 2) (len := 1) (okD_ok (by decide +kernel)) rfl
theorem e228_20 (hcat : ip_cat s ≤ 8) : rf (d + 1) 228 20 ls (.int x1 :: .int x0 :: s) h = rf_k (d + 1) 228 20 ls s (cf d 186 [.int x0, .int x1] h) := g_cs (idx := 234) [.int x1, .int x0] (by decide +kernel) ow228 ms_8_234 mt_8_234 (by decide) rfl mL186 rfl hcat
theorem e228_23 : rf d 228 23 [l0, l1, l2, some (.int x)] s h = rf d 228 24 [l0, l1, l2, some (.int x)] (.int x :: s) h := rf_pure (i := .iload_n 3) (len := 1) (okD_ok (by decide +kernel)) rfl
theorem e228_24 : rf d 228 24 ls s h = rf d 228 25 ls (.int 1 :: s) h := rf_pure (i := .iconst (1)) (len := 1) (okD_ok (by decide +kernel)) rfl
theorem e228_25 : rf d 228 25 ls (.int y :: .int x :: s) h = if ¬ x = y then rf d 228 32 ls s h else rf d 228 28 ls s h := g_ic (c := .ne) (off := 7) _ (by decide +kernel) rfl cmp_d
theorem e228_28 : rf d 228 28 ls s h = rf d 228 29 ls (.int 1 :: s) h := rf_pure (i := .iconst (1)) (len := 1) (okD_ok (by decide +kernel)) rfl
theorem e228_29 : rf d 228 29 ls s h = rf d 228 33 ls s h := rf_goto ⟨okD_ok (i := .goto (4)) (len := 3) (by decide +kernel), rfl⟩
theorem e228_32 : rf d 228 32 ls s h = rf d 228 33 ls (.int 0 :: s) h := rf_pure (i := .iconst (0)) (len := 1) (okD_ok (by decide +kernel)) rfl
theorem e228_33 : rf d 228 33 ls (.int y :: .int x :: s) h = if ¬ x = y then rf d 228 40 ls s h else rf d 228 36 ls s h := g_ic (c := .ne) (off := 7) _ (by decide +kernel) rfl cmp_d
theorem e228_36 : rf d 228 36 ls s h = rf d 228 37 ls (.int 1 :: s) h := rf_pure (i := .iconst (1)) (len := 1) (okD_ok (by decide +kernel)) rfl
theorem e228_37 : rf d 228 37 ls s h = rf d 228 41 ls s h := rf_goto ⟨okD_ok (i := .goto (4)) (len := 3) (by decide +kernel), rfl⟩
theorem e228_40 : rf d 228 40 ls s h = rf d 228 41 ls (.int 0 :: s) h := rf_pure (i := .iconst (0)) (len := 1) (okD_ok (by decide +kernel)) rfl
theorem e228_41 (hx : x = 0 ∨ x = 1) : rf d 228 41 ls [.int x] h = some (.inl (some (.int x)), h) := g_rz (by decide +kernel) rt228 hx
theorem en229 : cf d 229 [.ref a, .int x0] h = rf d 229 0 [some (.ref a), some (.int x0), none] [] h := rfl
theorem e229_0 : rf d 229 0 [some (.ref a), l1, l2] s h = rf d 229 1 [some (.ref a), l1, l2] (.ref a :: s) h := rf_pure (i := .aload_n 0) (len := 1) (okD_ok (by decide +kernel)) rfl
theorem e229_1 : rf d 229 1 [some (.ref a), l1, l2] s h = rf d 229 2 [some (.ref a), l1, l2] (.ref a :: s) h := rf_pure (i := .aload_n 0) (len := 1) (okD_ok (by decide +kernel)) rfl
theorem e229_2 : rf d 229 2 [l0, some (.int x), l2] s h = rf d 229 3 [l0, some (.int x), l2] (.int x :: s) h := rf_pure (i := .iload_n 1) (len := 1) (okD_ok (by decide +kernel)) rfl
theorem e229_3 (hcat : ip_cat s ≤ 8) : rf (d + 1) 229 3 ls (.int x0 :: .ref 265 :: s) (SH n, I, L, R, nc, ns, nx) = rf_k (d + 1) 229 3 ls s (cf d 216 [.ref 265, .int x0] (SH n, I, L, R, nc, ns, nx)) := g_cv (idx := 319) (t := 8) [.int x0] (by decide +kernel) ow229 ms_8_319 mt_8_319 cy216_8 rfl rfl mL216 rfl rfl (by decide) hcat
theorem e229_6 : rf d 229 6 ls (.int x :: s) h = if ¬ x = 0 then rf d 229 13 ls s h else rf d 229 9 ls s h := g_if (c := .ne) (off := 7) _ (by decide +kernel) rfl cmp_d
theorem e229_9 : rf d 229 9 ls s h = rf d 229 10 ls (.int 1 :: s) h := rf_pure (i := .iconst (1)) (len := 1) (okD_ok (by decide +kernel)) rfl
theorem e229_10 : rf d 229 10 ls s h = rf d 229 46 ls s h := rf_goto ⟨okD_ok (i := .goto (36)) (len := 3) (by decide +kernel), rfl⟩
theorem e229_13 : rf d 229 13 [some (.ref a), l1, l2] s h = rf d 229 14 [some (.ref a), l1, l2] (.ref a :: s) h := rf_pure (i := .aload_n 0) (len := 1) (okD_ok (by decide +kernel)) rfl
theorem e229_14 (hR : LYR R) : rf d 229 14 ls (.ref 265 :: s) (SH n, I, L, R, nc, ns, nx) = rf d 229 17 ls (.ref 289 :: s) (SH n, I, L, R, nc, ns, nx) := g_R (idx := 85) (by decide +kernel) ow229 f_8_85 rfl rfl (by decide) (ly_265_39 hR)
theorem e229_17 : rf d 229 17 [some (.ref a), l1, l2] s h = rf d 229 18 [some (.ref a), l1, l2] (.ref a :: s) h := rf_pure (i := .aload_n 0) (len := 1) (okD_ok (by decide +kernel)) rfl
theorem e229_18 : rf d 229 18 ls (.ref 265 :: s) (SH n, I, L, R, nc, ns, nx) = rf d 229 21 ls (.int (I 265 38) :: s) (SH n, I, L, R, nc, ns, nx) := g_I (idx := 306) (by decide +kernel) ow229 f_8_306 rfl rfl (by decide)
theorem e229_21 (q : ia n a j) : rf d 229 21 ls (.int j :: .ref a :: s) (SH n, I, L, R, nc, ns, nx) = rf d 229 22 ls (.int (I a j.toNatClampNeg) :: s) (SH n, I, L, R, nc, ns, nx) := g_ial (by decide +kernel) q
theorem e229_22 : rf d 229 22 ls (.int x :: s) h = if ¬ x = 0 then rf d 229 41 ls s h else rf d 229 25 ls s h := g_if (c := .ne) (off := 19) _ (by decide +kernel) rfl cmp_d
theorem e229_25 : rf d 229 25 [some (.ref a), l1, l2] s h = rf d 229 26 [some (.ref a), l1, l2] (.ref a :: s) h := rf_pure (i := .aload_n 0) (len := 1) (okD_ok (by decide +kernel)) rfl
theorem e229_26 (hR : LYR R) : rf d 229 26 ls (.ref 265 :: s) (SH n, I, L, R, nc, ns, nx) = rf d 229 29 ls (.ref 294 :: s) (SH n, I, L, R, nc, ns, nx) := g_R (idx := 100) (by decide +kernel) ow229 f_8_100 rfl rfl (by decide) (ly_265_44 hR)
theorem e229_29 : rf d 229 29 [some (.ref a), l1, l2] s h = rf d 229 30 [some (.ref a), l1, l2] (.ref a :: s) h := rf_pure (i := .aload_n 0) (len := 1) (okD_ok (by decide +kernel)) rfl
theorem e229_30 : rf d 229 30 ls (.ref 265 :: s) (SH n, I, L, R, nc, ns, nx) = rf d 229 33 ls (.int (I 265 38) :: s) (SH n, I, L, R, nc, ns, nx) := g_I (idx := 306) (by decide +kernel) ow229 f_8_306 rfl rfl (by decide)
theorem e229_33 (q : ia n a j) : rf d 229 33 ls (.int j :: .ref a :: s) (SH n, I, L, R, nc, ns, nx) = rf d 229 34 ls (.int (I a j.toNatClampNeg) :: s) (SH n, I, L, R, nc, ns, nx) := g_ial (by decide +kernel) q
theorem e229_34 : rf d 229 34 [l0, some (.int x), l2] s h = rf d 229 35 [l0, some (.int x), l2] (.int x :: s) h := rf_pure (i := .iload_n 1) (len := 1) (okD_ok (by decide +kernel)) rfl
theorem e229_35 (hcat : ip_cat s ≤ 8) : rf (d + 1) 229 35 ls (.int x1 :: .int x0 :: s) h = rf_k (d + 1) 229 35 ls s (cf d 186 [.int x0, .int x1] h) := g_cs (idx := 234) [.int x1, .int x0] (by decide +kernel) ow229 ms_8_234 mt_8_234 (by decide) rfl mL186 rfl hcat
theorem e229_38 : rf d 229 38 ls (.int x :: s) h = if ¬ x = 0 then rf d 229 45 ls s h else rf d 229 41 ls s h := g_if (c := .ne) (off := 7) _ (by decide +kernel) rfl cmp_d
theorem e229_41 : rf d 229 41 ls s h = rf d 229 42 ls (.int 2 :: s) h := rf_pure (i := .iconst (2)) (len := 1) (okD_ok (by decide +kernel)) rfl
theorem e229_42 : rf d 229 42 ls s h = rf d 229 46 ls s h := rf_goto ⟨okD_ok (i := .goto (4)) (len := 3) (by decide +kernel), rfl⟩
theorem e229_45 : rf d 229 45 ls s h = rf d 229 46 ls (.int 0 :: s) h := rf_pure (i := .iconst (0)) (len := 1) (okD_ok (by decide +kernel)) rfl
theorem e229_46 : rf d 229 46 ls (.int x :: .ref 265 :: s) (SH n, I, L, R, nc, ns, nx) = rf d 229 49 ls s (SH n, ip_up I 265 0 x, L, R, nc, ns, nx) := g_pI (idx := 142) (by decide +kernel) ow229 f_8_142 rfl (by decide +kernel) rfl (by decide)
theorem e229_49 : rf d 229 49 [some (.ref a), l1, l2] s h = rf d 229 50 [some (.ref a), l1, l2] (.ref a :: s) h := rf_pure (i := .aload_n 0) (len := 1) (okD_ok (by decide +kernel)) rfl
theorem e229_50 : rf d 229 50 ls (.ref 265 :: s) (SH n, I, L, R, nc, ns, nx) = rf d 229 53 ls (.int (I 265 0) :: s) (SH n, I, L, R, nc, ns, nx) := g_I (idx := 142) (by decide +kernel) ow229 f_8_142 rfl rfl (by decide)
theorem e229_53 : rf d 229 53 ls (.int x :: s) h = if x ≤ 0 then rf d 229 58 ls s h else rf d 229 56 ls s h := g_if (c := .le) (off := 5) _ (by decide +kernel) rfl cmp_d
theorem e229_56 : rf d 229 56 ls s h = rf d 229 57 ls (.int 0 :: s) h := rf_pure (i := .iconst (0)) (len := 1) (okD_ok (by decide +kernel)) rfl
theorem e229_57 (hx : x = 0 ∨ x = 1) : rf d 229 57 ls [.int x] h = some (.inl (some (.int x)), h) := g_rz (by decide +kernel) rt229 hx
theorem e229_58 : rf d 229 58 [some (.ref a), l1, l2] s h = rf d 229 59 [some (.ref a), l1, l2] (.ref a :: s) h := rf_pure (i := .aload_n 0) (len := 1) (okD_ok (by decide +kernel)) rfl
theorem e229_59 (hR : LYR R) : rf d 229 59 ls (.ref 265 :: s) (SH n, I, L, R, nc, ns, nx) = rf d 229 62 ls (.ref 295 :: s) (SH n, I, L, R, nc, ns, nx) := g_R (idx := 103) (by decide +kernel) ow229 f_8_103 rfl rfl (by decide) (ly_265_45 hR)
theorem e229_62 : rf d 229 62 [some (.ref a), l1, l2] s h = rf d 229 63 [some (.ref a), l1, l2] (.ref a :: s) h := rf_pure (i := .aload_n 0) (len := 1) (okD_ok (by decide +kernel)) rfl
theorem e229_63 : rf d 229 63 ls (.ref 265 :: s) (SH n, I, L, R, nc, ns, nx) = rf d 229 66 ls (.int (I 265 38) :: s) (SH n, I, L, R, nc, ns, nx) := g_I (idx := 306) (by decide +kernel) ow229 f_8_306 rfl rfl (by decide)
theorem e229_66 (q : ia n a j) : rf d 229 66 ls (.int j :: .ref a :: s) (SH n, I, L, R, nc, ns, nx) = rf d 229 67 ls (.int (I a j.toNatClampNeg) :: s) (SH n, I, L, R, nc, ns, nx) := g_ial (by decide +kernel) q
theorem e229_67 : rf d 229 67 [l0, some (.int x), l2] s h = rf d 229 68 [l0, some (.int x), l2] (.int x :: s) h := rf_pure (i := .iload_n 1) (len := 1) (okD_ok (by decide +kernel)) rfl
theorem e229_68 (hcat : ip_cat s ≤ 8) : rf (d + 1) 229 68 ls (.int x1 :: .int x0 :: s) h = rf_k (d + 1) 229 68 ls s (cf d 186 [.int x0, .int x1] h) := g_cs (idx := 234) [.int x1, .int x0] (by decide +kernel) ow229 ms_8_234 mt_8_234 (by decide) rfl mL186 rfl hcat
theorem e229_71 : rf d 229 71 ls (.int x :: s) h = if ¬ x = 0 then rf d 229 78 ls s h else rf d 229 74 ls s h := g_if (c := .ne) (off := 7) _ (by decide +kernel) rfl cmp_d
theorem e229_74 : rf d 229 74 ls s h = rf d 229 75 ls (.int 1 :: s) h := rf_pure (i := .iconst (1)) (len := 1) (okD_ok (by decide +kernel)) rfl
theorem e229_75 : rf d 229 75 ls s h = rf d 229 79 ls s h := rf_goto ⟨okD_ok (i := .goto (4)) (len := 3) (by decide +kernel), rfl⟩
theorem e229_78 : rf d 229 78 ls s h = rf d 229 79 ls (.int 0 :: s) h := rf_pure (i := .iconst (0)) (len := 1) (okD_ok (by decide +kernel)) rfl
theorem e229_79 (hn : ip_nl l1 = true) : rf d 229 79 [l0, l1, l2] (.int x :: s) h = rf d 229 80 [l0, l1, some (.int x)] s h := g_sti (i := .istore_n 2) (len := 1) (q := 1) (p := 1) (by decide +kernel) rfl rfl hn
theorem e229_80 : rf d 229 80 [some (.ref a), l1, l2] s h = rf d 229 81 [some (.ref a), l1, l2] (.ref a :: s) h := rf_pure (i := .aload_n 0) (len := 1) (okD_ok (by decide +kernel)) rfl
theorem e229_81 (hR : LYR R) : rf d 229 81 ls (.ref 265 :: s) (SH n, I, L, R, nc, ns, nx) = rf d 229 84 ls (.ref 295 :: s) (SH n, I, L, R, nc, ns, nx) := g_R (idx := 103) (by decide +kernel) ow229 f_8_103 rfl rfl (by decide) (ly_265_45 hR)
theorem e229_84 : rf d 229 84 [some (.ref a), l1, l2] s h = rf d 229 85 [some (.ref a), l1, l2] (.ref a :: s) h := rf_pure (i := .aload_n 0) (len := 1) (okD_ok (by decide +kernel)) rfl
theorem e229_85 : rf d 229 85 ls (.ref 265 :: s) (SH n, I, L, R, nc, ns, nx) = rf d 229 88 ls (.int (I 265 38) :: s) (SH n, I, L, R, nc, ns, nx) := g_I (idx := 306) (by decide +kernel) ow229 f_8_306 rfl rfl (by decide)
theorem e229_88 : rf d 229 88 ls (.int j :: .ref a :: s) h = rf d 229 89 ls (.int j :: .ref a :: .int j :: .ref a :: s) h := rf_pure (i := .dup2) (len := 1) (okD_ok (by decide +kernel)) rfl
theorem e229_89 (q : ia n a j) : rf d 229 89 ls (.int j :: .ref a :: s) (SH n, I, L, R, nc, ns, nx) = rf d 229 90 ls (.int (I a j.toNatClampNeg) :: s) (SH n, I, L, R, nc, ns, nx) := g_ial (by decide +kernel) q
theorem e229_90 : rf d 229 90 ls s h = rf d 229 91 ls (.int 1 :: s) h := rf_pure (i := .iconst (1)) (len := 1) (okD_ok (by decide +kernel)) rfl
theorem e229_91 : rf d 229 91 [l0, some (.int x), l2] s h = rf d 229 92 [l0, some (.int x), l2] (.int x :: s) h := rf_pure (i := .iload_n 1) (len := 1) (okD_ok (by decide +kernel)) rfl
theorem e229_92 : rf d 229 92 ls (.int y :: .int x :: s) h = rf d 229 93 ls (.int (x <<< (y &&& 31)) :: s) h := rf_pure (i := .ishl) (len := 1) (okD_ok (by decide +kernel)) rfl
theorem e229_93 : rf d 229 93 ls (.int y :: .int x :: s) h = rf d 229 94 ls (.int (x ||| y) :: s) h := rf_pure (i := .ior) (len := 1) (okD_ok (by decide +kernel)) rfl
theorem e229_94 (q : ia n a j) : rf d 229 94 ls (.int x :: .int j :: .ref a :: s) (SH n, I, L, R, nc, ns, nx) = rf d 229 95 ls s (SH n, ip_up I a j.toNatClampNeg x, L, R, nc, ns, nx) := g_ias (by decide +kernel) q
theorem e229_95 : rf d 229 95 [l0, l1, some (.int x)] s h = rf d 229 96 [l0, l1, some (.int x)] (.int x :: s) h := rf_pure (i := .iload_n 2) (len := 1) (okD_ok (by decide +kernel)) rfl
theorem e229_96 (hx : x = 0 ∨ x = 1) : rf d 229 96 ls [.int x] h = some (.inl (some (.int x)), h) := g_rz (by decide +kernel) rt229 hx
theorem en230 : cf d 230 [.ref a, .int x0, .int x1] h = rf d 230 0 [some (.ref a), some (.int x0), some (.int x1), none, none, none, none] [] h := rfl
theorem e230_0 : rf d 230 0 [some (.ref a), l1, l2, l3, l4, l5, l6] s h = rf d 230 1 [some (.ref a), l1, l2, l3, l4, l5, l6] (.ref a :: s) h := rf_pure (i := .aload_n 0) (len := 1) (okD_ok (by decide +kernel)) rfl
theorem e230_1 : rf d 230 1 [some (.ref a), l1, l2, l3, l4, l5, l6] s h = rf d 230 2 [some (.ref a), l1, l2, l3, l4, l5, l6] (.ref a :: s) h := rf_pure (i := .aload_n 0) (len := 1) (okD_ok (by decide +kernel)) rfl
theorem e230_2 : rf d 230 2 [l0, some (.int x), l2, l3, l4, l5, l6] s h = rf d 230 3 [l0, some (.int x), l2, l3, l4, l5, l6] (.int x :: s) h := rf_pure (i := .iload_n 1) (len := 1) (okD_ok (by decide +kernel)) rfl
theorem e230_3 (hcat : ip_cat s ≤ 8) : rf (d + 1) 230 3 ls (.int x0 :: .ref 265 :: s) (SH n, I, L, R, nc, ns, nx) = rf_k (d + 1) 230 3 ls s (cf d 231 [.ref 265, .int x0] (SH n, I, L, R, nc, ns, nx)) := g_cv (idx := 386) (t := 8) [.int x0] (by decide +kernel) ow230 ms_8_386 mt_8_386 cy231_8 rfl rfl mL231 rfl rfl (by decide) hcat
theorem e230_6 : rf d 230 6 ls (.int x :: s) h = if x = 0 then rf d 230 17 ls s h else rf d 230 9 ls s h := g_if (c := .eq) (off := 11) _ (by decide +kernel) rfl cmp_d
theorem e230_9 : rf d 230 9 [some (.ref a), l1, l2, l3, l4, l5, l6] s h = rf d 230 10 [some (.ref a), l1, l2, l3, l4, l5, l6] (.ref a :: s) h := rf_pure (i := .aload_n 0) (len := 1) (okD_ok (by decide +kernel)) rfl
theorem e230_10 : rf d 230 10 [l0, l1, some (.int x), l3, l4, l5, l6] s h = rf d 230 11 [l0, l1, some (.int x), l3, l4, l5, l6] (.int x :: s) h := rf_pure (i := .iload_n 2) (len := 1) (okD_ok (by decide +kernel)) rfl
theorem e230_11 (hcat : ip_cat s ≤ 8) : rf (d + 1) 230 11 ls (.int x0 :: .ref 265 :: s) (SH n, I, L, R, nc, ns, nx) = rf_k (d + 1) 230 11 ls s (cf d 231 [.ref 265, .int x0] (SH n, I, L, R, nc, ns, nx)) := g_cv (idx := 386) (t := 8) [.int x0] (by decide +kernel) ow230 ms_8_386 mt_8_386 cy231_8 rfl rfl mL231 rfl rfl (by decide) hcat
theorem e230_14 : rf d 230 14 ls (.int x :: s) h = if ¬ x = 0 then rf d 230 21 ls s h else rf d 230 17 ls s h := g_if (c := .ne) (off := 7) _ (by decide +kernel) rfl cmp_d
theorem e230_17 : rf d 230 17 ls s h = rf d 230 18 ls (.int 1 :: s) h := rf_pure (i := .iconst (1)) (len := 1) (okD_ok (by decide +kernel)) rfl
theorem e230_18 : rf d 230 18 ls s h = rf d 230 42 ls s h := rf_goto ⟨okD_ok (i := .goto (24)) (len := 3) (by decide +kernel), rfl⟩
theorem e230_21 : rf d 230 21 [some (.ref a), l1, l2, l3, l4, l5, l6] s h = rf d 230 22 [some (.ref a), l1, l2, l3, l4, l5, l6] (.ref a :: s) h := rf_pure (i := .aload_n 0) (len := 1) (okD_ok (by decide +kernel)) rfl
theorem e230_22 (hcat : ip_cat s ≤ 8) : rf (d + 1) 230 22 ls (.ref 265 :: s) (SH n, I, L, R, nc, ns, nx) = rf_k (d + 1) 230 22 ls s (cf d 232 [.ref 265] (SH n, I, L, R, nc, ns, nx)) := g_cv (idx := 389) (t := 8) [] (by decide +kernel) ow230 ms_8_389 mt_8_389 cy232_8 rfl rfl mL232 rfl rfl (by decide) hcat
theorem e230_25 : rf d 230 25 ls (.int x :: s) h = if x = 0 then rf d 230 37 ls s h else rf d 230 28 ls s h := g_if (c := .eq) (off := 12) _ (by decide +kernel) rfl cmp_d
theorem e230_28 : rf d 230 28 [some (.ref a), l1, l2, l3, l4, l5, l6] s h = rf d 230 29 [some (.ref a), l1, l2, l3, l4, l5, l6] (.ref a :: s) h := rf_pure (i := .aload_n 0) (len := 1) (okD_ok (by decide +kernel)) rfl
theorem e230_29 : rf d 230 29 ls (.ref 265 :: s) (SH n, I, L, R, nc, ns, nx) = rf d 230 32 ls (.int (I 265 37) :: s) (SH n, I, L, R, nc, ns, nx) := g_I (idx := 303) (by decide +kernel) ow230 f_8_303 rfl rfl (by decide)
theorem e230_32 : rf d 230 32 ls s h = rf d 230 34 ls (.int 40 :: s) h := rf_pure (i := .bipush (40)) (len := 2) (okD_ok (by decide +kernel)) rfl
theorem e230_34 : rf d 230 34 ls (.int y :: .int x :: s) h = if ¬ x = y then rf d 230 41 ls s h else rf d 230 37 ls s h := g_ic (c := .ne) (off := 7) _ (by decide +kernel) rfl cmp_d
theorem e230_37 : rf d 230 37 ls s h = rf d 230 38 ls (.int 2 :: s) h := rf_pure (i := .iconst (2)) (len := 1) (okD_ok (by decide +kernel)) rfl
theorem e230_38 : rf d 230 38 ls s h = rf d 230 42 ls s h := rf_goto ⟨okD_ok (i := .goto (4)) (len := 3) (by decide +kernel), rfl⟩
theorem e230_41 : rf d 230 41 ls s h = rf d 230 42 ls (.int 0 :: s) h := rf_pure (i := .iconst (0)) (len := 1) (okD_ok (by decide +kernel)) rfl
theorem e230_42 : rf d 230 42 ls (.int x :: .ref 265 :: s) (SH n, I, L, R, nc, ns, nx) = rf d 230 45 ls s (SH n, ip_up I 265 0 x, L, R, nc, ns, nx) := g_pI (idx := 142) (by decide +kernel) ow230 f_8_142 rfl (by decide +kernel) rfl (by decide)
theorem e230_45 : rf d 230 45 [some (.ref a), l1, l2, l3, l4, l5, l6] s h = rf d 230 46 [some (.ref a), l1, l2, l3, l4, l5, l6] (.ref a :: s) h := rf_pure (i := .aload_n 0) (len := 1) (okD_ok (by decide +kernel)) rfl
theorem e230_46 : rf d 230 46 ls (.ref 265 :: s) (SH n, I, L, R, nc, ns, nx) = rf d 230 49 ls (.int (I 265 0) :: s) (SH n, I, L, R, nc, ns, nx) := g_I (idx := 142) (by decide +kernel) ow230 f_8_142 rfl rfl (by decide)
theorem e230_49 : rf d 230 49 ls (.int x :: s) h = if x ≤ 0 then rf d 230 54 ls s h else rf d 230 52 ls s h := g_if (c := .le) (off := 5) _ (by decide +kernel) rfl cmp_d
theorem e230_52 : rf d 230 52 ls s h = rf d 230 53 ls (.int 0 :: s) h := rf_pure (i := .iconst (0)) (len := 1) (okD_ok (by decide +kernel)) rfl
theorem e230_53 : rf d 230 53 ls [.int x] h = some (.inl (some (.int x)), h) := g_ri (by decide +kernel) rt230
theorem e230_54 : rf d 230 54 [some (.ref a), l1, l2, l3, l4, l5, l6] s h = rf d 230 55 [some (.ref a), l1, l2, l3, l4, l5, l6] (.ref a :: s) h := rf_pure (i := .aload_n 0) (len := 1) (okD_ok (by decide +kernel)) rfl
theorem e230_55 : rf d 230 55 [l0, some (.int x), l2, l3, l4, l5, l6] s h = rf d 230 56 [l0, some (.int x), l2, l3, l4, l5, l6] (.int x :: s) h := rf_pure (i := .iload_n 1) (len := 1) (okD_ok (by decide +kernel)) rfl
theorem e230_56 : rf d 230 56 [some (.ref a), l1, l2, l3, l4, l5, l6] s h = rf d 230 57 [some (.ref a), l1, l2, l3, l4, l5, l6] (.ref a :: s) h := rf_pure (i := .aload_n 0) (len := 1) (okD_ok (by decide +kernel)) rfl
theorem e230_57 : rf d 230 57 ls (.ref 265 :: s) (SH n, I, L, R, nc, ns, nx) = rf d 230 60 ls (.int (I 265 60) :: s) (SH n, I, L, R, nc, ns, nx) := g_I (idx := 368) (by decide +kernel) ow230 f_8_368 rfl rfl (by decide)
theorem e230_60 : rf d 230 60 ls (.int y :: .int x :: s) h = rf d 230 61 ls (.int (x &&& y) :: s) h := rf_pure (i := .iand) (len := 1) (okD_ok (by decide +kernel)) rfl
theorem e230_61 : rf d 230 61 [l0, l1, some (.int x), l3, l4, l5, l6] s h = rf d 230 62 [l0, l1, some (.int x), l3, l4, l5, l6] (.int x :: s) h := rf_pure (i := .iload_n 2) (len := 1) (okD_ok (by decide +kernel)) rfl
theorem e230_62 : rf d 230 62 [some (.ref a), l1, l2, l3, l4, l5, l6] s h = rf d 230 63 [some (.ref a), l1, l2, l3, l4, l5, l6] (.ref a :: s) h := rf_pure (i := .aload_n 0) (len := 1) (okD_ok (by decide +kernel)) rfl
theorem e230_63 : rf d 230 63 ls (.ref 265 :: s) (SH n, I, L, R, nc, ns, nx) = rf d 230 66 ls (.int (I 265 61) :: s) (SH n, I, L, R, nc, ns, nx) := g_I (idx := 371) (by decide +kernel) ow230 f_8_371 rfl rfl (by decide)
theorem e230_66 : rf d 230 66 ls (.int y :: .int x :: s) h = rf d 230 67 ls (.int (x &&& y) :: s) h := rf_pure (i := .iand) (len := 1) (okD_ok (by decide +kernel)) rfl
theorem e230_67 (hcat : ip_cat s ≤ 8) : rf (d + 1) 230 67 ls (.int x1 :: .int x0 :: .ref 265 :: s) (SH n, I, L, R, nc, ns, nx) = rf_k (d + 1) 230 67 ls s (cf d 237 [.ref 265, .int x0, .int x1] (SH n, I, L, R, nc, ns, nx)) := g_cv (idx := 392) (t := 8) [.int x1, .int x0] (by decide +kernel) ow230 ms_8_392 mt_8_392 cy237_8 rfl rfl mL237 rfl rfl (by decide) hcat
theorem e230_70 (hn : ip_nl l2 = true) : rf d 230 70 [l0, l1, l2, l3, l4, l5, l6] (.int x :: s) h = rf d 230 71 [l0, l1, l2, some (.int x), l4, l5, l6] s h := g_sti (i := .istore_n 3) (len := 1) (q := 2) (p := 1) (by decide +kernel) rfl rfl hn
theorem e230_71 : rf d 230 71 [some (.ref a), l1, l2, l3, l4, l5, l6] s h = rf d 230 72 [some (.ref a), l1, l2, l3, l4, l5, l6] (.ref a :: s) h := rf_pure (i := .aload_n 0) (len := 1) (okD_ok (by decide +kernel)) rfl
theorem e230_72 : rf d 230 72 ls (.ref 265 :: s) (SH n, I, L, R, nc, ns, nx) = rf d 230 75 ls (.int (I 265 37) :: s) (SH n, I, L, R, nc, ns, nx) := g_I (idx := 303) (by decide +kernel) ow230 f_8_303 rfl rfl (by decide)
theorem e230_75 (hn : ip_nl l3 = true) : rf d 230 75 [l0, l1, l2, l3, l4, l5, l6] (.int x :: s) h = rf d 230 77 [l0, l1, l2, l3, some (.int x), l5, l6] s h := g_sti (i := .istore 4) (len := 2) (q := 3) (p := 2) (by decide +kernel) rfl rfl hn
theorem e230_77 : rf d 230 77 [some (.ref a), l1, l2, l3, l4, l5, l6] s h = rf d 230 78 [some (.ref a), l1, l2, l3, l4, l5, l6] (.ref a :: s) h := rf_pure (i := .aload_n 0) (len := 1) (okD_ok (by decide +kernel)) rfl
theorem e230_78 : rf d 230 78 [l0, l1, l2, l3, some (.int x), l5, l6] s h = rf d 230 80 [l0, l1, l2, l3, some (.int x), l5, l6] (.int x :: s) h := rf_pure (i := .iload 4) (len := 2) (okD_ok (by decide +kernel)) rfl
theorem e230_80 : rf d 230 80 [some (.ref a), l1, l2, l3, l4, l5, l6] s h = rf d 230 81 [some (.ref a), l1, l2, l3, l4, l5, l6] (.ref a :: s) h := rf_pure (i := .aload_n 0) (len := 1) (okD_ok (by decide +kernel)) rfl
theorem e230_81 : rf d 230 81 ls (.ref 265 :: s) (SH n, I, L, R, nc, ns, nx) = rf d 230 84 ls (.int (I 265 58) :: s) (SH n, I, L, R, nc, ns, nx) := g_I (idx := 359) (by decide +kernel) ow230 f_8_359 rfl rfl (by decide)
theorem e230_84 (hcat : ip_cat s ≤ 8) : rf (d + 1) 230 84 ls (.int x1 :: .int x0 :: .ref 265 :: s) (SH n, I, L, R, nc, ns, nx) = rf_k (d + 1) 230 84 ls s (cf d 240 [.ref 265, .int x0, .int x1] (SH n, I, L, R, nc, ns, nx)) := g_cv (idx := 395) (t := 8) [.int x1, .int x0] (by decide +kernel) ow230 ms_8_395 mt_8_395 cy240_8 rfl rfl mL240 rfl rfl (by decide) hcat
theorem e230_87 : rf d 230 87 [some (.ref a), l1, l2, l3, l4, l5, l6] s h = rf d 230 88 [some (.ref a), l1, l2, l3, l4, l5, l6] (.ref a :: s) h := rf_pure (i := .aload_n 0) (len := 1) (okD_ok (by decide +kernel)) rfl
theorem e230_88 (hR : LYR R) : rf d 230 88 ls (.ref 265 :: s) (SH n, I, L, R, nc, ns, nx) = rf d 230 91 ls (.ref 291 :: s) (SH n, I, L, R, nc, ns, nx) := g_R (idx := 91) (by decide +kernel) ow230 f_8_91 rfl rfl (by decide) (ly_265_41 hR)
theorem e230_91 : rf d 230 91 [l0, l1, l2, l3, some (.int x), l5, l6] s h = rf d 230 93 [l0, l1, l2, l3, some (.int x), l5, l6] (.int x :: s) h := rf_pure (i := .iload 4) (len := 2) (okD_ok (by decide +kernel)) rfl
theorem e230_93 : rf d 230 93 [l0, l1, l2, some (.int x), l4, l5, l6] s h = rf d 230 94 [l0, l1, l2, some (.int x), l4, l5, l6] (.int x :: s) h := rf_pure (i := .iload_n 3) (len := 1) (okD_ok (by decide +kernel)) rfl
theorem e230_94 (q : ia n a j) : rf d 230 94 ls (.int x :: .int j :: .ref a :: s) (SH n, I, L, R, nc, ns, nx) = rf d 230 95 ls s (SH n, ip_up I a j.toNatClampNeg x, L, R, nc, ns, nx) := g_ias (by decide +kernel) q
theorem e230_95 : rf d 230 95 [some (.ref a), l1, l2, l3, l4, l5, l6] s h = rf d 230 96 [some (.ref a), l1, l2, l3, l4, l5, l6] (.ref a :: s) h := rf_pure (i := .aload_n 0) (len := 1) (okD_ok (by decide +kernel)) rfl
theorem e230_96 (hR : LYR R) : rf d 230 96 ls (.ref 265 :: s) (SH n, I, L, R, nc, ns, nx) = rf d 230 99 ls (.ref 297 :: s) (SH n, I, L, R, nc, ns, nx) := g_R (idx := 109) (by decide +kernel) ow230 f_8_109 rfl rfl (by decide) (ly_265_47 hR)
theorem e230_99 : rf d 230 99 [l0, l1, l2, l3, some (.int x), l5, l6] s h = rf d 230 101 [l0, l1, l2, l3, some (.int x), l5, l6] (.int x :: s) h := rf_pure (i := .iload 4) (len := 2) (okD_ok (by decide +kernel)) rfl
theorem e230_101 : rf d 230 101 [some (.ref a), l1, l2, l3, l4, l5, l6] s h = rf d 230 102 [some (.ref a), l1, l2, l3, l4, l5, l6] (.ref a :: s) h := rf_pure (i := .aload_n 0) (len := 1) (okD_ok (by decide +kernel)) rfl
theorem e230_102 : rf d 230 102 ls (.ref 265 :: s) (SH n, I, L, R, nc, ns, nx) = rf d 230 105 ls (.int (I 265 59) :: s) (SH n, I, L, R, nc, ns, nx) := g_I (idx := 362) (by decide +kernel) ow230 f_8_362 rfl rfl (by decide)
theorem e230_105 (q : ia n a j) : rf d 230 105 ls (.int x :: .int j :: .ref a :: s) (SH n, I, L, R, nc, ns, nx) = rf d 230 106 ls s (SH n, ip_up I a j.toNatClampNeg x, L, R, nc, ns, nx) := g_ias (by decide +kernel) q
theorem e230_106 : rf d 230 106 [some (.ref a), l1, l2, l3, l4, l5, l6] s h = rf d 230 107 [some (.ref a), l1, l2, l3, l4, l5, l6] (.ref a :: s) h := rf_pure (i := .aload_n 0) (len := 1) (okD_ok (by decide +kernel)) rfl
theorem e230_107 (hR : LYR R) : rf d 230 107 ls (.ref 265 :: s) (SH n, I, L, R, nc, ns, nx) = rf d 230 110 ls (.ref 300 :: s) (SH n, I, L, R, nc, ns, nx) := g_R (idx := 118) (by decide +kernel) ow230 f_8_118 rfl rfl (by decide) (ly_265_50 hR)
theorem e230_110 : rf d 230 110 ls s h = rf d 230 111 ls (.int 2 :: s) h := rf_pure (i := .iconst (2)) (len := 1) (okD_ok (by decide +kernel)) rfl
theorem e230_111 : rf d 230 111 [l0, l1, l2, l3, some (.int x), l5, l6] s h = rf d 230 113 [l0, l1, l2, l3, some (.int x), l5, l6] (.int x :: s) h := rf_pure (i := .iload 4) (len := 2) (okD_ok (by decide +kernel)) rfl
theorem e230_113 : rf d 230 113 ls (.int y :: .int x :: s) h = rf d 230 114 ls (.int (x * y) :: s) h := rf_pure (i := .imul) (len := 1) (okD_ok (by decide +kernel)) rfl
theorem e230_114 : rf d 230 114 [l0, some (.int x), l2, l3, l4, l5, l6] s h = rf d 230 115 [l0, some (.int x), l2, l3, l4, l5, l6] (.int x :: s) h := rf_pure (i := .iload_n 1) (len := 1) (okD_ok (by decide +kernel)) rfl
theorem e230_115 (q : ia n a j) : rf d 230 115 ls (.int x :: .int j :: .ref a :: s) (SH n, I, L, R, nc, ns, nx) = rf d 230 116 ls s (SH n, ip_up I a j.toNatClampNeg x, L, R, nc, ns, nx) := g_ias (by decide +kernel) q
theorem e230_116 : rf d 230 116 [some (.ref a), l1, l2, l3, l4, l5, l6] s h = rf d 230 117 [some (.ref a), l1, l2, l3, l4, l5, l6] (.ref a :: s) h := rf_pure (i := .aload_n 0) (len := 1) (okD_ok (by decide +kernel)) rfl
theorem e230_117 (hR : LYR R) : rf d 230 117 ls (.ref 265 :: s) (SH n, I, L, R, nc, ns, nx) = rf d 230 120 ls (.ref 300 :: s) (SH n, I, L, R, nc, ns, nx) := g_R (idx := 118) (by decide +kernel) ow230 f_8_118 rfl rfl (by decide) (ly_265_50 hR)
theorem e230_120 : rf d 230 120 ls s h = rf d 230 121 ls (.int 2 :: s) h := rf_pure (i := .iconst (2)) (len := 1) (okD_ok (by decide +kernel)) rfl
theorem e230_121 : rf d 230 121 [l0, l1, l2, l3, some (.int x), l5, l6] s h = rf d 230 123 [l0, l1, l2, l3, some (.int x), l5, l6] (.int x :: s) h := rf_pure (i := .iload 4) (len := 2) (okD_ok (by decide +kernel)) rfl
theorem e230_123 : rf d 230 123 ls (.int y :: .int x :: s) h = rf d 230 124 ls (.int (x * y) :: s) h := rf_pure (i := .imul) (len := 1) (okD_ok (by decide +kernel)) rfl
theorem e230_124 : rf d 230 124 ls s h = rf d 230 125 ls (.int 1 :: s) h := rf_pure (i := .iconst (1)) (len := 1) (okD_ok (by decide +kernel)) rfl
theorem e230_125 : rf d 230 125 ls (.int y :: .int x :: s) h = rf d 230 126 ls (.int (x + y) :: s) h := rf_pure (i := .iadd) (len := 1) (okD_ok (by decide +kernel)) rfl
theorem e230_126 : rf d 230 126 [l0, l1, some (.int x), l3, l4, l5, l6] s h = rf d 230 127 [l0, l1, some (.int x), l3, l4, l5, l6] (.int x :: s) h := rf_pure (i := .iload_n 2) (len := 1) (okD_ok (by decide +kernel)) rfl
theorem e230_127 (q : ia n a j) : rf d 230 127 ls (.int x :: .int j :: .ref a :: s) (SH n, I, L, R, nc, ns, nx) = rf d 230 128 ls s (SH n, ip_up I a j.toNatClampNeg x, L, R, nc, ns, nx) := g_ias (by decide +kernel) q
theorem e230_128 : rf d 230 128 [l0, l1, l2, some (.int x), l4, l5, l6] s h = rf d 230 129 [l0, l1, l2, some (.int x), l4, l5, l6] (.int x :: s) h := rf_pure (i := .iload_n 3) (len := 1) (okD_ok (by decide +kernel)) rfl
theorem e230_129 : rf d 230 129 ls s h = rf d 230 130 ls (.int 1 :: s) h := rf_pure (i := .iconst (1)) (len := 1) (okD_ok (by decide +kernel)) rfl
theorem e230_130 : rf d 230 130 ls (.int y :: .int x :: s) h = if x ≤ y then rf d 230 280 ls s h else rf d 230 133 ls s h := g_ic (c := .le) (off := 150) _ (by decide +kernel) rfl cmp_d
theorem e230_133 : rf d 230 133 ls s h = rf d 230 134 ls (.int 0 :: s) h := rf_pure (i := .iconst (0)) (len := 1) (okD_ok (by decide +kernel)) rfl
theorem e230_134 (hn : ip_nl l4 = true) : rf d 230 134 [l0, l1, l2, l3, l4, l5, l6] (.int x :: s) h = rf d 230 136 [l0, l1, l2, l3, l4, some (.int x), l6] s h := g_sti (i := .istore 5) (len := 2) (q := 4) (p := 2) (by decide +kernel) rfl rfl hn
theorem e230_136 : rf d 230 136 [l0, l1, l2, l3, l4, some (.int x), l6] s h = rf d 230 138 [l0, l1, l2, l3, l4, some (.int x), l6] (.int x :: s) h := rf_pure (i := .iload 5) (len := 2) (okD_ok (by decide +kernel)) rfl
theorem e230_138 : rf d 230 138 [some (.ref a), l1, l2, l3, l4, l5, l6] s h = rf d 230 139 [some (.ref a), l1, l2, l3, l4, l5, l6] (.ref a :: s) h := rf_pure (i := .aload_n 0) (len := 1) (okD_ok (by decide +kernel)) rfl
theorem e230_139 : rf d 230 139 ls (.ref 265 :: s) (SH n, I, L, R, nc, ns, nx) = rf d 230 142 ls (.int (I 265 17) :: s) (SH n, I, L, R, nc, ns, nx) := g_I (idx := 291) (by decide +kernel) ow230 f_8_291 rfl rfl (by decide)
theorem e230_142 : rf d 230 142 ls (.int y :: .int x :: s) h = if y ≤ x then rf d 230 247 ls s h else rf d 230 145 ls s h := g_ic (c := .ge) (off := 105) _ (by decide +kernel) rfl cmp_d
theorem e230_145 : rf d 230 145 [some (.ref a), l1, l2, l3, l4, l5, l6] s h = rf d 230 146 [some (.ref a), l1, l2, l3, l4, l5, l6] (.ref a :: s) h := rf_pure (i := .aload_n 0) (len := 1) (okD_ok (by decide +kernel)) rfl
theorem e230_146 : rf d 230 146 ls (.ref 265 :: s) (SH n, I, L, R, nc, ns, nx) = rf d 230 149 ls (.int (I 265 55) :: s) (SH n, I, L, R, nc, ns, nx) := g_I (idx := 347) (by decide +kernel) ow230 f_8_347 rfl rfl (by decide)
theorem e230_149 : rf d 230 149 [l0, l1, l2, l3, l4, some (.int x), l6] s h = rf d 230 151 [l0, l1, l2, l3, l4, some (.int x), l6] (.int x :: s) h := rf_pure (i := .iload 5) (len := 2) (okD_ok (by decide +kernel)) rfl
theorem e230_151 (hcat : ip_cat s ≤ 8) : rf (d + 1) 230 151 ls (.int x1 :: .int x0 :: s) h = rf_k (d + 1) 230 151 ls s (cf d 186 [.int x0, .int x1] h) := g_cs (idx := 234) [.int x1, .int x0] (by decide +kernel) ow230 ms_8_234 mt_8_234 (by decide) rfl mL186 rfl hcat
theorem e230_154 : rf d 230 154 ls (.int x :: s) h = if x = 0 then rf d 230 165 ls s h else rf d 230 157 ls s h := g_if (c := .eq) (off := 11) _ (by decide +kernel) rfl cmp_d
theorem e230_157 : rf d 230 157 [some (.ref a), l1, l2, l3, l4, l5, l6] s h = rf d 230 158 [some (.ref a), l1, l2, l3, l4, l5, l6] (.ref a :: s) h := rf_pure (i := .aload_n 0) (len := 1) (okD_ok (by decide +kernel)) rfl
theorem e230_158 : rf d 230 158 [l0, l1, l2, l3, some (.int x), l5, l6] s h = rf d 230 160 [l0, l1, l2, l3, some (.int x), l5, l6] (.int x :: s) h := rf_pure (i := .iload 4) (len := 2) (okD_ok (by decide +kernel)) rfl
theorem e230_160 : rf d 230 160 [l0, l1, l2, l3, l4, some (.int x), l6] s h = rf d 230 162 [l0, l1, l2, l3, l4, some (.int x), l6] (.int x :: s) h := rf_pure (i := .iload 5) (len := 2) (okD_ok (by decide +kernel)) rfl
theorem e230_162 (hcat : ip_cat s ≤ 8) : rf (d + 1) 230 162 ls (.int x1 :: .int x0 :: .ref 265 :: s) (SH n, I, L, R, nc, ns, nx) = rf_k (d + 1) 230 162 ls s (cf d 188 [.ref 265, .int x0, .int x1] (SH n, I, L, R, nc, ns, nx)) := g_cv (idx := 312) (t := 8) [.int x1, .int x0] (by decide +kernel) ow230 ms_8_312 mt_8_312 cy188_8 rfl rfl mL188 rfl rfl (by decide) hcat
theorem e230_165 : rf d 230 165 [some (.ref a), l1, l2, l3, l4, l5, l6] s h = rf d 230 166 [some (.ref a), l1, l2, l3, l4, l5, l6] (.ref a :: s) h := rf_pure (i := .aload_n 0) (len := 1) (okD_ok (by decide +kernel)) rfl
theorem e230_166 : rf d 230 166 ls (.ref 265 :: s) (SH n, I, L, R, nc, ns, nx) = rf d 230 169 ls (.int (I 265 56) :: s) (SH n, I, L, R, nc, ns, nx) := g_I (idx := 350) (by decide +kernel) ow230 f_8_350 rfl rfl (by decide)
theorem e230_169 : rf d 230 169 [l0, l1, l2, l3, l4, some (.int x), l6] s h = rf d 230 171 [l0, l1, l2, l3, l4, some (.int x), l6] (.int x :: s) h := rf_pure (i := .iload 5) (len := 2) (okD_ok (by decide +kernel)) rfl
theorem e230_171 (hcat : ip_cat s ≤ 8) : rf (d + 1) 230 171 ls (.int x1 :: .int x0 :: s) h = rf_k (d + 1) 230 171 ls s (cf d 186 [.int x0, .int x1] h) := g_cs (idx := 234) [.int x1, .int x0] (by decide +kernel) ow230 ms_8_234 mt_8_234 (by decide) rfl mL186 rfl hcat
theorem e230_174 : rf d 230 174 ls (.int x :: s) h = if ¬ x = 0 then rf d 230 180 ls s h else rf d 230 177 ls s h := g_if (c := .ne) (off := 6) _ (by decide +kernel) rfl cmp_d
theorem e230_177 : rf d 230 177 ls s h = rf d 230 241 ls s h := rf_goto ⟨okD_ok (i := .goto (64)) (len := 3) (by decide +kernel), rfl⟩
theorem e230_180 : rf d 230 180 [some (.ref a), l1, l2, l3, l4, l5, l6] s h = rf d 230 181 [some (.ref a), l1, l2, l3, l4, l5, l6] (.ref a :: s) h := rf_pure (i := .aload_n 0) (len := 1) (okD_ok (by decide +kernel)) rfl
theorem e230_181 (hR : LYR R) : rf d 230 181 ls (.ref 265 :: s) (SH n, I, L, R, nc, ns, nx) = rf d 230 184 ls (.ref 302 :: s) (SH n, I, L, R, nc, ns, nx) := g_R (idx := 124) (by decide +kernel) ow230 f_8_124 rfl rfl (by decide) (ly_265_52 hR)
theorem e230_184 : rf d 230 184 ls s h = rf d 230 186 ls (.int 8 :: s) h := rf_pure (i := .bipush (8)) (len := 2) (okD_ok (by decide +kernel)) rfl
theorem e230_186 : rf d 230 186 [l0, l1, l2, l3, some (.int x), l5, l6] s h = rf d 230 188 [l0, l1, l2, l3, some (.int x), l5, l6] (.int x :: s) h := rf_pure (i := .iload 4) (len := 2) (okD_ok (by decide +kernel)) rfl
theorem e230_188 : rf d 230 188 ls (.int y :: .int x :: s) h = rf d 230 189 ls (.int (x * y) :: s) h := rf_pure (i := .imul) (len := 1) (okD_ok (by decide +kernel)) rfl
theorem e230_189 : rf d 230 189 [l0, l1, l2, l3, l4, some (.int x), l6] s h = rf d 230 191 [l0, l1, l2, l3, l4, some (.int x), l6] (.int x :: s) h := rf_pure (i := .iload 5) (len := 2) (okD_ok (by decide +kernel)) rfl
theorem e230_191 : rf d 230 191 ls (.int y :: .int x :: s) h = rf d 230 192 ls (.int (x + y) :: s) h := rf_pure (i := .iadd) (len := 1) (okD_ok (by decide +kernel)) rfl
theorem e230_192 : rf d 230 192 ls s h = rf d 230 194 ls (.int 9 :: s) h := rf_pure (i := .bipush (9)) (len := 2) (okD_ok (by decide +kernel)) rfl
theorem e230_194 : rf d 230 194 [some (.ref a), l1, l2, l3, l4, l5, l6] s h = rf d 230 195 [some (.ref a), l1, l2, l3, l4, l5, l6] (.ref a :: s) h := rf_pure (i := .aload_n 0) (len := 1) (okD_ok (by decide +kernel)) rfl
theorem e230_195 (hR : LYR R) : rf d 230 195 ls (.ref 265 :: s) (SH n, I, L, R, nc, ns, nx) = rf d 230 198 ls (.ref 302 :: s) (SH n, I, L, R, nc, ns, nx) := g_R (idx := 124) (by decide +kernel) ow230 f_8_124 rfl rfl (by decide) (ly_265_52 hR)
theorem e230_198 : rf d 230 198 ls s h = rf d 230 200 ls (.int 8 :: s) h := rf_pure (i := .bipush (8)) (len := 2) (okD_ok (by decide +kernel)) rfl
theorem e230_200 : rf d 230 200 [l0, l1, l2, l3, some (.int x), l5, l6] s h = rf d 230 202 [l0, l1, l2, l3, some (.int x), l5, l6] (.int x :: s) h := rf_pure (i := .iload 4) (len := 2) (okD_ok (by decide +kernel)) rfl
theorem e230_202 : rf d 230 202 ls (.int y :: .int x :: s) h = rf d 230 203 ls (.int (x * y) :: s) h := rf_pure (i := .imul) (len := 1) (okD_ok (by decide +kernel)) rfl
theorem e230_203 : rf d 230 203 [l0, l1, l2, l3, l4, some (.int x), l6] s h = rf d 230 205 [l0, l1, l2, l3, l4, some (.int x), l6] (.int x :: s) h := rf_pure (i := .iload 5) (len := 2) (okD_ok (by decide +kernel)) rfl
theorem e230_205 : rf d 230 205 ls (.int y :: .int x :: s) h = rf d 230 206 ls (.int (x + y) :: s) h := rf_pure (i := .iadd) (len := 1) (okD_ok (by decide +kernel)) rfl
theorem e230_206 (q : ia n a j) : rf d 230 206 ls (.int j :: .ref a :: s) (SH n, I, L, R, nc, ns, nx) = rf d 230 207 ls (.int (I a j.toNatClampNeg) :: s) (SH n, I, L, R, nc, ns, nx) := g_ial (by decide +kernel) q
theorem e230_207 : rf d 230 207 ls (.int y :: .int x :: s) h = rf d 230 208 ls (.int (x - y) :: s) h := rf_pure (i := .isub) (len := 1) (okD_ok (by decide +kernel)) rfl
theorem e230_208 (q : ia n a j) : rf d 230 208 ls (.int x :: .int j :: .ref a :: s) (SH n, I, L, R, nc, ns, nx) = rf d 230 209 ls s (SH n, ip_up I a j.toNatClampNeg x, L, R, nc, ns, nx) := g_ias (by decide +kernel) q
theorem e230_209 : rf d 230 209 [some (.ref a), l1, l2, l3, l4, l5, l6] s h = rf d 230 210 [some (.ref a), l1, l2, l3, l4, l5, l6] (.ref a :: s) h := rf_pure (i := .aload_n 0) (len := 1) (okD_ok (by decide +kernel)) rfl
theorem e230_210 (hR : LYR R) : rf d 230 210 ls (.ref 265 :: s) (SH n, I, L, R, nc, ns, nx) = rf d 230 213 ls (.ref 303 :: s) (SH n, I, L, R, nc, ns, nx) := g_R (idx := 127) (by decide +kernel) ow230 f_8_127 rfl rfl (by decide) (ly_265_53 hR)
theorem e230_213 : rf d 230 213 ls s h = rf d 230 215 ls (.int 8 :: s) h := rf_pure (i := .bipush (8)) (len := 2) (okD_ok (by decide +kernel)) rfl
theorem e230_215 : rf d 230 215 [l0, l1, l2, l3, some (.int x), l5, l6] s h = rf d 230 217 [l0, l1, l2, l3, some (.int x), l5, l6] (.int x :: s) h := rf_pure (i := .iload 4) (len := 2) (okD_ok (by decide +kernel)) rfl
theorem e230_217 : rf d 230 217 ls (.int y :: .int x :: s) h = rf d 230 218 ls (.int (x * y) :: s) h := rf_pure (i := .imul) (len := 1) (okD_ok (by decide +kernel)) rfl
theorem e230_218 : rf d 230 218 [l0, l1, l2, l3, l4, some (.int x), l6] s h = rf d 230 220 [l0, l1, l2, l3, l4, some (.int x), l6] (.int x :: s) h := rf_pure (i := .iload 5) (len := 2) (okD_ok (by decide +kernel)) rfl
theorem e230_220 : rf d 230 220 ls (.int y :: .int x :: s) h = rf d 230 221 ls (.int (x + y) :: s) h := rf_pure (i := .iadd) (len := 1) (okD_ok (by decide +kernel)) rfl
theorem e230_221 : rf d 230 221 [some (.ref a), l1, l2, l3, l4, l5, l6] s h = rf d 230 222 [some (.ref a), l1, l2, l3, l4, l5, l6] (.ref a :: s) h := rf_pure (i := .aload_n 0) (len := 1) (okD_ok (by decide +kernel)) rfl
theorem e230_222 : rf d 230 222 ls (.ref 265 :: s) (SH n, I, L, R, nc, ns, nx) = rf d 230 225 ls (.int (I 265 58) :: s) (SH n, I, L, R, nc, ns, nx) := g_I (idx := 359) (by decide +kernel) ow230 f_8_359 rfl rfl (by decide)
theorem e230_225 (q : ia n a j) : rf d 230 225 ls (.int x :: .int j :: .ref a :: s) (SH n, I, L, R, nc, ns, nx) = rf d 230 226 ls s (SH n, ip_up I a j.toNatClampNeg x, L, R, nc, ns, nx) := g_ias (by decide +kernel) q
theorem e230_226 : rf d 230 226 [some (.ref a), l1, l2, l3, l4, l5, l6] s h = rf d 230 227 [some (.ref a), l1, l2, l3, l4, l5, l6] (.ref a :: s) h := rf_pure (i := .aload_n 0) (len := 1) (okD_ok (by decide +kernel)) rfl
theorem e230_227 (hR : LYR R) : rf d 230 227 ls (.ref 265 :: s) (SH n, I, L, R, nc, ns, nx) = rf d 230 230 ls (.ref 304 :: s) (SH n, I, L, R, nc, ns, nx) := g_R (idx := 130) (by decide +kernel) ow230 f_8_130 rfl rfl (by decide) (ly_265_54 hR)
theorem e230_230 : rf d 230 230 ls s h = rf d 230 232 ls (.int 8 :: s) h := rf_pure (i := .bipush (8)) (len := 2) (okD_ok (by decide +kernel)) rfl
theorem e230_232 : rf d 230 232 [l0, l1, l2, l3, some (.int x), l5, l6] s h = rf d 230 234 [l0, l1, l2, l3, some (.int x), l5, l6] (.int x :: s) h := rf_pure (i := .iload 4) (len := 2) (okD_ok (by decide +kernel)) rfl
theorem e230_234 : rf d 230 234 ls (.int y :: .int x :: s) h = rf d 230 235 ls (.int (x * y) :: s) h := rf_pure (i := .imul) (len := 1) (okD_ok (by decide +kernel)) rfl
theorem e230_235 : rf d 230 235 [l0, l1, l2, l3, l4, some (.int x), l6] s h = rf d 230 237 [l0, l1, l2, l3, l4, some (.int x), l6] (.int x :: s) h := rf_pure (i := .iload 5) (len := 2) (okD_ok (by decide +kernel)) rfl
theorem e230_237 : rf d 230 237 ls (.int y :: .int x :: s) h = rf d 230 238 ls (.int (x + y) :: s) h := rf_pure (i := .iadd) (len := 1) (okD_ok (by decide +kernel)) rfl
theorem e230_238 : rf d 230 238 [l0, l1, l2, l3, some (.int x), l5, l6] s h = rf d 230 240 [l0, l1, l2, l3, some (.int x), l5, l6] (.int x :: s) h := rf_pure (i := .iload 4) (len := 2) (okD_ok (by decide +kernel)) rfl
theorem e230_240 (q : ia n a j) : rf d 230 240 ls (.int x :: .int j :: .ref a :: s) (SH n, I, L, R, nc, ns, nx) = rf d 230 241 ls s (SH n, ip_up I a j.toNatClampNeg x, L, R, nc, ns, nx) := g_ias (by decide +kernel) q
theorem e230_241 (hn : ip_nl l4 = true) : rf d 230 241 [l0, l1, l2, l3, l4, some (.int x), l6] s h = rf d 230 244 [l0, l1, l2, l3, l4, some (.int (x + 1)), l6] s h := g_inc (q := 4) (z := 1) (w := 1) (x := x) (by decide) (by decide +kernel) rfl rfl hn
theorem e230_244 : rf d 230 244 ls s h = rf d 230 136 ls s h := rf_goto ⟨okD_ok (i := .goto (-108)) (len := 3) (by decide +kernel), rfl⟩
theorem e230_247 : rf d 230 247 [some (.ref a), l1, l2, l3, l4, l5, l6] s h = rf d 230 248 [some (.ref a), l1, l2, l3, l4, l5, l6] (.ref a :: s) h := rf_pure (i := .aload_n 0) (len := 1) (okD_ok (by decide +kernel)) rfl
theorem e230_248 (hR : LYR R) : rf d 230 248 ls (.ref 265 :: s) (SH n, I, L, R, nc, ns, nx) = rf d 230 251 ls (.ref 293 :: s) (SH n, I, L, R, nc, ns, nx) := g_R (idx := 97) (by decide +kernel) ow230 f_8_97 rfl rfl (by decide) (ly_265_43 hR)
theorem e230_251 : rf d 230 251 [l0, l1, l2, l3, some (.int x), l5, l6] s h = rf d 230 253 [l0, l1, l2, l3, some (.int x), l5, l6] (.int x :: s) h := rf_pure (i := .iload 4) (len := 2) (okD_ok (by decide +kernel)) rfl
theorem e230_253 : rf d 230 253 [some (.ref a), l1, l2, l3, l4, l5, l6] s h = rf d 230 254 [some (.ref a), l1, l2, l3, l4, l5, l6] (.ref a :: s) h := rf_pure (i := .aload_n 0) (len := 1) (okD_ok (by decide +kernel)) rfl
theorem e230_254 : rf d 230 254 ls (.ref 265 :: s) (SH n, I, L, R, nc, ns, nx) = rf d 230 257 ls (.int (I 265 55) :: s) (SH n, I, L, R, nc, ns, nx) := g_I (idx := 347) (by decide +kernel) ow230 f_8_347 rfl rfl (by decide)
theorem e230_257 (q : ia n a j) : rf d 230 257 ls (.int x :: .int j :: .ref a :: s) (SH n, I, L, R, nc, ns, nx) = rf d 230 258 ls s (SH n, ip_up I a j.toNatClampNeg x, L, R, nc, ns, nx) := g_ias (by decide +kernel) q
theorem e230_258 : rf d 230 258 [some (.ref a), l1, l2, l3, l4, l5, l6] s h = rf d 230 259 [some (.ref a), l1, l2, l3, l4, l5, l6] (.ref a :: s) h := rf_pure (i := .aload_n 0) (len := 1) (okD_ok (by decide +kernel)) rfl
theorem e230_259 (hR : LYR R) : rf d 230 259 ls (.ref 265 :: s) (SH n, I, L, R, nc, ns, nx) = rf d 230 262 ls (.ref 296 :: s) (SH n, I, L, R, nc, ns, nx) := g_R (idx := 106) (by decide +kernel) ow230 f_8_106 rfl rfl (by decide) (ly_265_46 hR)
theorem e230_262 : rf d 230 262 [l0, l1, l2, l3, some (.int x), l5, l6] s h = rf d 230 264 [l0, l1, l2, l3, some (.int x), l5, l6] (.int x :: s) h := rf_pure (i := .iload 4) (len := 2) (okD_ok (by decide +kernel)) rfl
theorem e230_264 : rf d 230 264 [some (.ref a), l1, l2, l3, l4, l5, l6] s h = rf d 230 265 [some (.ref a), l1, l2, l3, l4, l5, l6] (.ref a :: s) h := rf_pure (i := .aload_n 0) (len := 1) (okD_ok (by decide +kernel)) rfl
theorem e230_265 : rf d 230 265 ls (.ref 265 :: s) (SH n, I, L, R, nc, ns, nx) = rf d 230 268 ls (.int (I 265 57) :: s) (SH n, I, L, R, nc, ns, nx) := g_I (idx := 353) (by decide +kernel) ow230 f_8_353 rfl rfl (by decide)
theorem e230_268 (q : ia n a j) : rf d 230 268 ls (.int x :: .int j :: .ref a :: s) (SH n, I, L, R, nc, ns, nx) = rf d 230 269 ls s (SH n, ip_up I a j.toNatClampNeg x, L, R, nc, ns, nx) := g_ias (by decide +kernel) q
theorem e230_269 : rf d 230 269 [some (.ref a), l1, l2, l3, l4, l5, l6] s h = rf d 230 270 [some (.ref a), l1, l2, l3, l4, l5, l6] (.ref a :: s) h := rf_pure (i := .aload_n 0) (len := 1) (okD_ok (by decide +kernel)) rfl
theorem e230_270 (hR : LYR R) : rf d 230 270 ls (.ref 265 :: s) (SH n, I, L, R, nc, ns, nx) = rf d 230 273 ls (.ref 298 :: s) (SH n, I, L, R, nc, ns, nx) := g_R (idx := 112) (by decide +kernel) ow230 f_8_112 rfl rfl (by decide) (ly_265_48 hR)
theorem e230_273 : rf d 230 273 [l0, l1, l2, l3, some (.int x), l5, l6] s h = rf d 230 275 [l0, l1, l2, l3, some (.int x), l5, l6] (.int x :: s) h := rf_pure (i := .iload 4) (len := 2) (okD_ok (by decide +kernel)) rfl
theorem e230_275 : rf d 230 275 [some (.ref a), l1, l2, l3, l4, l5, l6] s h = rf d 230 276 [some (.ref a), l1, l2, l3, l4, l5, l6] (.ref a :: s) h := rf_pure (i := .aload_n 0) (len := 1) (okD_ok (by decide +kernel)) rfl
theorem e230_276 : rf d 230 276 ls (.ref 265 :: s) (SH n, I, L, R, nc, ns, nx) = rf d 230 279 ls (.int (I 265 56) :: s) (SH n, I, L, R, nc, ns, nx) := g_I (idx := 350) (by decide +kernel) ow230 f_8_350 rfl rfl (by decide)
theorem e230_279 (q : ia n a j) : rf d 230 279 ls (.int x :: .int j :: .ref a :: s) (SH n, I, L, R, nc, ns, nx) = rf d 230 280 ls s (SH n, ip_up I a j.toNatClampNeg x, L, R, nc, ns, nx) := g_ias (by decide +kernel) q
theorem e230_280 : rf d 230 280 [some (.ref a), l1, l2, l3, l4, l5, l6] s h = rf d 230 281 [some (.ref a), l1, l2, l3, l4, l5, l6] (.ref a :: s) h := rf_pure (i := .aload_n 0) (len := 1) (okD_ok (by decide +kernel)) rfl
theorem e230_281 (hR : LYR R) : rf d 230 281 ls (.ref 265 :: s) (SH n, I, L, R, nc, ns, nx) = rf d 230 284 ls (.ref 294 :: s) (SH n, I, L, R, nc, ns, nx) := g_R (idx := 100) (by decide +kernel) ow230 f_8_100 rfl rfl (by decide) (ly_265_44 hR)
theorem e230_284 : rf d 230 284 [some (.ref a), l1, l2, l3, l4, l5, l6] s h = rf d 230 285 [some (.ref a), l1, l2, l3, l4, l5, l6] (.ref a :: s) h := rf_pure (i := .aload_n 0) (len := 1) (okD_ok (by decide +kernel)) rfl
theorem e230_285 : rf d 230 285 ls (.ref 265 :: s) (SH n, I, L, R, nc, ns, nx) = rf d 230 288 ls (.int (I 265 38) :: s) (SH n, I, L, R, nc, ns, nx) := g_I (idx := 306) (by decide +kernel) ow230 f_8_306 rfl rfl (by decide)
theorem e230_288 (q : ia n a j) : rf d 230 288 ls (.int j :: .ref a :: s) (SH n, I, L, R, nc, ns, nx) = rf d 230 289 ls (.int (I a j.toNatClampNeg) :: s) (SH n, I, L, R, nc, ns, nx) := g_ial (by decide +kernel) q
theorem e230_289 : rf d 230 289 [some (.ref a), l1, l2, l3, l4, l5, l6] s h = rf d 230 290 [some (.ref a), l1, l2, l3, l4, l5, l6] (.ref a :: s) h := rf_pure (i := .aload_n 0) (len := 1) (okD_ok (by decide +kernel)) rfl
theorem e230_290 : rf d 230 290 ls (.ref 265 :: s) (SH n, I, L, R, nc, ns, nx) = rf d 230 293 ls (.int (I 265 62) :: s) (SH n, I, L, R, nc, ns, nx) := g_I (idx := 374) (by decide +kernel) ow230 f_8_374 rfl rfl (by decide)
theorem e230_293 : rf d 230 293 ls (.int y :: .int x :: s) h = rf d 230 294 ls (.int (x ||| y) :: s) h := rf_pure (i := .ior) (len := 1) (okD_ok (by decide +kernel)) rfl
theorem e230_294 : rf d 230 294 [some (.ref a), l1, l2, l3, l4, l5, l6] s h = rf d 230 295 [some (.ref a), l1, l2, l3, l4, l5, l6] (.ref a :: s) h := rf_pure (i := .aload_n 0) (len := 1) (okD_ok (by decide +kernel)) rfl
theorem e230_295 : rf d 230 295 ls (.ref 265 :: s) (SH n, I, L, R, nc, ns, nx) = rf d 230 298 ls (.int (I 265 58) :: s) (SH n, I, L, R, nc, ns, nx) := g_I (idx := 359) (by decide +kernel) ow230 f_8_359 rfl rfl (by decide)
theorem e230_298 : rf d 230 298 ls s h = rf d 230 299 ls (.int 1 :: s) h := rf_pure (i := .iconst (1)) (len := 1) (okD_ok (by decide +kernel)) rfl
theorem e230_299 : rf d 230 299 ls (.int y :: .int x :: s) h = if ¬ x = y then rf d 230 313 ls s h else rf d 230 302 ls s h := g_ic (c := .ne) (off := 14) _ (by decide +kernel) rfl cmp_d
theorem e230_302 : rf d 230 302 [some (.ref a), l1, l2, l3, l4, l5, l6] s h = rf d 230 303 [some (.ref a), l1, l2, l3, l4, l5, l6] (.ref a :: s) h := rf_pure (i := .aload_n 0) (len := 1) (okD_ok (by decide +kernel)) rfl
theorem e230_303 : rf d 230 303 [some (.ref a), l1, l2, l3, l4, l5, l6] s h = rf d 230 304 [some (.ref a), l1, l2, l3, l4, l5, l6] (.ref a :: s) h := rf_pure (i := .aload_n 0) (len := 1) (okD_ok (by decide +kernel)) rfl
theorem e230_304 : rf d 230 304 ls (.ref 265 :: s) (SH n, I, L, R, nc, ns, nx) = rf d 230 307 ls (.int (I 265 59) :: s) (SH n, I, L, R, nc, ns, nx) := g_I (idx := 362) (by decide +kernel) ow230 f_8_362 rfl rfl (by decide)
theorem e230_307 (hcat : ip_cat s ≤ 8) : rf (d + 1) 230 307 ls (.int x0 :: .ref 265 :: s) (SH n, I, L, R, nc, ns, nx) = rf_k (d + 1) 230 307 ls s (cf d 241 [.ref 265, .int x0] (SH n, I, L, R, nc, ns, nx)) := g_cv (idx := 398) (t := 8) [.int x0] (by decide +kernel) ow230 ms_8_398 mt_8_398 cy241_8 rfl rfl mL241 rfl rfl (by decide) hcat
theorem e230_310 : rf d 230 310 ls s h = rf d 230 314 ls s h := rf_goto ⟨okD_ok (i := .goto (4)) (len := 3) (by decide +kernel), rfl⟩
theorem e230_313 : rf d 230 313 ls s h = rf d 230 314 ls (.int 0 :: s) h := rf_pure (i := .iconst (0)) (len := 1) (okD_ok (by decide +kernel)) rfl
theorem e230_314 : rf d 230 314 ls (.int y :: .int x :: s) h = rf d 230 315 ls (.int (x ||| y) :: s) h := rf_pure (i := .ior) (len := 1) (okD_ok (by decide +kernel)) rfl
theorem e230_315 (hn : ip_nl l4 = true) : rf d 230 315 [l0, l1, l2, l3, l4, l5, l6] (.int x :: s) h = rf d 230 317 [l0, l1, l2, l3, l4, some (.int x), l6] s h := g_sti (i := .istore 5) (len := 2) (q := 4) (p := 2) (by decide +kernel) rfl rfl hn
theorem e230_317 : rf d 230 317 [some (.ref a), l1, l2, l3, l4, l5, l6] s h = rf d 230 318 [some (.ref a), l1, l2, l3, l4, l5, l6] (.ref a :: s) h := rf_pure (i := .aload_n 0) (len := 1) (okD_ok (by decide +kernel)) rfl
theorem e230_318 (hR : LYR R) : rf d 230 318 ls (.ref 265 :: s) (SH n, I, L, R, nc, ns, nx) = rf d 230 321 ls (.ref 294 :: s) (SH n, I, L, R, nc, ns, nx) := g_R (idx := 100) (by decide +kernel) ow230 f_8_100 rfl rfl (by decide) (ly_265_44 hR)
theorem e230_321 : rf d 230 321 [l0, l1, l2, l3, some (.int x), l5, l6] s h = rf d 230 323 [l0, l1, l2, l3, some (.int x), l5, l6] (.int x :: s) h := rf_pure (i := .iload 4) (len := 2) (okD_ok (by decide +kernel)) rfl
theorem e230_323 : rf d 230 323 [l0, l1, l2, l3, l4, some (.int x), l6] s h = rf d 230 325 [l0, l1, l2, l3, l4, some (.int x), l6] (.int x :: s) h := rf_pure (i := .iload 5) (len := 2) (okD_ok (by decide +kernel)) rfl
theorem e230_325 : rf d 230 325 [some (.ref a), l1, l2, l3, l4, l5, l6] s h = rf d 230 326 [some (.ref a), l1, l2, l3, l4, l5, l6] (.ref a :: s) h := rf_pure (i := .aload_n 0) (len := 1) (okD_ok (by decide +kernel)) rfl
theorem e230_326 (hR : LYR R) : rf d 230 326 ls (.ref 265 :: s) (SH n, I, L, R, nc, ns, nx) = rf d 230 329 ls (.ref 293 :: s) (SH n, I, L, R, nc, ns, nx) := g_R (idx := 97) (by decide +kernel) ow230 f_8_97 rfl rfl (by decide) (ly_265_43 hR)
theorem e230_329 : rf d 230 329 [l0, l1, l2, l3, some (.int x), l5, l6] s h = rf d 230 331 [l0, l1, l2, l3, some (.int x), l5, l6] (.int x :: s) h := rf_pure (i := .iload 4) (len := 2) (okD_ok (by decide +kernel)) rfl
theorem e230_331 (q : ia n a j) : rf d 230 331 ls (.int j :: .ref a :: s) (SH n, I, L, R, nc, ns, nx) = rf d 230 332 ls (.int (I a j.toNatClampNeg) :: s) (SH n, I, L, R, nc, ns, nx) := g_ial (by decide +kernel) q
theorem e230_332 : rf d 230 332 ls s h = rf d 230 333 ls (.int (-1) :: s) h := rf_pure (i := .iconst (-1)) (len := 1) (okD_ok (by decide +kernel)) rfl
theorem e230_333 : rf d 230 333 ls (.int y :: .int x :: s) h = rf d 230 334 ls (.int (x ^^^ y) :: s) h := rf_pure (i := .ixor) (len := 1) (okD_ok (by decide +kernel)) rfl
theorem e230_334 : rf d 230 334 ls (.int y :: .int x :: s) h = rf d 230 335 ls (.int (x &&& y) :: s) h := rf_pure (i := .iand) (len := 1) (okD_ok (by decide +kernel)) rfl
theorem e230_335 (q : ia n a j) : rf d 230 335 ls (.int x :: .int j :: .ref a :: s) (SH n, I, L, R, nc, ns, nx) = rf d 230 336 ls s (SH n, ip_up I a j.toNatClampNeg x, L, R, nc, ns, nx) := g_ias (by decide +kernel) q
theorem e230_336 : rf d 230 336 [some (.ref a), l1, l2, l3, l4, l5, l6] s h = rf d 230 337 [some (.ref a), l1, l2, l3, l4, l5, l6] (.ref a :: s) h := rf_pure (i := .aload_n 0) (len := 1) (okD_ok (by decide +kernel)) rfl
theorem e230_337 (hR : LYR R) : rf d 230 337 ls (.ref 265 :: s) (SH n, I, L, R, nc, ns, nx) = rf d 230 340 ls (.ref 295 :: s) (SH n, I, L, R, nc, ns, nx) := g_R (idx := 103) (by decide +kernel) ow230 f_8_103 rfl rfl (by decide) (ly_265_45 hR)
theorem e230_340 : rf d 230 340 [l0, l1, l2, l3, some (.int x), l5, l6] s h = rf d 230 342 [l0, l1, l2, l3, some (.int x), l5, l6] (.int x :: s) h := rf_pure (i := .iload 4) (len := 2) (okD_ok (by decide +kernel)) rfl
theorem e230_342 : rf d 230 342 ls (.int j :: .ref a :: s) h = rf d 230 343 ls (.int j :: .ref a :: .int j :: .ref a :: s) h := rf_pure (i := .dup2) (len := 1) (okD_ok (by decide +kernel)) rfl
theorem e230_343 (q : ia n a j) : rf d 230 343 ls (.int j :: .ref a :: s) (SH n, I, L, R, nc, ns, nx) = rf d 230 344 ls (.int (I a j.toNatClampNeg) :: s) (SH n, I, L, R, nc, ns, nx) := g_ial (by decide +kernel) q
theorem e230_344 : rf d 230 344 [some (.ref a), l1, l2, l3, l4, l5, l6] s h = rf d 230 345 [some (.ref a), l1, l2, l3, l4, l5, l6] (.ref a :: s) h := rf_pure (i := .aload_n 0) (len := 1) (okD_ok (by decide +kernel)) rfl
theorem e230_345 : rf d 230 345 ls (.ref 265 :: s) (SH n, I, L, R, nc, ns, nx) = rf d 230 348 ls (.int (I 265 62) :: s) (SH n, I, L, R, nc, ns, nx) := g_I (idx := 374) (by decide +kernel) ow230 f_8_374 rfl rfl (by decide)
theorem e230_348 : rf d 230 348 ls s h = rf d 230 349 ls (.int (-1) :: s) h := rf_pure (i := .iconst (-1)) (len := 1) (okD_ok (by decide +kernel)) rfl
theorem e230_349 : rf d 230 349 ls (.int y :: .int x :: s) h = rf d 230 350 ls (.int (x ^^^ y) :: s) h := rf_pure (i := .ixor) (len := 1) (okD_ok (by decide +kernel)) rfl
theorem e230_350 : rf d 230 350 ls (.int y :: .int x :: s) h = rf d 230 351 ls (.int (x &&& y) :: s) h := rf_pure (i := .iand) (len := 1) (okD_ok (by decide +kernel)) rfl
theorem e230_351 (q : ia n a j) : rf d 230 351 ls (.int x :: .int j :: .ref a :: s) (SH n, I, L, R, nc, ns, nx) = rf d 230 352 ls s (SH n, ip_up I a j.toNatClampNeg x, L, R, nc, ns, nx) := g_ias (by decide +kernel) q
theorem e230_352 : rf d 230 352 ls s h = rf d 230 353 ls (.int 0 :: s) h := rf_pure (i := .iconst (0)) (len := 1) (okD_ok (by decide +kernel)) rfl
theorem e230_353 (hn : ip_nl l5 = true) : rf d 230 353 [l0, l1, l2, l3, l4, l5, l6] (.int x :: s) h = rf d 230 355 [l0, l1, l2, l3, l4, l5, some (.int x)] s h := g_sti (i := .istore 6) (len := 2) (q := 5) (p := 2) (by decide +kernel) rfl rfl hn
theorem e230_355 : rf d 230 355 [l0, l1, l2, l3, l4, l5, some (.int x)] s h = rf d 230 357 [l0, l1, l2, l3, l4, l5, some (.int x)] (.int x :: s) h := rf_pure (i := .iload 6) (len := 2) (okD_ok (by decide +kernel)) rfl
theorem e230_357 : rf d 230 357 ls s h = rf d 230 358 ls (.int 2 :: s) h := rf_pure (i := .iconst (2)) (len := 1) (okD_ok (by decide +kernel)) rfl
theorem e230_358 : rf d 230 358 ls (.int y :: .int x :: s) h = if y ≤ x then rf d 230 399 ls s h else rf d 230 361 ls s h := g_ic (c := .ge) (off := 41) _ (by decide +kernel) rfl cmp_d
theorem e230_361 : rf d 230 361 [some (.ref a), l1, l2, l3, l4, l5, l6] s h = rf d 230 362 [some (.ref a), l1, l2, l3, l4, l5, l6] (.ref a :: s) h := rf_pure (i := .aload_n 0) (len := 1) (okD_ok (by decide +kernel)) rfl
theorem e230_362 (hR : LYR R) : rf d 230 362 ls (.ref 265 :: s) (SH n, I, L, R, nc, ns, nx) = rf d 230 365 ls (.ref 301 :: s) (SH n, I, L, R, nc, ns, nx) := g_R (idx := 121) (by decide +kernel) ow230 f_8_121 rfl rfl (by decide) (ly_265_51 hR)
theorem e230_365 : rf d 230 365 ls s h = rf d 230 366 ls (.int 2 :: s) h := rf_pure (i := .iconst (2)) (len := 1) (okD_ok (by decide +kernel)) rfl
theorem e230_366 : rf d 230 366 [l0, l1, l2, l3, some (.int x), l5, l6] s h = rf d 230 368 [l0, l1, l2, l3, some (.int x), l5, l6] (.int x :: s) h := rf_pure (i := .iload 4) (len := 2) (okD_ok (by decide +kernel)) rfl
theorem e230_368 : rf d 230 368 ls (.int y :: .int x :: s) h = rf d 230 369 ls (.int (x * y) :: s) h := rf_pure (i := .imul) (len := 1) (okD_ok (by decide +kernel)) rfl
theorem e230_369 : rf d 230 369 [l0, l1, l2, l3, l4, l5, some (.int x)] s h = rf d 230 371 [l0, l1, l2, l3, l4, l5, some (.int x)] (.int x :: s) h := rf_pure (i := .iload 6) (len := 2) (okD_ok (by decide +kernel)) rfl
theorem e230_371 : rf d 230 371 ls (.int y :: .int x :: s) h = rf d 230 372 ls (.int (x + y) :: s) h := rf_pure (i := .iadd) (len := 1) (okD_ok (by decide +kernel)) rfl
theorem e230_372 : rf d 230 372 ls (.int j :: .ref a :: s) h = rf d 230 373 ls (.int j :: .ref a :: .int j :: .ref a :: s) h := rf_pure (i := .dup2) (len := 1) (okD_ok (by decide +kernel)) rfl
theorem e230_373 (q : ia n a j) : rf d 230 373 ls (.int j :: .ref a :: s) (SH n, I, L, R, nc, ns, nx) = rf d 230 374 ls (.int (I a j.toNatClampNeg) :: s) (SH n, I, L, R, nc, ns, nx) := g_ial (by decide +kernel) q
theorem e230_374 : rf d 230 374 [some (.ref a), l1, l2, l3, l4, l5, l6] s h = rf d 230 375 [some (.ref a), l1, l2, l3, l4, l5, l6] (.ref a :: s) h := rf_pure (i := .aload_n 0) (len := 1) (okD_ok (by decide +kernel)) rfl
theorem e230_375 (hR : LYR R) : rf d 230 375 ls (.ref 265 :: s) (SH n, I, L, R, nc, ns, nx) = rf d 230 378 ls (.ref 293 :: s) (SH n, I, L, R, nc, ns, nx) := g_R (idx := 97) (by decide +kernel) ow230 f_8_97 rfl rfl (by decide) (ly_265_43 hR)
theorem e230_378 : rf d 230 378 [l0, l1, l2, l3, some (.int x), l5, l6] s h = rf d 230 380 [l0, l1, l2, l3, some (.int x), l5, l6] (.int x :: s) h := rf_pure (i := .iload 4) (len := 2) (okD_ok (by decide +kernel)) rfl
theorem e230_380 (q : ia n a j) : rf d 230 380 ls (.int j :: .ref a :: s) (SH n, I, L, R, nc, ns, nx) = rf d 230 381 ls (.int (I a j.toNatClampNeg) :: s) (SH n, I, L, R, nc, ns, nx) := g_ial (by decide +kernel) q
theorem e230_381 : rf d 230 381 [some (.ref a), l1, l2, l3, l4, l5, l6] s h = rf d 230 382 [some (.ref a), l1, l2, l3, l4, l5, l6] (.ref a :: s) h := rf_pure (i := .aload_n 0) (len := 1) (okD_ok (by decide +kernel)) rfl
theorem e230_382 (hR : LYR R) : rf d 230 382 ls (.ref 265 :: s) (SH n, I, L, R, nc, ns, nx) = rf d 230 385 ls (.ref 298 :: s) (SH n, I, L, R, nc, ns, nx) := g_R (idx := 112) (by decide +kernel) ow230 f_8_112 rfl rfl (by decide) (ly_265_48 hR)
theorem e230_385 : rf d 230 385 [l0, l1, l2, l3, some (.int x), l5, l6] s h = rf d 230 387 [l0, l1, l2, l3, some (.int x), l5, l6] (.int x :: s) h := rf_pure (i := .iload 4) (len := 2) (okD_ok (by decide +kernel)) rfl
theorem e230_387 (q : ia n a j) : rf d 230 387 ls (.int j :: .ref a :: s) (SH n, I, L, R, nc, ns, nx) = rf d 230 388 ls (.int (I a j.toNatClampNeg) :: s) (SH n, I, L, R, nc, ns, nx) := g_ial (by decide +kernel) q
theorem e230_388 : rf d 230 388 ls (.int y :: .int x :: s) h = rf d 230 389 ls (.int (x ||| y) :: s) h := rf_pure (i := .ior) (len := 1) (okD_ok (by decide +kernel)) rfl
theorem e230_389 : rf d 230 389 ls s h = rf d 230 390 ls (.int (-1) :: s) h := rf_pure (i := .iconst (-1)) (len := 1) (okD_ok (by decide +kernel)) rfl
theorem e230_390 : rf d 230 390 ls (.int y :: .int x :: s) h = rf d 230 391 ls (.int (x ^^^ y) :: s) h := rf_pure (i := .ixor) (len := 1) (okD_ok (by decide +kernel)) rfl
theorem e230_391 : rf d 230 391 ls (.int y :: .int x :: s) h = rf d 230 392 ls (.int (x &&& y) :: s) h := rf_pure (i := .iand) (len := 1) (okD_ok (by decide +kernel)) rfl
theorem e230_392 (q : ia n a j) : rf d 230 392 ls (.int x :: .int j :: .ref a :: s) (SH n, I, L, R, nc, ns, nx) = rf d 230 393 ls s (SH n, ip_up I a j.toNatClampNeg x, L, R, nc, ns, nx) := g_ias (by decide +kernel) q
theorem e230_393 (hn : ip_nl l5 = true) : rf d 230 393 [l0, l1, l2, l3, l4, l5, some (.int x)] s h = rf d 230 396 [l0, l1, l2, l3, l4, l5, some (.int (x + 1))] s h := g_inc (q := 5) (z := 1) (w := 1) (x := x) (by decide) (by decide +kernel) rfl rfl hn
theorem e230_396 : rf d 230 396 ls s h = rf d 230 355 ls s h := rf_goto ⟨okD_ok (i := .goto (-41)) (len := 3) (by decide +kernel), rfl⟩
theorem e230_399 : rf d 230 399 [some (.ref a), l1, l2, l3, l4, l5, l6] s h = rf d 230 400 [some (.ref a), l1, l2, l3, l4, l5, l6] (.ref a :: s) h := rf_pure (i := .aload_n 0) (len := 1) (okD_ok (by decide +kernel)) rfl
theorem e230_400 (hR : LYR R) : rf d 230 400 ls (.ref 265 :: s) (SH n, I, L, R, nc, ns, nx) = rf d 230 403 ls (.ref 292 :: s) (SH n, I, L, R, nc, ns, nx) := g_R (idx := 94) (by decide +kernel) ow230 f_8_94 rfl rfl (by decide) (ly_265_42 hR)
theorem e230_403 : rf d 230 403 [l0, l1, l2, l3, some (.int x), l5, l6] s h = rf d 230 405 [l0, l1, l2, l3, some (.int x), l5, l6] (.int x :: s) h := rf_pure (i := .iload 4) (len := 2) (okD_ok (by decide +kernel)) rfl
theorem e230_405 : rf d 230 405 [some (.ref a), l1, l2, l3, l4, l5, l6] s h = rf d 230 406 [some (.ref a), l1, l2, l3, l4, l5, l6] (.ref a :: s) h := rf_pure (i := .aload_n 0) (len := 1) (okD_ok (by decide +kernel)) rfl
theorem e230_406 (hR : LYR R) : rf d 230 406 ls (.ref 265 :: s) (SH n, I, L, R, nc, ns, nx) = rf d 230 409 ls (.ref 293 :: s) (SH n, I, L, R, nc, ns, nx) := g_R (idx := 97) (by decide +kernel) ow230 f_8_97 rfl rfl (by decide) (ly_265_43 hR)
theorem e230_409 : rf d 230 409 [l0, l1, l2, l3, some (.int x), l5, l6] s h = rf d 230 411 [l0, l1, l2, l3, some (.int x), l5, l6] (.int x :: s) h := rf_pure (i := .iload 4) (len := 2) (okD_ok (by decide +kernel)) rfl
theorem e230_411 (q : ia n a j) : rf d 230 411 ls (.int j :: .ref a :: s) (SH n, I, L, R, nc, ns, nx) = rf d 230 412 ls (.int (I a j.toNatClampNeg) :: s) (SH n, I, L, R, nc, ns, nx) := g_ial (by decide +kernel) q
theorem e230_412 (q : ia n a j) : rf d 230 412 ls (.int x :: .int j :: .ref a :: s) (SH n, I, L, R, nc, ns, nx) = rf d 230 413 ls s (SH n, ip_up I a j.toNatClampNeg x, L, R, nc, ns, nx) := g_ias (by decide +kernel) q
theorem e230_413 : rf d 230 413 [some (.ref a), l1, l2, l3, l4, l5, l6] s h = rf d 230 414 [some (.ref a), l1, l2, l3, l4, l5, l6] (.ref a :: s) h := rf_pure (i := .aload_n 0) (len := 1) (okD_ok (by decide +kernel)) rfl
theorem e230_414 : rf d 230 414 ls (.int x :: s) h = rf d 230 415 ls (.int x :: .int x :: s) h := rf_pure (i := .dup) (len := 1) (okD_ok (by decide +kernel)) rfl
theorem e230_414r : rf d 230 414 ls (.ref a :: s) h = rf d 230 415 ls (.ref a :: .ref a :: s) h := rf_pure (i := .dup) (len := 1) (okD_ok (by decide +kernel)) rfl
theorem e230_415 : rf d 230 415 ls (.ref 265 :: s) (SH n, I, L, R, nc, ns, nx) = rf d 230 418 ls (.int (I 265 37) :: s) (SH n, I, L, R, nc, ns, nx) := g_I (idx := 303) (by decide +kernel) ow230 f_8_303 rfl rfl (by decide)
theorem e230_418 : rf d 230 418 ls s h = rf d 230 419 ls (.int 1 :: s) h := rf_pure (i := .iconst (1)) (len := 1) (okD_ok (by decide +kernel)) rfl
theorem e230_419 : rf d 230 419 ls (.int y :: .int x :: s) h = rf d 230 420 ls (.int (x + y) :: s) h := rf_pure (i := .iadd) (len := 1) (okD_ok (by decide +kernel)) rfl
theorem e230_420 : rf d 230 420 ls (.int x :: .ref 265 :: s) (SH n, I, L, R, nc, ns, nx) = rf d 230 423 ls s (SH n, ip_up I 265 37 x, L, R, nc, ns, nx) := g_pI (idx := 303) (by decide +kernel) ow230 f_8_303 rfl (by decide +kernel) rfl (by decide)
theorem e230_423 : rf d 230 423 [some (.ref a), l1, l2, l3, l4, l5, l6] s h = rf d 230 424 [some (.ref a), l1, l2, l3, l4, l5, l6] (.ref a :: s) h := rf_pure (i := .aload_n 0) (len := 1) (okD_ok (by decide +kernel)) rfl
theorem e230_424 : rf d 230 424 [l0, l1, l2, l3, some (.int x), l5, l6] s h = rf d 230 426 [l0, l1, l2, l3, some (.int x), l5, l6] (.int x :: s) h := rf_pure (i := .iload 4) (len := 2) (okD_ok (by decide +kernel)) rfl
theorem e230_426 : rf d 230 426 ls (.int x :: .ref 265 :: s) (SH n, I, L, R, nc, ns, nx) = rf d 230 429 ls s (SH n, ip_up I 265 38 x, L, R, nc, ns, nx) := g_pI (idx := 306) (by decide +kernel) ow230 f_8_306 rfl (by decide +kernel) rfl (by decide)
theorem e230_429 : rf d 230 429 [l0, l1, l2, l3, some (.int x), l5, l6] s h = rf d 230 431 [l0, l1, l2, l3, some (.int x), l5, l6] (.int x :: s) h := rf_pure (i := .iload 4) (len := 2) (okD_ok (by decide +kernel)) rfl
theorem e230_431 : rf d 230 431 ls [.int x] h = some (.inl (some (.int x)), h) := g_ri (by decide +kernel) rt230
theorem en231 : cf d 231 [.ref a, .int x0] h = rf d 231 0 [some (.ref a), some (.int x0)] [] h := rfl
theorem e231_0 : rf d 231 0 [l0, some (.int x)] s h = rf d 231 1 [l0, some (.int x)] (.int x :: s) h := rf_pure (i := .iload_n 1) (len := 1) (okD_ok (by decide +kernel)) rfl
theorem e231_1 : rf d 231 1 ls s h = rf d 231 2 ls (.int 0 :: s) h := rf_pure (i := .iconst (0)) (len := 1) (okD_ok (by decide +kernel)) rfl
theorem e231_2 : rf d 231 2 [some (.ref a), l1] s h = rf d 231 3 [some (.ref a), l1] (.ref a :: s) h := rf_pure (i := .aload_n 0) (len := 1) (okD_ok (by decide +kernel)) rfl
theorem e231_3 (hcat : ip_cat s ≤ 8) : rf (d + 1) 231 3 ls (.ref 265 :: s) (SH n, I, L, R, nc, ns, nx) = rf_k (d + 1) 231 3 ls s (cf d 187 [.ref 265] (SH n, I, L, R, nc, ns, nx)) := g_cv (idx := 309) (t := 8) [] (by decide +kernel) ow231 ms_8_309 mt_8_309 cy187_8 rfl rfl mL187 rfl rfl (by decide) hcat
theorem e231_6 (hcat : ip_cat s ≤ 8) : rf (d + 1) 231 6 ls (.int x2 :: .int x1 :: .int x0 :: s) h = rf_k (d + 1) 231 6 ls s (cf d 217 [.int x0, .int x1, .int x2] h) := g_cs (idx := 315) [.int x2, .int x1, .int x0] (by decide +kernel) ow231 ms_8_315 mt_8_315 (by decide) rfl mL217 rfl hcat
theorem e231_9 (hx : x = 0 ∨ x = 1) : rf d 231 9 ls [.int x] h = some (.inl (some (.int x)), h) := g_rz (by decide +kernel) rt231 hx
theorem en232 : cf d 232 [.ref a] h = rf d 232 0 [some (.ref a)] [] h := rfl
theorem e232_0 : rf d 232 0 [some (.ref a)] s h = rf d 232 1 [some (.ref a)] (.ref a :: s) h := rf_pure (i := .aload_n 0) (len := 1) (okD_ok (by decide +kernel)) rfl
theorem e232_1 : rf d 232 1 [some (.ref a)] s h = rf d 232 2 [some (.ref a)] (.ref a :: s) h := rf_pure (i := .aload_n 0) (len := 1) (okD_ok (by decide +kernel)) rfl
theorem e232_2 (hcat : ip_cat s ≤ 8) : rf (d + 1) 232 2 ls (.ref 265 :: s) (SH n, I, L, R, nc, ns, nx) = rf_k (d + 1) 232 2 ls s (cf d 233 [.ref 265] (SH n, I, L, R, nc, ns, nx)) := g_cv (idx := 356) (t := 8) [] (by decide +kernel) ow232 ms_8_356 mt_8_356 cy233_8 rfl rfl mL233 rfl rfl (by decide) hcat
theorem e232_5 : rf d 232 5 ls (.int x :: .ref 265 :: s) (SH n, I, L, R, nc, ns, nx) = rf d 232 8 ls s (SH n, ip_up I 265 58 x, L, R, nc, ns, nx) := g_pI (idx := 359) (by decide +kernel) ow232 f_8_359 rfl (by decide +kernel) rfl (by decide)
theorem e232_8 : rf d 232 8 [some (.ref a)] s h = rf d 232 9 [some (.ref a)] (.ref a :: s) h := rf_pure (i := .aload_n 0) (len := 1) (okD_ok (by decide +kernel)) rfl
theorem e232_9 : rf d 232 9 ls (.ref 265 :: s) (SH n, I, L, R, nc, ns, nx) = rf d 232 12 ls (.int (I 265 58) :: s) (SH n, I, L, R, nc, ns, nx) := g_I (idx := 359) (by decide +kernel) ow232 f_8_359 rfl rfl (by decide)
theorem e232_12 : rf d 232 12 ls s h = rf d 232 13 ls (.int (-1) :: s) h := rf_pure (i := .iconst (-1)) (len := 1) (okD_ok (by decide +kernel)) rfl
theorem e232_13 : rf d 232 13 ls (.int y :: .int x :: s) h = if ¬ x = y then rf d 232 18 ls s h else rf d 232 16 ls s h := g_ic (c := .ne) (off := 5) _ (by decide +kernel) rfl cmp_d
theorem e232_16 : rf d 232 16 ls s h = rf d 232 17 ls (.int 0 :: s) h := rf_pure (i := .iconst (0)) (len := 1) (okD_ok (by decide +kernel)) rfl
theorem e232_17 (hx : x = 0 ∨ x = 1) : rf d 232 17 ls [.int x] h = some (.inl (some (.int x)), h) := g_rz (by decide +kernel) rt232 hx
theorem e232_18 : rf d 232 18 [some (.ref a)] s h = rf d 232 19 [some (.ref a)] (.ref a :: s) h := rf_pure (i := .aload_n 0) (len := 1) (okD_ok (by decide +kernel)) rfl
theorem e232_19 : rf d 232 19 ls s h = rf d 232 20 ls (.int 1 :: s) h := rf_pure (i := .iconst (1)) (len := 1) (okD_ok (by decide +kernel)) rfl
theorem e232_20 : rf d 232 20 [some (.ref a)] s h = rf d 232 21 [some (.ref a)] (.ref a :: s) h := rf_pure (i := .aload_n 0) (len := 1) (okD_ok (by decide +kernel)) rfl
theorem e232_21 : rf d 232 21 [some (.ref a)] s h = rf d 232 22 [some (.ref a)] (.ref a :: s) h := rf_pure (i := .aload_n 0) (len := 1) (okD_ok (by decide +kernel)) rfl
theorem e232_22 (hR : LYR R) : rf d 232 22 ls (.ref 265 :: s) (SH n, I, L, R, nc, ns, nx) = rf d 232 25 ls (.ref 296 :: s) (SH n, I, L, R, nc, ns, nx) := g_R (idx := 106) (by decide +kernel) ow232 f_8_106 rfl rfl (by decide) (ly_265_46 hR)
theorem e232_25 : rf d 232 25 [some (.ref a)] s h = rf d 232 26 [some (.ref a)] (.ref a :: s) h := rf_pure (i := .aload_n 0) (len := 1) (okD_ok (by decide +kernel)) rfl
theorem e232_26 : rf d 232 26 ls (.ref 265 :: s) (SH n, I, L, R, nc, ns, nx) = rf d 232 29 ls (.int (I 265 38) :: s) (SH n, I, L, R, nc, ns, nx) := g_I (idx := 306) (by decide +kernel) ow232 f_8_306 rfl rfl (by decide)
theorem e232_29 (q : ia n a j) : rf d 232 29 ls (.int j :: .ref a :: s) (SH n, I, L, R, nc, ns, nx) = rf d 232 30 ls (.int (I a j.toNatClampNeg) :: s) (SH n, I, L, R, nc, ns, nx) := g_ial (by decide +kernel) q
theorem e232_30 : rf d 232 30 [some (.ref a)] s h = rf d 232 31 [some (.ref a)] (.ref a :: s) h := rf_pure (i := .aload_n 0) (len := 1) (okD_ok (by decide +kernel)) rfl
theorem e232_31 (hR : LYR R) : rf d 232 31 ls (.ref 265 :: s) (SH n, I, L, R, nc, ns, nx) = rf d 232 34 ls (.ref 293 :: s) (SH n, I, L, R, nc, ns, nx) := g_R (idx := 97) (by decide +kernel) ow232 f_8_97 rfl rfl (by decide) (ly_265_43 hR)
theorem e232_34 : rf d 232 34 [some (.ref a)] s h = rf d 232 35 [some (.ref a)] (.ref a :: s) h := rf_pure (i := .aload_n 0) (len := 1) (okD_ok (by decide +kernel)) rfl
theorem e232_35 : rf d 232 35 ls (.ref 265 :: s) (SH n, I, L, R, nc, ns, nx) = rf d 232 38 ls (.int (I 265 38) :: s) (SH n, I, L, R, nc, ns, nx) := g_I (idx := 306) (by decide +kernel) ow232 f_8_306 rfl rfl (by decide)
theorem e232_38 (q : ia n a j) : rf d 232 38 ls (.int j :: .ref a :: s) (SH n, I, L, R, nc, ns, nx) = rf d 232 39 ls (.int (I a j.toNatClampNeg) :: s) (SH n, I, L, R, nc, ns, nx) := g_ial (by decide +kernel) q
theorem e232_39 (hcat : ip_cat s ≤ 8) : rf (d + 1) 232 39 ls (.int x1 :: .int x0 :: .ref 265 :: s) (SH n, I, L, R, nc, ns, nx) = rf_k (d + 1) 232 39 ls s (cf d 234 [.ref 265, .int x0, .int x1] (SH n, I, L, R, nc, ns, nx)) := g_cv (idx := 339) (t := 8) [.int x1, .int x0] (by decide +kernel) ow232 ms_8_339 mt_8_339 cy234_8 rfl rfl mL234 rfl rfl (by decide) hcat
theorem e232_42 : rf d 232 42 ls (.int y :: .int x :: s) h = rf d 232 43 ls (.int (x - y) :: s) h := rf_pure (i := .isub) (len := 1) (okD_ok (by decide +kernel)) rfl
theorem e232_43 : rf d 232 43 ls (.int x :: .ref 265 :: s) (SH n, I, L, R, nc, ns, nx) = rf d 232 46 ls s (SH n, ip_up I 265 59 x, L, R, nc, ns, nx) := g_pI (idx := 362) (by decide +kernel) ow232 f_8_362 rfl (by decide +kernel) rfl (by decide)
theorem e232_46 : rf d 232 46 [some (.ref a)] s h = rf d 232 47 [some (.ref a)] (.ref a :: s) h := rf_pure (i := .aload_n 0) (len := 1) (okD_ok (by decide +kernel)) rfl
theorem e232_47 : rf d 232 47 [some (.ref a)] s h = rf d 232 48 [some (.ref a)] (.ref a :: s) h := rf_pure (i := .aload_n 0) (len := 1) (okD_ok (by decide +kernel)) rfl
theorem e232_48 : rf d 232 48 ls s h = rf d 232 49 ls (.int 0 :: s) h := rf_pure (i := .iconst (0)) (len := 1) (okD_ok (by decide +kernel)) rfl
theorem e232_49 : rf d 232 49 [some (.ref a)] s h = rf d 232 50 [some (.ref a)] (.ref a :: s) h := rf_pure (i := .aload_n 0) (len := 1) (okD_ok (by decide +kernel)) rfl
theorem e232_50 : rf d 232 50 ls (.ref 265 :: s) (SH n, I, L, R, nc, ns, nx) = rf d 232 53 ls (.int (I 265 58) :: s) (SH n, I, L, R, nc, ns, nx) := g_I (idx := 359) (by decide +kernel) ow232 f_8_359 rfl rfl (by decide)
theorem e232_53 (hcat : ip_cat s ≤ 8) : rf (d + 1) 232 53 ls (.int x1 :: .int x0 :: .ref 265 :: s) (SH n, I, L, R, nc, ns, nx) = rf_k (d + 1) 232 53 ls s (cf d 235 [.ref 265, .int x0, .int x1] (SH n, I, L, R, nc, ns, nx)) := g_cv (idx := 365) (t := 8) [.int x1, .int x0] (by decide +kernel) ow232 ms_8_365 mt_8_365 cy235_8 rfl rfl mL235 rfl rfl (by decide) hcat
theorem e232_56 : rf d 232 56 ls (.int x :: .ref 265 :: s) (SH n, I, L, R, nc, ns, nx) = rf d 232 59 ls s (SH n, ip_up I 265 60 x, L, R, nc, ns, nx) := g_pI (idx := 368) (by decide +kernel) ow232 f_8_368 rfl (by decide +kernel) rfl (by decide)
theorem e232_59 : rf d 232 59 [some (.ref a)] s h = rf d 232 60 [some (.ref a)] (.ref a :: s) h := rf_pure (i := .aload_n 0) (len := 1) (okD_ok (by decide +kernel)) rfl
theorem e232_60 : rf d 232 60 [some (.ref a)] s h = rf d 232 61 [some (.ref a)] (.ref a :: s) h := rf_pure (i := .aload_n 0) (len := 1) (okD_ok (by decide +kernel)) rfl
theorem e232_61 : rf d 232 61 ls s h = rf d 232 62 ls (.int 1 :: s) h := rf_pure (i := .iconst (1)) (len := 1) (okD_ok (by decide +kernel)) rfl
theorem e232_62 : rf d 232 62 [some (.ref a)] s h = rf d 232 63 [some (.ref a)] (.ref a :: s) h := rf_pure (i := .aload_n 0) (len := 1) (okD_ok (by decide +kernel)) rfl
theorem e232_63 : rf d 232 63 ls (.ref 265 :: s) (SH n, I, L, R, nc, ns, nx) = rf d 232 66 ls (.int (I 265 58) :: s) (SH n, I, L, R, nc, ns, nx) := g_I (idx := 359) (by decide +kernel) ow232 f_8_359 rfl rfl (by decide)
theorem e232_66 (hcat : ip_cat s ≤ 8) : rf (d + 1) 232 66 ls (.int x1 :: .int x0 :: .ref 265 :: s) (SH n, I, L, R, nc, ns, nx) = rf_k (d + 1) 232 66 ls s (cf d 235 [.ref 265, .int x0, .int x1] (SH n, I, L, R, nc, ns, nx)) := g_cv (idx := 365) (t := 8) [.int x1, .int x0] (by decide +kernel) ow232 ms_8_365 mt_8_365 cy235_8 rfl rfl mL235 rfl rfl (by decide) hcat
theorem e232_69 : rf d 232 69 ls (.int x :: .ref 265 :: s) (SH n, I, L, R, nc, ns, nx) = rf d 232 72 ls s (SH n, ip_up I 265 61 x, L, R, nc, ns, nx) := g_pI (idx := 371) (by decide +kernel) ow232 f_8_371 rfl (by decide +kernel) rfl (by decide)
theorem e232_72 : rf d 232 72 ls s h = rf d 232 73 ls (.int 1 :: s) h := rf_pure (i := .iconst (1)) (len := 1) (okD_ok (by decide +kernel)) rfl
theorem e232_73 (hx : x = 0 ∨ x = 1) : rf d 232 73 ls [.int x] h = some (.inl (some (.int x)), h) := g_rz (by decide +kernel) rt232 hx
theorem en233 : cf d 233 [.ref a] h = rf d 233 0 [some (.ref a), none] [] h := rfl
theorem e233_0 : rf d 233 0 [some (.ref a), l1] s h = rf d 233 1 [some (.ref a), l1] (.ref a :: s) h := rf_pure (i := .aload_n 0) (len := 1) (okD_ok (by decide +kernel)) rfl
theorem e233_1 (hR : LYR R) : rf d 233 1 ls (.ref 265 :: s) (SH n, I, L, R, nc, ns, nx) = rf d 233 4 ls (.ref 289 :: s) (SH n, I, L, R, nc, ns, nx) := g_R (idx := 85) (by decide +kernel) ow233 f_8_85 rfl rfl (by decide) (ly_265_39 hR)
theorem e233_4 : rf d 233 4 [some (.ref a), l1] s h = rf d 233 5 [some (.ref a), l1] (.ref a :: s) h := rf_pure (i := .aload_n 0) (len := 1) (okD_ok (by decide +kernel)) rfl
theorem e233_5 : rf d 233 5 ls (.ref 265 :: s) (SH n, I, L, R, nc, ns, nx) = rf d 233 8 ls (.int (I 265 38) :: s) (SH n, I, L, R, nc, ns, nx) := g_I (idx := 306) (by decide +kernel) ow233 f_8_306 rfl rfl (by decide)
theorem e233_8 (q : ia n a j) : rf d 233 8 ls (.int j :: .ref a :: s) (SH n, I, L, R, nc, ns, nx) = rf d 233 9 ls (.int (I a j.toNatClampNeg) :: s) (SH n, I, L, R, nc, ns, nx) := g_ial (by decide +kernel) q
theorem e233_9 : rf d 233 9 ls (.int x :: s) h = if ¬ x = 0 then rf d 233 42 ls s h else rf d 233 12 ls s h := g_if (c := .ne) (off := 33) _ (by decide +kernel) rfl cmp_d
theorem e233_12 : rf d 233 12 [some (.ref a), l1] s h = rf d 233 13 [some (.ref a), l1] (.ref a :: s) h := rf_pure (i := .aload_n 0) (len := 1) (okD_ok (by decide +kernel)) rfl
theorem e233_13 (hR : LYR R) : rf d 233 13 ls (.ref 265 :: s) (SH n, I, L, R, nc, ns, nx) = rf d 233 16 ls (.ref 293 :: s) (SH n, I, L, R, nc, ns, nx) := g_R (idx := 97) (by decide +kernel) ow233 f_8_97 rfl rfl (by decide) (ly_265_43 hR)
theorem e233_16 : rf d 233 16 [some (.ref a), l1] s h = rf d 233 17 [some (.ref a), l1] (.ref a :: s) h := rf_pure (i := .aload_n 0) (len := 1) (okD_ok (by decide +kernel)) rfl
theorem e233_17 : rf d 233 17 ls (.ref 265 :: s) (SH n, I, L, R, nc, ns, nx) = rf d 233 20 ls (.int (I 265 38) :: s) (SH n, I, L, R, nc, ns, nx) := g_I (idx := 306) (by decide +kernel) ow233 f_8_306 rfl rfl (by decide)
theorem e233_20 (q : ia n a j) : rf d 233 20 ls (.int j :: .ref a :: s) (SH n, I, L, R, nc, ns, nx) = rf d 233 21 ls (.int (I a j.toNatClampNeg) :: s) (SH n, I, L, R, nc, ns, nx) := g_ial (by decide +kernel) q
theorem e233_21 : rf d 233 21 [some (.ref a), l1] s h = rf d 233 22 [some (.ref a), l1] (.ref a :: s) h := rf_pure (i := .aload_n 0) (len := 1) (okD_ok (by decide +kernel)) rfl
theorem e233_22 (hR : LYR R) : rf d 233 22 ls (.ref 265 :: s) (SH n, I, L, R, nc, ns, nx) = rf d 233 25 ls (.ref 292 :: s) (SH n, I, L, R, nc, ns, nx) := g_R (idx := 94) (by decide +kernel) ow233 f_8_94 rfl rfl (by decide) (ly_265_42 hR)
theorem e233_25 : rf d 233 25 [some (.ref a), l1] s h = rf d 233 26 [some (.ref a), l1] (.ref a :: s) h := rf_pure (i := .aload_n 0) (len := 1) (okD_ok (by decide +kernel)) rfl
theorem e233_26 : rf d 233 26 ls (.ref 265 :: s) (SH n, I, L, R, nc, ns, nx) = rf d 233 29 ls (.int (I 265 38) :: s) (SH n, I, L, R, nc, ns, nx) := g_I (idx := 306) (by decide +kernel) ow233 f_8_306 rfl rfl (by decide)
theorem e233_29 (q : ia n a j) : rf d 233 29 ls (.int j :: .ref a :: s) (SH n, I, L, R, nc, ns, nx) = rf d 233 30 ls (.int (I a j.toNatClampNeg) :: s) (SH n, I, L, R, nc, ns, nx) := g_ial (by decide +kernel) q
theorem e233_30 : rf d 233 30 ls (.int y :: .int x :: s) h = rf d 233 31 ls (.int (x &&& y) :: s) h := rf_pure (i := .iand) (len := 1) (okD_ok (by decide +kernel)) rfl
theorem e233_31 : rf d 233 31 ls (.int x :: s) h = if ¬ x = 0 then rf d 233 38 ls s h else rf d 233 34 ls s h := g_if (c := .ne) (off := 7) _ (by decide +kernel) rfl cmp_d
theorem e233_34 : rf d 233 34 ls s h = rf d 233 35 ls (.int 1 :: s) h := rf_pure (i := .iconst (1)) (len := 1) (okD_ok (by decide +kernel)) rfl
theorem e233_35 : rf d 233 35 ls s h = rf d 233 73 ls s h := rf_goto ⟨okD_ok (i := .goto (38)) (len := 3) (by decide +kernel), rfl⟩
theorem e233_38 : rf d 233 38 ls s h = rf d 233 39 ls (.int (-1) :: s) h := rf_pure (i := .iconst (-1)) (len := 1) (okD_ok (by decide +kernel)) rfl
theorem e233_39 : rf d 233 39 ls s h = rf d 233 73 ls s h := rf_goto ⟨okD_ok (i := .goto (34)) (len := 3) (by decide +kernel), rfl⟩
theorem e233_42 : rf d 233 42 [some (.ref a), l1] s h = rf d 233 43 [some (.ref a), l1] (.ref a :: s) h := rf_pure (i := .aload_n 0) (len := 1) (okD_ok (by decide +kernel)) rfl
theorem e233_43 (hR : LYR R) : rf d 233 43 ls (.ref 265 :: s) (SH n, I, L, R, nc, ns, nx) = rf d 233 46 ls (.ref 289 :: s) (SH n, I, L, R, nc, ns, nx) := g_R (idx := 85) (by decide +kernel) ow233 f_8_85 rfl rfl (by decide) (ly_265_39 hR)
theorem e233_46 : rf d 233 46 [some (.ref a), l1] s h = rf d 233 47 [some (.ref a), l1] (.ref a :: s) h := rf_pure (i := .aload_n 0) (len := 1) (okD_ok (by decide +kernel)) rfl
theorem e233_47 : rf d 233 47 ls (.ref 265 :: s) (SH n, I, L, R, nc, ns, nx) = rf d 233 50 ls (.int (I 265 38) :: s) (SH n, I, L, R, nc, ns, nx) := g_I (idx := 306) (by decide +kernel) ow233 f_8_306 rfl rfl (by decide)
theorem e233_50 (q : ia n a j) : rf d 233 50 ls (.int j :: .ref a :: s) (SH n, I, L, R, nc, ns, nx) = rf d 233 51 ls (.int (I a j.toNatClampNeg) :: s) (SH n, I, L, R, nc, ns, nx) := g_ial (by decide +kernel) q
theorem e233_51 : rf d 233 51 ls s h = rf d 233 52 ls (.int 1 :: s) h := rf_pure (i := .iconst (1)) (len := 1) (okD_ok (by decide +kernel)) rfl
theorem e233_52 : rf d 233 52 ls (.int y :: .int x :: s) h = if ¬ x = y then rf d 233 72 ls s h else rf d 233 55 ls s h := g_ic (c := .ne) (off := 20) _ (by decide +kernel) rfl cmp_d
theorem e233_55 : rf d 233 55 [some (.ref a), l1] s h = rf d 233 56 [some (.ref a), l1] (.ref a :: s) h := rf_pure (i := .aload_n 0) (len := 1) (okD_ok (by decide +kernel)) rfl
theorem e233_56 (hR : LYR R) : rf d 233 56 ls (.ref 265 :: s) (SH n, I, L, R, nc, ns, nx) = rf d 233 59 ls (.ref 291 :: s) (SH n, I, L, R, nc, ns, nx) := g_R (idx := 91) (by decide +kernel) ow233 f_8_91 rfl rfl (by decide) (ly_265_41 hR)
theorem e233_59 : rf d 233 59 [some (.ref a), l1] s h = rf d 233 60 [some (.ref a), l1] (.ref a :: s) h := rf_pure (i := .aload_n 0) (len := 1) (okD_ok (by decide +kernel)) rfl
theorem e233_60 : rf d 233 60 ls (.ref 265 :: s) (SH n, I, L, R, nc, ns, nx) = rf d 233 63 ls (.int (I 265 38) :: s) (SH n, I, L, R, nc, ns, nx) := g_I (idx := 306) (by decide +kernel) ow233 f_8_306 rfl rfl (by decide)
theorem e233_63 (q : ia n a j) : rf d 233 63 ls (.int j :: .ref a :: s) (SH n, I, L, R, nc, ns, nx) = rf d 233 64 ls (.int (I a j.toNatClampNeg) :: s) (SH n, I, L, R, nc, ns, nx) := g_ial (by decide +kernel) q
theorem e233_64 : rf d 233 64 ls s h = rf d 233 65 ls (.int 3 :: s) h := rf_pure (i := .iconst (3)) (len := 1) (okD_ok (by decide +kernel)) rfl
theorem e233_65 : rf d 233 65 ls (.int y :: .int x :: s) h = if x = y then rf d 233 72 ls s h else rf d 233 68 ls s h := g_ic (c := .eq) (off := 7) _ (by decide +kernel) rfl cmp_d
theorem e233_68 : rf d 233 68 ls s h = rf d 233 69 ls (.int 2 :: s) h := rf_pure (i := .iconst (2)) (len := 1) (okD_ok (by decide +kernel)) rfl
theorem e233_69 : rf d 233 69 ls s h = rf d 233 73 ls s h := rf_goto ⟨okD_ok (i := .goto (4)) (len := 3) (by decide +kernel), rfl⟩
theorem e233_72 : rf d 233 72 ls s h = rf d 233 73 ls (.int (-1) :: s) h := rf_pure (i := .iconst (-1)) (len := 1) (okD_ok (by decide +kernel)) rfl
theorem e233_73 (hn : ip_nl l0 = true) : rf d 233 73 [l0, l1] (.int x :: s) h = rf d 233 74 [l0, some (.int x)] s h := g_sti (i := .istore_n 1) (len := 1) (q := 0) (p := 1) (by decide +kernel) rfl rfl hn
theorem e233_74 : rf d 233 74 [l0, some (.int x)] s h = rf d 233 75 [l0, some (.int x)] (.int x :: s) h := rf_pure (i := .iload_n 1) (len := 1) (okD_ok (by decide +kernel)) rfl
theorem e233_75 : rf d 233 75 ls s h = rf d 233 76 ls (.int (-1) :: s) h := rf_pure (i := .iconst (-1)) (len := 1) (okD_ok (by decide +kernel)) rfl
theorem e233_76 : rf d 233 76 ls (.int y :: .int x :: s) h = if x = y then rf d 233 109 ls s h else rf d 233 79 ls s h := g_ic (c := .eq) (off := 33) _ (by decide +kernel) rfl cmp_d
theorem e233_79 : rf d 233 79 [some (.ref a), l1] s h = rf d 233 80 [some (.ref a), l1] (.ref a :: s) h := rf_pure (i := .aload_n 0) (len := 1) (okD_ok (by decide +kernel)) rfl
theorem e233_80 : rf d 233 80 [some (.ref a), l1] s h = rf d 233 81 [some (.ref a), l1] (.ref a :: s) h := rf_pure (i := .aload_n 0) (len := 1) (okD_ok (by decide +kernel)) rfl
theorem e233_81 (hR : LYR R) : rf d 233 81 ls (.ref 265 :: s) (SH n, I, L, R, nc, ns, nx) = rf d 233 84 ls (.ref 296 :: s) (SH n, I, L, R, nc, ns, nx) := g_R (idx := 106) (by decide +kernel) ow233 f_8_106 rfl rfl (by decide) (ly_265_46 hR)
theorem e233_84 : rf d 233 84 [some (.ref a), l1] s h = rf d 233 85 [some (.ref a), l1] (.ref a :: s) h := rf_pure (i := .aload_n 0) (len := 1) (okD_ok (by decide +kernel)) rfl
theorem e233_85 : rf d 233 85 ls (.ref 265 :: s) (SH n, I, L, R, nc, ns, nx) = rf d 233 88 ls (.int (I 265 38) :: s) (SH n, I, L, R, nc, ns, nx) := g_I (idx := 306) (by decide +kernel) ow233 f_8_306 rfl rfl (by decide)
theorem e233_88 (q : ia n a j) : rf d 233 88 ls (.int j :: .ref a :: s) (SH n, I, L, R, nc, ns, nx) = rf d 233 89 ls (.int (I a j.toNatClampNeg) :: s) (SH n, I, L, R, nc, ns, nx) := g_ial (by decide +kernel) q
theorem e233_89 : rf d 233 89 [some (.ref a), l1] s h = rf d 233 90 [some (.ref a), l1] (.ref a :: s) h := rf_pure (i := .aload_n 0) (len := 1) (okD_ok (by decide +kernel)) rfl
theorem e233_90 (hR : LYR R) : rf d 233 90 ls (.ref 265 :: s) (SH n, I, L, R, nc, ns, nx) = rf d 233 93 ls (.ref 293 :: s) (SH n, I, L, R, nc, ns, nx) := g_R (idx := 97) (by decide +kernel) ow233 f_8_97 rfl rfl (by decide) (ly_265_43 hR)
theorem e233_93 : rf d 233 93 [some (.ref a), l1] s h = rf d 233 94 [some (.ref a), l1] (.ref a :: s) h := rf_pure (i := .aload_n 0) (len := 1) (okD_ok (by decide +kernel)) rfl
theorem e233_94 : rf d 233 94 ls (.ref 265 :: s) (SH n, I, L, R, nc, ns, nx) = rf d 233 97 ls (.int (I 265 38) :: s) (SH n, I, L, R, nc, ns, nx) := g_I (idx := 306) (by decide +kernel) ow233 f_8_306 rfl rfl (by decide)
theorem e233_97 (q : ia n a j) : rf d 233 97 ls (.int j :: .ref a :: s) (SH n, I, L, R, nc, ns, nx) = rf d 233 98 ls (.int (I a j.toNatClampNeg) :: s) (SH n, I, L, R, nc, ns, nx) := g_ial (by decide +kernel) q
theorem e233_98 (hcat : ip_cat s ≤ 8) : rf (d + 1) 233 98 ls (.int x1 :: .int x0 :: .ref 265 :: s) (SH n, I, L, R, nc, ns, nx) = rf_k (d + 1) 233 98 ls s (cf d 234 [.ref 265, .int x0, .int x1] (SH n, I, L, R, nc, ns, nx)) := g_cv (idx := 339) (t := 8) [.int x1, .int x0] (by decide +kernel) ow233 ms_8_339 mt_8_339 cy234_8 rfl rfl mL234 rfl rfl (by decide) hcat
theorem e233_101 : rf d 233 101 ls s h = rf d 233 102 ls (.int (-1) :: s) h := rf_pure (i := .iconst (-1)) (len := 1) (okD_ok (by decide +kernel)) rfl
theorem e233_102 : rf d 233 102 ls (.int y :: .int x :: s) h = if ¬ x = y then rf d 233 109 ls s h else rf d 233 105 ls s h := g_ic (c := .ne) (off := 7) _ (by decide +kernel) rfl cmp_d
theorem e233_105 : rf d 233 105 ls s h = rf d 233 106 ls (.int (-1) :: s) h := rf_pure (i := .iconst (-1)) (len := 1) (okD_ok (by decide +kernel)) rfl
theorem e233_106 : rf d 233 106 ls s h = rf d 233 110 ls s h := rf_goto ⟨okD_ok (i := .goto (4)) (len := 3) (by decide +kernel), rfl⟩
theorem e233_109 : rf d 233 109 [l0, some (.int x)] s h = rf d 233 110 [l0, some (.int x)] (.int x :: s) h := rf_pure (i := .iload_n 1) (len := 1) (okD_ok (by decide +kernel)) rfl
theorem e233_110 : rf d 233 110 ls [.int x] h = some (.inl (some (.int x)), h) := g_ri (by decide +kernel) rt233
theorem en234 : cf d 234 [.ref a, .int x0, .int x1] h = rf d 234 0 [some (.ref a), some (.int x0), some (.int x1), none, none] [] h := rfl
theorem e234_0 : rf d 234 0 [some (.ref a), l1, l2, l3, l4] s h = rf d 234 1 [some (.ref a), l1, l2, l3, l4] (.ref a :: s) h := rf_pure (i := .aload_n 0) (len := 1) (okD_ok (by decide +kernel)) rfl
theorem e234_1 (hR : LYR R) : rf d 234 1 ls (.ref 265 :: s) (SH n, I, L, R, nc, ns, nx) = rf d 234 4 ls (.ref 287 :: s) (SH n, I, L, R, nc, ns, nx) := g_R (idx := 79) (by decide +kernel) ow234 f_8_79 rfl rfl (by decide) (ly_265_35 hR)
theorem e234_4 : rf d 234 4 [l0, some (.int x), l2, l3, l4] s h = rf d 234 5 [l0, some (.int x), l2, l3, l4] (.int x :: s) h := rf_pure (i := .iload_n 1) (len := 1) (okD_ok (by decide +kernel)) rfl
theorem e234_5 : rf d 234 5 [l0, l1, some (.int x), l3, l4] s h = rf d 234 6 [l0, l1, some (.int x), l3, l4] (.int x :: s) h := rf_pure (i := .iload_n 2) (len := 1) (okD_ok (by decide +kernel)) rfl
theorem e234_6 : rf d 234 6 ls s h = rf d 234 7 ls (.int (-1) :: s) h := rf_pure (i := .iconst (-1)) (len := 1) (okD_ok (by decide +kernel)) rfl
theorem e234_7 : rf d 234 7 ls (.int y :: .int x :: s) h = rf d 234 8 ls (.int (x ^^^ y) :: s) h := rf_pure (i := .ixor) (len := 1) (okD_ok (by decide +kernel)) rfl
theorem e234_8 : rf d 234 8 ls (.int y :: .int x :: s) h = rf d 234 9 ls (.int (x &&& y) :: s) h := rf_pure (i := .iand) (len := 1) (okD_ok (by decide +kernel)) rfl
theorem e234_9 (q : ia n a j) : rf d 234 9 ls (.int j :: .ref a :: s) (SH n, I, L, R, nc, ns, nx) = rf d 234 10 ls (.int (I a j.toNatClampNeg) :: s) (SH n, I, L, R, nc, ns, nx) := g_ial (by decide +kernel) q
theorem e234_10 (hn : ip_nl l2 = true) : rf d 234 10 [l0, l1, l2, l3, l4] (.int x :: s) h = rf d 234 11 [l0, l1, l2, some (.int x), l4] s h := g_sti (i := .istore_n 3) (len := 1) (q := 2) (p := 1) (by decide +kernel) rfl rfl hn
theorem e234_11 : rf d 234 11 [l0, l1, some (.int x), l3, l4] s h = rf d 234 12 [l0, l1, some (.int x), l3, l4] (.int x :: s) h := rf_pure (i := .iload_n 2) (len := 1) (okD_ok (by decide +kernel)) rfl
theorem e234_12 (hn : ip_nl l3 = true) : rf d 234 12 [l0, l1, l2, l3, l4] (.int x :: s) h = rf d 234 14 [l0, l1, l2, l3, some (.int x)] s h := g_sti (i := .istore 4) (len := 2) (q := 3) (p := 2) (by decide +kernel) rfl rfl hn
theorem e234_14 : rf d 234 14 [l0, l1, l2, l3, some (.int x)] s h = rf d 234 16 [l0, l1, l2, l3, some (.int x)] (.int x :: s) h := rf_pure (i := .iload 4) (len := 2) (okD_ok (by decide +kernel)) rfl
theorem e234_16 : rf d 234 16 ls (.int x :: s) h = if x ≤ 0 then rf d 234 49 ls s h else rf d 234 19 ls s h := g_if (c := .le) (off := 33) _ (by decide +kernel) rfl cmp_d
theorem e234_19 : rf d 234 19 [some (.ref a), l1, l2, l3, l4] s h = rf d 234 20 [some (.ref a), l1, l2, l3, l4] (.ref a :: s) h := rf_pure (i := .aload_n 0) (len := 1) (okD_ok (by decide +kernel)) rfl
theorem e234_20 (hR : LYR R) : rf d 234 20 ls (.ref 265 :: s) (SH n, I, L, R, nc, ns, nx) = rf d 234 23 ls (.ref 287 :: s) (SH n, I, L, R, nc, ns, nx) := g_R (idx := 79) (by decide +kernel) ow234 f_8_79 rfl rfl (by decide) (ly_265_35 hR)
theorem e234_23 : rf d 234 23 [l0, some (.int x), l2, l3, l4] s h = rf d 234 24 [l0, some (.int x), l2, l3, l4] (.int x :: s) h := rf_pure (i := .iload_n 1) (len := 1) (okD_ok (by decide +kernel)) rfl
theorem e234_24 : rf d 234 24 [l0, l1, some (.int x), l3, l4] s h = rf d 234 25 [l0, l1, some (.int x), l3, l4] (.int x :: s) h := rf_pure (i := .iload_n 2) (len := 1) (okD_ok (by decide +kernel)) rfl
theorem e234_25 : rf d 234 25 ls s h = rf d 234 26 ls (.int (-1) :: s) h := rf_pure (i := .iconst (-1)) (len := 1) (okD_ok (by decide +kernel)) rfl
theorem e234_26 : rf d 234 26 ls (.int y :: .int x :: s) h = rf d 234 27 ls (.int (x ^^^ y) :: s) h := rf_pure (i := .ixor) (len := 1) (okD_ok (by decide +kernel)) rfl
theorem e234_27 : rf d 234 27 ls (.int y :: .int x :: s) h = rf d 234 28 ls (.int (x &&& y) :: s) h := rf_pure (i := .iand) (len := 1) (okD_ok (by decide +kernel)) rfl
theorem e234_28 : rf d 234 28 [l0, l1, l2, l3, some (.int x)] s h = rf d 234 30 [l0, l1, l2, l3, some (.int x)] (.int x :: s) h := rf_pure (i := .iload 4) (len := 2) (okD_ok (by decide +kernel)) rfl
theorem e234_30 : rf d 234 30 ls (.int y :: .int x :: s) h = rf d 234 31 ls (.int (x ||| y) :: s) h := rf_pure (i := .ior) (len := 1) (okD_ok (by decide +kernel)) rfl
theorem e234_31 (q : ia n a j) : rf d 234 31 ls (.int j :: .ref a :: s) (SH n, I, L, R, nc, ns, nx) = rf d 234 32 ls (.int (I a j.toNatClampNeg) :: s) (SH n, I, L, R, nc, ns, nx) := g_ial (by decide +kernel) q
theorem e234_32 : rf d 234 32 [l0, l1, l2, some (.int x), l4] s h = rf d 234 33 [l0, l1, l2, some (.int x), l4] (.int x :: s) h := rf_pure (i := .iload_n 3) (len := 1) (okD_ok (by decide +kernel)) rfl
theorem e234_33 : rf d 234 33 ls (.int y :: .int x :: s) h = if x = y then rf d 234 38 ls s h else rf d 234 36 ls s h := g_ic (c := .eq) (off := 5) _ (by decide +kernel) rfl cmp_d
theorem e234_36 : rf d 234 36 ls s h = rf d 234 37 ls (.int (-1) :: s) h := rf_pure (i := .iconst (-1)) (len := 1) (okD_ok (by decide +kernel)) rfl
theorem e234_37 : rf d 234 37 ls [.int x] h = some (.inl (some (.int x)), h) := g_ri (by decide +kernel) rt234
theorem e234_38 : rf d 234 38 [l0, l1, l2, l3, some (.int x)] s h = rf d 234 40 [l0, l1, l2, l3, some (.int x)] (.int x :: s) h := rf_pure (i := .iload 4) (len := 2) (okD_ok (by decide +kernel)) rfl
theorem e234_40 : rf d 234 40 ls s h = rf d 234 41 ls (.int 1 :: s) h := rf_pure (i := .iconst (1)) (len := 1) (okD_ok (by decide +kernel)) rfl
theorem e234_41 : rf d 234 41 ls (.int y :: .int x :: s) h = rf d 234 42 ls (.int (x - y) :: s) h := rf_pure (i := .isub) (len := 1) (okD_ok (by decide +kernel)) rfl
theorem e234_42 : rf d 234 42 [l0, l1, some (.int x), l3, l4] s h = rf d 234 43 [l0, l1, some (.int x), l3, l4] (.int x :: s) h := rf_pure (i := .iload_n 2) (len := 1) (okD_ok (by decide +kernel)) rfl
theorem e234_43 : rf d 234 43 ls (.int y :: .int x :: s) h = rf d 234 44 ls (.int (x &&& y) :: s) h := rf_pure (i := .iand) (len := 1) (okD_ok (by decide +kernel)) rfl
theorem e234_44 (hn : ip_nl l3 = true) : rf d 234 44 [l0, l1, l2, l3, l4] (.int x :: s) h = rf d 234 46 [l0, l1, l2, l3, some (.int x)] s h := g_sti (i := .istore 4) (len := 2) (q := 3) (p := 2) (by decide +kernel) rfl rfl hn
theorem e234_46 : rf d 234 46 ls s h = rf d 234 14 ls s h := rf_goto ⟨okD_ok (i := .goto (-32)) (len := 3) (by decide +kernel), rfl⟩
theorem e234_49 : rf d 234 49 [l0, l1, l2, some (.int x), l4] s h = rf d 234 50 [l0, l1, l2, some (.int x), l4] (.int x :: s) h := rf_pure (i := .iload_n 3) (len := 1) (okD_ok (by decide +kernel)) rfl
theorem e234_50 : rf d 234 50 ls [.int x] h = some (.inl (some (.int x)), h) := g_ri (by decide +kernel) rt234
theorem en235 : cf d 235 [.ref a, .int x0, .int x1] h = rf d 235 0 [some (.ref a), some (.int x0), some (.int x1), none, none] [] h := rfl
theorem e235_0 : rf d 235 0 ls s h = rf d 235 1 ls (.int 0 :: s) h := rf_pure (i := .iconst (0)) (len := 1) (okD_ok (by decide +kernel)) rfl
theorem e235_1 (hn : ip_nl l2 = true) : rf d 235 1 [l0, l1, l2, l3, l4] (.int x :: s) h = rf d 235 2 [l0, l1, l2, some (.int x), l4] s h := g_sti (i := .istore_n 3) (len := 1) (q := 2) (p := 1) (by decide +kernel) rfl rfl hn
theorem e235_2 : rf d 235 2 ls s h = rf d 235 3 ls (.int 0 :: s) h := rf_pure (i := .iconst (0)) (len := 1) (okD_ok (by decide +kernel)) rfl
theorem e235_3 (hn : ip_nl l3 = true) : rf d 235 3 [l0, l1, l2, l3, l4] (.int x :: s) h = rf d 235 5 [l0, l1, l2, l3, some (.int x)] s h := g_sti (i := .istore 4) (len := 2) (q := 3) (p := 2) (by decide +kernel) rfl rfl hn
theorem e235_5 : rf d 235 5 [l0, l1, l2, l3, some (.int x)] s h = rf d 235 7 [l0, l1, l2, l3, some (.int x)] (.int x :: s) h := rf_pure (i := .iload 4) (len := 2) (okD_ok (by decide +kernel)) rfl
theorem e235_7 : rf d 235 7 [some (.ref a), l1, l2, l3, l4] s h = rf d 235 8 [some (.ref a), l1, l2, l3, l4] (.ref a :: s) h := rf_pure (i := .aload_n 0) (len := 1) (okD_ok (by decide +kernel)) rfl
theorem e235_8 : rf d 235 8 ls (.ref 265 :: s) (SH n, I, L, R, nc, ns, nx) = rf d 235 11 ls (.int (I 265 17) :: s) (SH n, I, L, R, nc, ns, nx) := g_I (idx := 291) (by decide +kernel) ow235 f_8_291 rfl rfl (by decide)
theorem e235_11 : rf d 235 11 ls (.int y :: .int x :: s) h = if y ≤ x then rf d 235 42 ls s h else rf d 235 14 ls s h := g_ic (c := .ge) (off := 31) _ (by decide +kernel) rfl cmp_d
theorem e235_14 : rf d 235 14 [l0, l1, l2, some (.int x), l4] s h = rf d 235 15 [l0, l1, l2, some (.int x), l4] (.int x :: s) h := rf_pure (i := .iload_n 3) (len := 1) (okD_ok (by decide +kernel)) rfl
theorem e235_15 : rf d 235 15 [some (.ref a), l1, l2, l3, l4] s h = rf d 235 16 [some (.ref a), l1, l2, l3, l4] (.ref a :: s) h := rf_pure (i := .aload_n 0) (len := 1) (okD_ok (by decide +kernel)) rfl
theorem e235_16 : rf d 235 16 [l0, l1, l2, l3, some (.int x)] s h = rf d 235 18 [l0, l1, l2, l3, some (.int x)] (.int x :: s) h := rf_pure (i := .iload 4) (len := 2) (okD_ok (by decide +kernel)) rfl
theorem e235_18 : rf d 235 18 [l0, some (.int x), l2, l3, l4] s h = rf d 235 19 [l0, some (.int x), l2, l3, l4] (.int x :: s) h := rf_pure (i := .iload_n 1) (len := 1) (okD_ok (by decide +kernel)) rfl
theorem e235_19 : rf d 235 19 [l0, l1, some (.int x), l3, l4] s h = rf d 235 20 [l0, l1, some (.int x), l3, l4] (.int x :: s) h := rf_pure (i := .iload_n 2) (len := 1) (okD_ok (by decide +kernel)) rfl
theorem e235_20 (hcat : ip_cat s ≤ 8) : rf (d + 1) 235 20 ls (.int x2 :: .int x1 :: .int x0 :: .ref 265 :: s) (SH n, I, L, R, nc, ns, nx) = rf_k (d + 1) 235 20 ls s (cf d 236 [.ref 265, .int x0, .int x1, .int x2] (SH n, I, L, R, nc, ns, nx)) := g_cv (idx := 343) (t := 8) [.int x2, .int x1, .int x0] (by decide +kernel) ow235 ms_8_343 mt_8_343 cy236_8 rfl rfl mL236 rfl rfl (by decide) hcat
theorem e235_23 : rf d 235 23 ls (.int x :: s) h = if ¬ x = 0 then rf d 235 33 ls s h else rf d 235 26 ls s h := g_if (c := .ne) (off := 10) _ (by decide +kernel) rfl cmp_d
theorem e235_26 : rf d 235 26 ls s h = rf d 235 27 ls (.int 1 :: s) h := rf_pure (i := .iconst (1)) (len := 1) (okD_ok (by decide +kernel)) rfl
theorem e235_27 : rf d 235 27 [l0, l1, l2, l3, some (.int x)] s h = rf d 235 29 [l0, l1, l2, l3, some (.int x)] (.int x :: s) h := rf_pure (i := .iload 4) (len := 2) (okD_ok (by decide +kernel)) rfl
theorem e235_29 : rf d 235 29 ls (.int y :: .int x :: s) h = rf d 235 30 ls (.int (x <<< (y &&& 31)) :: s) h := rf_pure (i := .ishl) (len := 1) (okD_ok (by decide +kernel)) rfl
theorem e235_30 : rf d 235 30 ls s h = rf d 235 34 ls s h := rf_goto ⟨okD_ok (i := .goto (4)) (len := 3) (by decide +kernel), rfl⟩
theorem e235_33 : rf d 235 33 ls s h = rf d 235 34 ls (.int 0 :: s) h := rf_pure (i := .iconst (0)) (len := 1) (okD_ok (by decide +kernel)) rfl
theorem e235_34 : rf d 235 34 ls (.int y :: .int x :: s) h = rf d 235 35 ls (.int (x ||| y) :: s) h := rf_pure (i := .ior) (len := 1) (okD_ok (by decide +kernel)) rfl
theorem e235_35 (hn : ip_nl l2 = true) : rf d 235 35 [l0, l1, l2, l3, l4] (.int x :: s) h = rf d 235 36 [l0, l1, l2, some (.int x), l4] s h := g_sti (i := .istore_n 3) (len := 1) (q := 2) (p := 1) (by decide +kernel) rfl rfl hn
theorem e235_36 (hn : ip_nl l3 = true) : rf d 235 36 [l0, l1, l2, l3, some (.int x)] s h = rf d 235 39 [l0, l1, l2, l3, some (.int (x + 1))] s h := g_inc (q := 3) (z := 1) (w := 1) (x := x) (by decide) (by decide +kernel) rfl rfl hn
theorem e235_39 : rf d 235 39 ls s h = rf d 235 5 ls s h := rf_goto ⟨okD_ok (i := .goto (-34)) (len := 3) (by decide +kernel), rfl⟩
theorem e235_42 : rf d 235 42 [l0, l1, l2, some (.int x), l4] s h = rf d 235 43 [l0, l1, l2, some (.int x), l4] (.int x :: s) h := rf_pure (i := .iload_n 3) (len := 1) (okD_ok (by decide +kernel)) rfl
theorem e235_43 : rf d 235 43 ls [.int x] h = some (.inl (some (.int x)), h) := g_ri (by decide +kernel) rt235
theorem en236 : cf d 236 [.ref a, .int x0, .int x1, .int x2] h = rf d 236 0 [some (.ref a), some (.int x0), some (.int x1), some (.int x2), none, none, none] [] h := rfl
theorem e236_0 : rf d 236 0 [some (.ref a), l1, l2, l3, l4, l5, l6] s h = rf d 236 1 [some (.ref a), l1, l2, l3, l4, l5, l6] (.ref a :: s) h := rf_pure (i := .aload_n 0) (len := 1) (okD_ok (by decide +kernel)) rfl
theorem e236_1 : rf d 236 1 [some (.ref a), l1, l2, l3, l4, l5, l6] s h = rf d 236 2 [some (.ref a), l1, l2, l3, l4, l5, l6] (.ref a :: s) h := rf_pure (i := .aload_n 0) (len := 1) (okD_ok (by decide +kernel)) rfl
theorem e236_2 : rf d 236 2 ls (.ref 265 :: s) (SH n, I, L, R, nc, ns, nx) = rf d 236 5 ls (.int (I 265 38) :: s) (SH n, I, L, R, nc, ns, nx) := g_I (idx := 306) (by decide +kernel) ow236 f_8_306 rfl rfl (by decide)
theorem e236_5 : rf d 236 5 [l0, some (.int x), l2, l3, l4, l5, l6] s h = rf d 236 6 [l0, some (.int x), l2, l3, l4, l5, l6] (.int x :: s) h := rf_pure (i := .iload_n 1) (len := 1) (okD_ok (by decide +kernel)) rfl
theorem e236_6 : rf d 236 6 [l0, l1, some (.int x), l3, l4, l5, l6] s h = rf d 236 7 [l0, l1, some (.int x), l3, l4, l5, l6] (.int x :: s) h := rf_pure (i := .iload_n 2) (len := 1) (okD_ok (by decide +kernel)) rfl
theorem e236_7 (hcat : ip_cat s ≤ 8) : rf (d + 1) 236 7 ls (.int x2 :: .int x1 :: .int x0 :: .ref 265 :: s) (SH n, I, L, R, nc, ns, nx) = rf_k (d + 1) 236 7 ls s (cf d 228 [.ref 265, .int x0, .int x1, .int x2] (SH n, I, L, R, nc, ns, nx)) := g_cv (idx := 336) (t := 8) [.int x2, .int x1, .int x0] (by decide +kernel) ow236 ms_8_336 mt_8_336 cy228_8 rfl rfl mL228 rfl rfl (by decide) hcat
theorem e236_10 : rf d 236 10 ls (.int x :: s) h = if ¬ x = 0 then rf d 236 15 ls s h else rf d 236 13 ls s h := g_if (c := .ne) (off := 5) _ (by decide +kernel) rfl cmp_d
theorem e236_13 : rf d 236 13 ls s h = rf d 236 14 ls (.int 1 :: s) h := rf_pure (i := .iconst (1)) (len := 1) (okD_ok (by decide +kernel)) rfl
theorem e236_14 : rf d 236 14 ls [.int x] h = some (.inl (some (.int x)), h) := g_ri (by decide +kernel) rt236
theorem e236_15 : rf d 236 15 [some (.ref a), l1, l2, l3, l4, l5, l6] s h = rf d 236 16 [some (.ref a), l1, l2, l3, l4, l5, l6] (.ref a :: s) h := rf_pure (i := .aload_n 0) (len := 1) (okD_ok (by decide +kernel)) rfl
theorem e236_16 (hR : LYR R) : rf d 236 16 ls (.ref 265 :: s) (SH n, I, L, R, nc, ns, nx) = rf d 236 19 ls (.ref 302 :: s) (SH n, I, L, R, nc, ns, nx) := g_R (idx := 124) (by decide +kernel) ow236 f_8_124 rfl rfl (by decide) (ly_265_52 hR)
theorem e236_19 : rf d 236 19 ls s h = rf d 236 21 ls (.int 8 :: s) h := rf_pure (i := .bipush (8)) (len := 2) (okD_ok (by decide +kernel)) rfl
theorem e236_21 : rf d 236 21 [some (.ref a), l1, l2, l3, l4, l5, l6] s h = rf d 236 22 [some (.ref a), l1, l2, l3, l4, l5, l6] (.ref a :: s) h := rf_pure (i := .aload_n 0) (len := 1) (okD_ok (by decide +kernel)) rfl
theorem e236_22 : rf d 236 22 ls (.ref 265 :: s) (SH n, I, L, R, nc, ns, nx) = rf d 236 25 ls (.int (I 265 38) :: s) (SH n, I, L, R, nc, ns, nx) := g_I (idx := 306) (by decide +kernel) ow236 f_8_306 rfl rfl (by decide)
theorem e236_25 : rf d 236 25 ls (.int y :: .int x :: s) h = rf d 236 26 ls (.int (x * y) :: s) h := rf_pure (i := .imul) (len := 1) (okD_ok (by decide +kernel)) rfl
theorem e236_26 : rf d 236 26 [l0, some (.int x), l2, l3, l4, l5, l6] s h = rf d 236 27 [l0, some (.int x), l2, l3, l4, l5, l6] (.int x :: s) h := rf_pure (i := .iload_n 1) (len := 1) (okD_ok (by decide +kernel)) rfl
theorem e236_27 : rf d 236 27 ls (.int y :: .int x :: s) h = rf d 236 28 ls (.int (x + y) :: s) h := rf_pure (i := .iadd) (len := 1) (okD_ok (by decide +kernel)) rfl
theorem e236_28 (q : ia n a j) : rf d 236 28 ls (.int j :: .ref a :: s) (SH n, I, L, R, nc, ns, nx) = rf d 236 29 ls (.int (I a j.toNatClampNeg) :: s) (SH n, I, L, R, nc, ns, nx) := g_ial (by decide +kernel) q
theorem e236_29 (hn : ip_nl l3 = true) : rf d 236 29 [l0, l1, l2, l3, l4, l5, l6] (.int x :: s) h = rf d 236 31 [l0, l1, l2, l3, some (.int x), l5, l6] s h := g_sti (i := .istore 4) (len := 2) (q := 3) (p := 2) (by decide +kernel) rfl rfl hn
theorem e236_31 : rf d 236 31 [l0, l1, l2, some (.int x), l4, l5, l6] s h = rf d 236 32 [l0, l1, l2, some (.int x), l4, l5, l6] (.int x :: s) h := rf_pure (i := .iload_n 3) (len := 1) (okD_ok (by decide +kernel)) rfl
theorem e236_32 : rf d 236 32 ls s h = rf d 236 33 ls (.int 2 :: s) h := rf_pure (i := .iconst (2)) (len := 1) (okD_ok (by decide +kernel)) rfl
theorem e236_33 : rf d 236 33 ls (.int y :: .int x :: s) h = if ¬ x = y then rf d 236 53 ls s h else rf d 236 36 ls s h := g_ic (c := .ne) (off := 20) _ (by decide +kernel) rfl cmp_d
theorem e236_36 : rf d 236 36 [some (.ref a), l1, l2, l3, l4, l5, l6] s h = rf d 236 37 [some (.ref a), l1, l2, l3, l4, l5, l6] (.ref a :: s) h := rf_pure (i := .aload_n 0) (len := 1) (okD_ok (by decide +kernel)) rfl
theorem e236_37 (hR : LYR R) : rf d 236 37 ls (.ref 265 :: s) (SH n, I, L, R, nc, ns, nx) = rf d 236 40 ls (.ref 294 :: s) (SH n, I, L, R, nc, ns, nx) := g_R (idx := 100) (by decide +kernel) ow236 f_8_100 rfl rfl (by decide) (ly_265_44 hR)
theorem e236_40 : rf d 236 40 [some (.ref a), l1, l2, l3, l4, l5, l6] s h = rf d 236 41 [some (.ref a), l1, l2, l3, l4, l5, l6] (.ref a :: s) h := rf_pure (i := .aload_n 0) (len := 1) (okD_ok (by decide +kernel)) rfl
theorem e236_41 (hR : LYR R) : rf d 236 41 ls (.ref 265 :: s) (SH n, I, L, R, nc, ns, nx) = rf d 236 44 ls (.ref 290 :: s) (SH n, I, L, R, nc, ns, nx) := g_R (idx := 88) (by decide +kernel) ow236 f_8_88 rfl rfl (by decide) (ly_265_40 hR)
theorem e236_44 : rf d 236 44 [some (.ref a), l1, l2, l3, l4, l5, l6] s h = rf d 236 45 [some (.ref a), l1, l2, l3, l4, l5, l6] (.ref a :: s) h := rf_pure (i := .aload_n 0) (len := 1) (okD_ok (by decide +kernel)) rfl
theorem e236_45 : rf d 236 45 ls (.ref 265 :: s) (SH n, I, L, R, nc, ns, nx) = rf d 236 48 ls (.int (I 265 38) :: s) (SH n, I, L, R, nc, ns, nx) := g_I (idx := 306) (by decide +kernel) ow236 f_8_306 rfl rfl (by decide)
theorem e236_48 (q : ia n a j) : rf d 236 48 ls (.int j :: .ref a :: s) (SH n, I, L, R, nc, ns, nx) = rf d 236 49 ls (.int (I a j.toNatClampNeg) :: s) (SH n, I, L, R, nc, ns, nx) := g_ial (by decide +kernel) q
theorem e236_49 (q : ia n a j) : rf d 236 49 ls (.int j :: .ref a :: s) (SH n, I, L, R, nc, ns, nx) = rf d 236 50 ls (.int (I a j.toNatClampNeg) :: s) (SH n, I, L, R, nc, ns, nx) := g_ial (by decide +kernel) q
theorem e236_50 : rf d 236 50 ls s h = rf d 236 62 ls s h := rf_goto ⟨okD_ok (i := .goto (12)) (len := 3) (by decide +kernel), rfl⟩
theorem e236_53 : rf d 236 53 [some (.ref a), l1, l2, l3, l4, l5, l6] s h = rf d 236 54 [some (.ref a), l1, l2, l3, l4, l5, l6] (.ref a :: s) h := rf_pure (i := .aload_n 0) (len := 1) (okD_ok (by decide +kernel)) rfl
theorem e236_54 (hR : LYR R) : rf d 236 54 ls (.ref 265 :: s) (SH n, I, L, R, nc, ns, nx) = rf d 236 57 ls (.ref 294 :: s) (SH n, I, L, R, nc, ns, nx) := g_R (idx := 100) (by decide +kernel) ow236 f_8_100 rfl rfl (by decide) (ly_265_44 hR)
theorem e236_57 : rf d 236 57 [some (.ref a), l1, l2, l3, l4, l5, l6] s h = rf d 236 58 [some (.ref a), l1, l2, l3, l4, l5, l6] (.ref a :: s) h := rf_pure (i := .aload_n 0) (len := 1) (okD_ok (by decide +kernel)) rfl
theorem e236_58 : rf d 236 58 ls (.ref 265 :: s) (SH n, I, L, R, nc, ns, nx) = rf d 236 61 ls (.int (I 265 38) :: s) (SH n, I, L, R, nc, ns, nx) := g_I (idx := 306) (by decide +kernel) ow236 f_8_306 rfl rfl (by decide)
theorem e236_61 (q : ia n a j) : rf d 236 61 ls (.int j :: .ref a :: s) (SH n, I, L, R, nc, ns, nx) = rf d 236 62 ls (.int (I a j.toNatClampNeg) :: s) (SH n, I, L, R, nc, ns, nx) := g_ial (by decide +kernel) q
theorem e236_62 (hn : ip_nl l4 = true) : rf d 236 62 [l0, l1, l2, l3, l4, l5, l6] (.int x :: s) h = rf d 236 64 [l0, l1, l2, l3, l4, some (.int x), l6] s h := g_sti (i := .istore 5) (len := 2) (q := 4) (p := 2) (by decide +kernel) rfl rfl hn
theorem e236_64 : rf d 236 64 [l0, l1, l2, l3, l4, some (.int x), l6] s h = rf d 236 66 [l0, l1, l2, l3, l4, some (.int x), l6] (.int x :: s) h := rf_pure (i := .iload 5) (len := 2) (okD_ok (by decide +kernel)) rfl
theorem e236_66 : rf d 236 66 [l0, some (.int x), l2, l3, l4, l5, l6] s h = rf d 236 67 [l0, some (.int x), l2, l3, l4, l5, l6] (.int x :: s) h := rf_pure (i := .iload_n 1) (len := 1) (okD_ok (by decide +kernel)) rfl
theorem e236_67 (hcat : ip_cat s ≤ 8) : rf (d + 1) 236 67 ls (.int x1 :: .int x0 :: s) h = rf_k (d + 1) 236 67 ls s (cf d 186 [.int x0, .int x1] h) := g_cs (idx := 234) [.int x1, .int x0] (by decide +kernel) ow236 ms_8_234 mt_8_234 (by decide) rfl mL186 rfl hcat
theorem e236_70 : rf d 236 70 ls (.int x :: s) h = if x = 0 then rf d 236 98 ls s h else rf d 236 73 ls s h := g_if (c := .eq) (off := 28) _ (by decide +kernel) rfl cmp_d
theorem e236_73 : rf d 236 73 [some (.ref a), l1, l2, l3, l4, l5, l6] s h = rf d 236 74 [some (.ref a), l1, l2, l3, l4, l5, l6] (.ref a :: s) h := rf_pure (i := .aload_n 0) (len := 1) (okD_ok (by decide +kernel)) rfl
theorem e236_74 (hR : LYR R) : rf d 236 74 ls (.ref 265 :: s) (SH n, I, L, R, nc, ns, nx) = rf d 236 77 ls (.ref 295 :: s) (SH n, I, L, R, nc, ns, nx) := g_R (idx := 103) (by decide +kernel) ow236 f_8_103 rfl rfl (by decide) (ly_265_45 hR)
theorem e236_77 : rf d 236 77 [some (.ref a), l1, l2, l3, l4, l5, l6] s h = rf d 236 78 [some (.ref a), l1, l2, l3, l4, l5, l6] (.ref a :: s) h := rf_pure (i := .aload_n 0) (len := 1) (okD_ok (by decide +kernel)) rfl
theorem e236_78 : rf d 236 78 ls (.ref 265 :: s) (SH n, I, L, R, nc, ns, nx) = rf d 236 81 ls (.int (I 265 38) :: s) (SH n, I, L, R, nc, ns, nx) := g_I (idx := 306) (by decide +kernel) ow236 f_8_306 rfl rfl (by decide)
theorem e236_81 (q : ia n a j) : rf d 236 81 ls (.int j :: .ref a :: s) (SH n, I, L, R, nc, ns, nx) = rf d 236 82 ls (.int (I a j.toNatClampNeg) :: s) (SH n, I, L, R, nc, ns, nx) := g_ial (by decide +kernel) q
theorem e236_82 : rf d 236 82 [l0, some (.int x), l2, l3, l4, l5, l6] s h = rf d 236 83 [l0, some (.int x), l2, l3, l4, l5, l6] (.int x :: s) h := rf_pure (i := .iload_n 1) (len := 1) (okD_ok (by decide +kernel)) rfl
theorem e236_83 (hcat : ip_cat s ≤ 8) : rf (d + 1) 236 83 ls (.int x1 :: .int x0 :: s) h = rf_k (d + 1) 236 83 ls s (cf d 186 [.int x0, .int x1] h) := g_cs (idx := 234) [.int x1, .int x0] (by decide +kernel) ow236 ms_8_234 mt_8_234 (by decide) rfl mL186 rfl hcat
theorem e236_86 : rf d 236 86 ls (.int x :: s) h = if ¬ x = 0 then rf d 236 98 ls s h else rf d 236 89 ls s h := g_if (c := .ne) (off := 12) _ (by decide +kernel) rfl cmp_d
theorem e236_89 : rf d 236 89 [l0, l1, l2, l3, some (.int x), l5, l6] s h = rf d 236 91 [l0, l1, l2, l3, some (.int x), l5, l6] (.int x :: s) h := rf_pure (i := .iload 4) (len := 2) (okD_ok (by decide +kernel)) rfl
theorem e236_91 : rf d 236 91 ls s h = rf d 236 93 ls (.int 9 :: s) h := rf_pure (i := .bipush (9)) (len := 2) (okD_ok (by decide +kernel)) rfl
theorem e236_93 : rf d 236 93 ls (.int y :: .int x :: s) h = if x = y then rf d 236 98 ls s h else rf d 236 96 ls s h := g_ic (c := .eq) (off := 5) _ (by decide +kernel) rfl cmp_d
theorem e236_96 : rf d 236 96 ls s h = rf d 236 97 ls (.int 2 :: s) h := rf_pure (i := .iconst (2)) (len := 1) (okD_ok (by decide +kernel)) rfl
theorem e236_97 : rf d 236 97 ls [.int x] h = some (.inl (some (.int x)), h) := g_ri (by decide +kernel) rt236
theorem e236_98 : rf d 236 98 [some (.ref a), l1, l2, l3, l4, l5, l6] s h = rf d 236 99 [some (.ref a), l1, l2, l3, l4, l5, l6] (.ref a :: s) h := rf_pure (i := .aload_n 0) (len := 1) (okD_ok (by decide +kernel)) rfl
theorem e236_99 (hR : LYR R) : rf d 236 99 ls (.ref 265 :: s) (SH n, I, L, R, nc, ns, nx) = rf d 236 102 ls (.ref 301 :: s) (SH n, I, L, R, nc, ns, nx) := g_R (idx := 121) (by decide +kernel) ow236 f_8_121 rfl rfl (by decide) (ly_265_51 hR)
theorem e236_102 : rf d 236 102 ls s h = rf d 236 103 ls (.int 2 :: s) h := rf_pure (i := .iconst (2)) (len := 1) (okD_ok (by decide +kernel)) rfl
theorem e236_103 : rf d 236 103 [some (.ref a), l1, l2, l3, l4, l5, l6] s h = rf d 236 104 [some (.ref a), l1, l2, l3, l4, l5, l6] (.ref a :: s) h := rf_pure (i := .aload_n 0) (len := 1) (okD_ok (by decide +kernel)) rfl
theorem e236_104 : rf d 236 104 ls (.ref 265 :: s) (SH n, I, L, R, nc, ns, nx) = rf d 236 107 ls (.int (I 265 38) :: s) (SH n, I, L, R, nc, ns, nx) := g_I (idx := 306) (by decide +kernel) ow236 f_8_306 rfl rfl (by decide)
theorem e236_107 : rf d 236 107 ls (.int y :: .int x :: s) h = rf d 236 108 ls (.int (x * y) :: s) h := rf_pure (i := .imul) (len := 1) (okD_ok (by decide +kernel)) rfl
theorem e236_108 : rf d 236 108 [l0, l1, some (.int x), l3, l4, l5, l6] s h = rf d 236 109 [l0, l1, some (.int x), l3, l4, l5, l6] (.int x :: s) h := rf_pure (i := .iload_n 2) (len := 1) (okD_ok (by decide +kernel)) rfl
theorem e236_109 : rf d 236 109 ls (.int y :: .int x :: s) h = rf d 236 110 ls (.int (x + y) :: s) h := rf_pure (i := .iadd) (len := 1) (okD_ok (by decide +kernel)) rfl
theorem e236_110 (q : ia n a j) : rf d 236 110 ls (.int j :: .ref a :: s) (SH n, I, L, R, nc, ns, nx) = rf d 236 111 ls (.int (I a j.toNatClampNeg) :: s) (SH n, I, L, R, nc, ns, nx) := g_ial (by decide +kernel) q
theorem e236_111 : rf d 236 111 [l0, some (.int x), l2, l3, l4, l5, l6] s h = rf d 236 112 [l0, some (.int x), l2, l3, l4, l5, l6] (.int x :: s) h := rf_pure (i := .iload_n 1) (len := 1) (okD_ok (by decide +kernel)) rfl
theorem e236_112 (hcat : ip_cat s ≤ 8) : rf (d + 1) 236 112 ls (.int x1 :: .int x0 :: s) h = rf_k (d + 1) 236 112 ls s (cf d 186 [.int x0, .int x1] h) := g_cs (idx := 234) [.int x1, .int x0] (by decide +kernel) ow236 ms_8_234 mt_8_234 (by decide) rfl mL186 rfl hcat
theorem e236_115 (hn : ip_nl l5 = true) : rf d 236 115 [l0, l1, l2, l3, l4, l5, l6] (.int x :: s) h = rf d 236 117 [l0, l1, l2, l3, l4, l5, some (.int x)] s h := g_sti (i := .istore 6) (len := 2) (q := 5) (p := 2) (by decide +kernel) rfl rfl hn
theorem e236_117 : rf d 236 117 [l0, l1, l2, some (.int x), l4, l5, l6] s h = rf d 236 118 [l0, l1, l2, some (.int x), l4, l5, l6] (.int x :: s) h := rf_pure (i := .iload_n 3) (len := 1) (okD_ok (by decide +kernel)) rfl
theorem e236_118 : rf d 236 118 ls s h = rf d 236 119 ls (.int 2 :: s) h := rf_pure (i := .iconst (2)) (len := 1) (okD_ok (by decide +kernel)) rfl
theorem e236_119 : rf d 236 119 ls (.int y :: .int x :: s) h = if ¬ x = y then rf d 236 170 ls s h else rf d 236 122 ls s h := g_ic (c := .ne) (off := 51) _ (by decide +kernel) rfl cmp_d
theorem e236_122 : rf d 236 122 [l0, l1, l2, l3, l4, l5, some (.int x)] s h = rf d 236 124 [l0, l1, l2, l3, l4, l5, some (.int x)] (.int x :: s) h := rf_pure (i := .iload 6) (len := 2) (okD_ok (by decide +kernel)) rfl
theorem e236_124 : rf d 236 124 ls (.int x :: s) h = if x = 0 then rf d 236 147 ls s h else rf d 236 127 ls s h := g_if (c := .eq) (off := 23) _ (by decide +kernel) rfl cmp_d
theorem e236_127 : rf d 236 127 [some (.ref a), l1, l2, l3, l4, l5, l6] s h = rf d 236 128 [some (.ref a), l1, l2, l3, l4, l5, l6] (.ref a :: s) h := rf_pure (i := .aload_n 0) (len := 1) (okD_ok (by decide +kernel)) rfl
theorem e236_128 (hR : LYR R) : rf d 236 128 ls (.ref 265 :: s) (SH n, I, L, R, nc, ns, nx) = rf d 236 131 ls (.ref 300 :: s) (SH n, I, L, R, nc, ns, nx) := g_R (idx := 118) (by decide +kernel) ow236 f_8_118 rfl rfl (by decide) (ly_265_50 hR)
theorem e236_131 : rf d 236 131 ls s h = rf d 236 132 ls (.int 2 :: s) h := rf_pure (i := .iconst (2)) (len := 1) (okD_ok (by decide +kernel)) rfl
theorem e236_132 : rf d 236 132 [some (.ref a), l1, l2, l3, l4, l5, l6] s h = rf d 236 133 [some (.ref a), l1, l2, l3, l4, l5, l6] (.ref a :: s) h := rf_pure (i := .aload_n 0) (len := 1) (okD_ok (by decide +kernel)) rfl
theorem e236_133 : rf d 236 133 ls (.ref 265 :: s) (SH n, I, L, R, nc, ns, nx) = rf d 236 136 ls (.int (I 265 38) :: s) (SH n, I, L, R, nc, ns, nx) := g_I (idx := 306) (by decide +kernel) ow236 f_8_306 rfl rfl (by decide)
theorem e236_136 : rf d 236 136 ls (.int y :: .int x :: s) h = rf d 236 137 ls (.int (x * y) :: s) h := rf_pure (i := .imul) (len := 1) (okD_ok (by decide +kernel)) rfl
theorem e236_137 : rf d 236 137 [l0, l1, some (.int x), l3, l4, l5, l6] s h = rf d 236 138 [l0, l1, some (.int x), l3, l4, l5, l6] (.int x :: s) h := rf_pure (i := .iload_n 2) (len := 1) (okD_ok (by decide +kernel)) rfl
theorem e236_138 : rf d 236 138 ls (.int y :: .int x :: s) h = rf d 236 139 ls (.int (x + y) :: s) h := rf_pure (i := .iadd) (len := 1) (okD_ok (by decide +kernel)) rfl
theorem e236_139 (q : ia n a j) : rf d 236 139 ls (.int j :: .ref a :: s) (SH n, I, L, R, nc, ns, nx) = rf d 236 140 ls (.int (I a j.toNatClampNeg) :: s) (SH n, I, L, R, nc, ns, nx) := g_ial (by decide +kernel) q
theorem e236_140 : rf d 236 140 [l0, some (.int x), l2, l3, l4, l5, l6] s h = rf d 236 141 [l0, some (.int x), l2, l3, l4, l5, l6] (.int x :: s) h := rf_pure (i := .iload_n 1) (len := 1) (okD_ok (by decide +kernel)) rfl
theorem e236_141 (hcat : ip_cat s ≤ 8) : rf (d + 1) 236 141 ls (.int x1 :: .int x0 :: s) h = rf_k (d + 1) 236 141 ls s (cf d 186 [.int x0, .int x1] h) := g_cs (idx := 234) [.int x1, .int x0] (by decide +kernel) ow236 ms_8_234 mt_8_234 (by decide) rfl mL186 rfl hcat
theorem e236_144 : rf d 236 144 ls (.int x :: s) h = if ¬ x = 0 then rf d 236 163 ls s h else rf d 236 147 ls s h := g_if (c := .ne) (off := 19) _ (by decide +kernel) rfl cmp_d
theorem e236_147 : rf d 236 147 [some (.ref a), l1, l2, l3, l4, l5, l6] s h = rf d 236 148 [some (.ref a), l1, l2, l3, l4, l5, l6] (.ref a :: s) h := rf_pure (i := .aload_n 0) (len := 1) (okD_ok (by decide +kernel)) rfl
theorem e236_148 (hR : LYR R) : rf d 236 148 ls (.ref 265 :: s) (SH n, I, L, R, nc, ns, nx) = rf d 236 151 ls (.ref 298 :: s) (SH n, I, L, R, nc, ns, nx) := g_R (idx := 112) (by decide +kernel) ow236 f_8_112 rfl rfl (by decide) (ly_265_48 hR)
theorem e236_151 : rf d 236 151 [some (.ref a), l1, l2, l3, l4, l5, l6] s h = rf d 236 152 [some (.ref a), l1, l2, l3, l4, l5, l6] (.ref a :: s) h := rf_pure (i := .aload_n 0) (len := 1) (okD_ok (by decide +kernel)) rfl
theorem e236_152 : rf d 236 152 ls (.ref 265 :: s) (SH n, I, L, R, nc, ns, nx) = rf d 236 155 ls (.int (I 265 38) :: s) (SH n, I, L, R, nc, ns, nx) := g_I (idx := 306) (by decide +kernel) ow236 f_8_306 rfl rfl (by decide)
theorem e236_155 (q : ia n a j) : rf d 236 155 ls (.int j :: .ref a :: s) (SH n, I, L, R, nc, ns, nx) = rf d 236 156 ls (.int (I a j.toNatClampNeg) :: s) (SH n, I, L, R, nc, ns, nx) := g_ial (by decide +kernel) q
theorem e236_156 : rf d 236 156 [l0, some (.int x), l2, l3, l4, l5, l6] s h = rf d 236 157 [l0, some (.int x), l2, l3, l4, l5, l6] (.int x :: s) h := rf_pure (i := .iload_n 1) (len := 1) (okD_ok (by decide +kernel)) rfl
theorem e236_157 (hcat : ip_cat s ≤ 8) : rf (d + 1) 236 157 ls (.int x1 :: .int x0 :: s) h = rf_k (d + 1) 236 157 ls s (cf d 186 [.int x0, .int x1] h) := g_cs (idx := 234) [.int x1, .int x0] (by decide +kernel) ow236 ms_8_234 mt_8_234 (by decide) rfl mL186 rfl hcat
theorem e236_160 : rf d 236 160 ls (.int x :: s) h = if x = 0 then rf d 236 167 ls s h else rf d 236 163 ls s h := g_if (c := .eq) (off := 7) _ (by decide +kernel) rfl cmp_d
theorem e236_163 : rf d 236 163 ls s h = rf d 236 164 ls (.int 1 :: s) h := rf_pure (i := .iconst (1)) (len := 1) (okD_ok (by decide +kernel)) rfl
theorem e236_164 : rf d 236 164 ls s h = rf d 236 168 ls s h := rf_goto ⟨okD_ok (i := .goto (4)) (len := 3) (by decide +kernel), rfl⟩
theorem e236_167 : rf d 236 167 ls s h = rf d 236 168 ls (.int 0 :: s) h := rf_pure (i := .iconst (0)) (len := 1) (okD_ok (by decide +kernel)) rfl
theorem e236_168 (hn : ip_nl l5 = true) : rf d 236 168 [l0, l1, l2, l3, l4, l5, l6] (.int x :: s) h = rf d 236 170 [l0, l1, l2, l3, l4, l5, some (.int x)] s h := g_sti (i := .istore 6) (len := 2) (q := 5) (p := 2) (by decide +kernel) rfl rfl hn
theorem e236_170 : rf d 236 170 [l0, l1, l2, l3, l4, l5, some (.int x)] s h = rf d 236 172 [l0, l1, l2, l3, l4, l5, some (.int x)] (.int x :: s) h := rf_pure (i := .iload 6) (len := 2) (okD_ok (by decide +kernel)) rfl
theorem e236_172 : rf d 236 172 ls (.int x :: s) h = if ¬ x = 0 then rf d 236 182 ls s h else rf d 236 175 ls s h := g_if (c := .ne) (off := 10) _ (by decide +kernel) rfl cmp_d
theorem e236_175 : rf d 236 175 [l0, l1, l2, l3, some (.int x), l5, l6] s h = rf d 236 177 [l0, l1, l2, l3, some (.int x), l5, l6] (.int x :: s) h := rf_pure (i := .iload 4) (len := 2) (okD_ok (by decide +kernel)) rfl
theorem e236_177 : rf d 236 177 ls s h = rf d 236 179 ls (.int 8 :: s) h := rf_pure (i := .bipush (8)) (len := 2) (okD_ok (by decide +kernel)) rfl
theorem e236_179 : rf d 236 179 ls (.int y :: .int x :: s) h = if x < y then rf d 236 186 ls s h else rf d 236 182 ls s h := g_ic (c := .lt) (off := 7) _ (by decide +kernel) rfl cmp_d
theorem e236_182 : rf d 236 182 ls s h = rf d 236 183 ls (.int 0 :: s) h := rf_pure (i := .iconst (0)) (len := 1) (okD_ok (by decide +kernel)) rfl
theorem e236_183 : rf d 236 183 ls s h = rf d 236 187 ls s h := rf_goto ⟨okD_ok (i := .goto (4)) (len := 3) (by decide +kernel), rfl⟩
theorem e236_186 : rf d 236 186 ls s h = rf d 236 187 ls (.int 3 :: s) h := rf_pure (i := .iconst (3)) (len := 1) (okD_ok (by decide +kernel)) rfl
theorem e236_187 : rf d 236 187 ls [.int x] h = some (.inl (some (.int x)), h) := g_ri (by decide +kernel) rt236
end S07
