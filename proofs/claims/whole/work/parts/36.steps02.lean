/-! STEPS, 2 (printed by wip/whole/gen_steps.py) -/
section S02
variable {n d a b t : Nat} {l0 l1 l2 l3 l4 l5 l6 l7 l8 l9 l10 l11 l12 l13 : Option Value} {ls : List (Option Value)} {s : List Value} {h : ip_H} {I : Nat → Nat → Int32} {L : Nat → Nat → Int64} {R : Nat → Nat → Option Nat} {nc ns : Nat} {nx : Bool} {x y j z sp dp x0 x1 x2 x3 x4 x5 : Int32} {u v u0 u1 u2 u3 : Int64} {a0 a1 a2 a3 a4 : Nat}
theorem en67 : cf d 67 [.ref a, .int x0, .int x1] h = rf d 67 0 [some (.ref a), some (.int x0), some (.int x1), none, none, none] [] h := rfl
theorem e67_0 : rf d 67 0 [l0, l1, some (.int x), l3, l4, l5] s h = rf d 67 1 [l0, l1, some (.int x), l3, l4, l5] (.int x :: s) h := rf_pure (i := .iload_n 2) (len := 1) (okD_ok (by decide +kernel)) rfl
theorem e67_1 : rf d 67 1 ls s h = rf d 67 2 ls (.int 1 :: s) h := rf_pure (i := .iconst (1)) (len := 1) (okD_ok (by decide +kernel)) rfl
theorem e67_2 : rf d 67 2 ls (.int y :: .int x :: s) h = if x < y then rf d 67 26 ls s h else rf d 67 5 ls s h := g_ic (c := .lt) (off := 24) _ (by decide +kernel) rfl cmp_d
theorem e67_5 : rf d 67 5 [l0, l1, some (.int x), l3, l4, l5] s h = rf d 67 6 [l0, l1, some (.int x), l3, l4, l5] (.int x :: s) h := rf_pure (i := .iload_n 2) (len := 1) (okD_ok (by decide +kernel)) rfl
theorem e67_6 : rf d 67 6 [some (.ref a), l1, l2, l3, l4, l5] s h = rf d 67 7 [some (.ref a), l1, l2, l3, l4, l5] (.ref a :: s) h := rf_pure (i := .aload_n 0) (len := 1) (okD_ok (by decide +kernel)) rfl
theorem e67_7 : rf d 67 7 ls (.ref 5 :: s) (SH n, I, L, R, nc, ns, nx) = rf d 67 10 ls (.int (I 5 2) :: s) (SH n, I, L, R, nc, ns, nx) := g_I (idx := 16) (by decide +kernel) ow67 f_5_16 rfl rfl (by decide)
theorem e67_10 : rf d 67 10 ls (.int y :: .int x :: s) h = if y < x then rf d 67 26 ls s h else rf d 67 13 ls s h := g_ic (c := .gt) (off := 16) _ (by decide +kernel) rfl cmp_d
theorem e67_13 : rf d 67 13 [l0, some (.int x), l2, l3, l4, l5] s h = rf d 67 14 [l0, some (.int x), l2, l3, l4, l5] (.int x :: s) h := rf_pure (i := .iload_n 1) (len := 1) (okD_ok (by decide +kernel)) rfl
theorem e67_14 : rf d 67 14 ls (.int x :: s) h = if x < 0 then rf d 67 26 ls s h else rf d 67 17 ls s h := g_if (c := .lt) (off := 12) _ (by decide +kernel) rfl cmp_d
theorem e67_17 : rf d 67 17 [l0, some (.int x), l2, l3, l4, l5] s h = rf d 67 18 [l0, some (.int x), l2, l3, l4, l5] (.int x :: s) h := rf_pure (i := .iload_n 1) (len := 1) (okD_ok (by decide +kernel)) rfl
theorem e67_18 : rf d 67 18 [some (.ref a), l1, l2, l3, l4, l5] s h = rf d 67 19 [some (.ref a), l1, l2, l3, l4, l5] (.ref a :: s) h := rf_pure (i := .aload_n 0) (len := 1) (okD_ok (by decide +kernel)) rfl
theorem e67_19 (hR : LYR R) : rf d 67 19 ls (.ref 5 :: s) (SH n, I, L, R, nc, ns, nx) = rf d 67 22 ls (.ref 7 :: s) (SH n, I, L, R, nc, ns, nx) := g_R (idx := 13) (by decide +kernel) ow67 f_5_13 rfl rfl (by decide) (ly_5_1 hR)
theorem e67_22 (q : (kd (SH n) a = 100 ∨ kd (SH n) a = 101) ∧ 2 ≤ a) : rf d 67 22 ls (.ref a :: s) (SH n, I, L, R, nc, ns, nx) = rf d 67 23 ls (.int (Int32.ofNat (ln (SH n) a)) :: s) (SH n, I, L, R, nc, ns, nx) := g_len (by decide +kernel) q
theorem e67_23 : rf d 67 23 ls (.int y :: .int x :: s) h = if x < y then rf d 67 27 ls s h else rf d 67 26 ls s h := g_ic (c := .lt) (off := 4) _ (by decide +kernel) rfl cmp_d
theorem e67_26 : rf d 67 26 ls [] h = some (.inl none, h) := g_rv (by decide +kernel) rt67
theorem e67_27 : rf d 67 27 [some (.ref a), l1, l2, l3, l4, l5] s h = rf d 67 28 [some (.ref a), l1, l2, l3, l4, l5] (.ref a :: s) h := rf_pure (i := .aload_n 0) (len := 1) (okD_ok (by decide +kernel)) rfl
theorem e67_28 : rf d 67 28 ls (.ref 5 :: s) (SH n, I, L, R, nc, ns, nx) = rf d 67 31 ls (.int (I 5 2) :: s) (SH n, I, L, R, nc, ns, nx) := g_I (idx := 16) (by decide +kernel) ow67 f_5_16 rfl rfl (by decide)
theorem e67_31 : rf d 67 31 [l0, l1, some (.int x), l3, l4, l5] s h = rf d 67 32 [l0, l1, some (.int x), l3, l4, l5] (.int x :: s) h := rf_pure (i := .iload_n 2) (len := 1) (okD_ok (by decide +kernel)) rfl
theorem e67_32 : rf d 67 32 ls (.int y :: .int x :: s) h = rf d 67 33 ls (.int (x - y) :: s) h := rf_pure (i := .isub) (len := 1) (okD_ok (by decide +kernel)) rfl
theorem e67_33 (hn : ip_nl l2 = true) : rf d 67 33 [l0, l1, l2, l3, l4, l5] (.int x :: s) h = rf d 67 34 [l0, l1, l2, some (.int x), l4, l5] s h := g_sti (i := .istore_n 3) (len := 1) (q := 2) (p := 1) (by decide +kernel) rfl rfl hn
theorem e67_34 : rf d 67 34 ls s h = rf d 67 35 ls (.int 0 :: s) h := rf_pure (i := .iconst (0)) (len := 1) (okD_ok (by decide +kernel)) rfl
theorem e67_35 (hn : ip_nl l3 = true) : rf d 67 35 [l0, l1, l2, l3, l4, l5] (.int x :: s) h = rf d 67 37 [l0, l1, l2, l3, some (.int x), l5] s h := g_sti (i := .istore 4) (len := 2) (q := 3) (p := 2) (by decide +kernel) rfl rfl hn
theorem e67_37 : rf d 67 37 [l0, l1, l2, l3, some (.int x), l5] s h = rf d 67 39 [l0, l1, l2, l3, some (.int x), l5] (.int x :: s) h := rf_pure (i := .iload 4) (len := 2) (okD_ok (by decide +kernel)) rfl
theorem e67_39 : rf d 67 39 ls s h = rf d 67 40 ls (.int 4 :: s) h := rf_pure (i := .iconst (4)) (len := 1) (okD_ok (by decide +kernel)) rfl
theorem e67_40 : rf d 67 40 ls (.int y :: .int x :: s) h = if y ≤ x then rf d 67 106 ls s h else rf d 67 43 ls s h := g_ic (c := .ge) (off := 66) _ (by decide +kernel) rfl cmp_d
theorem e67_43 : rf d 67 43 [some (.ref a), l1, l2, l3, l4, l5] s h = rf d 67 44 [some (.ref a), l1, l2, l3, l4, l5] (.ref a :: s) h := rf_pure (i := .aload_n 0) (len := 1) (okD_ok (by decide +kernel)) rfl
theorem e67_44 : rf d 67 44 [l0, some (.int x), l2, l3, l4, l5] s h = rf d 67 45 [l0, some (.int x), l2, l3, l4, l5] (.int x :: s) h := rf_pure (i := .iload_n 1) (len := 1) (okD_ok (by decide +kernel)) rfl
theorem e67_45 (hcat : ip_cat s ≤ 8) : rf (d + 1) 67 45 ls (.int x0 :: .ref 5 :: s) (SH n, I, L, R, nc, ns, nx) = rf_k (d + 1) 67 45 ls s (cf d 68 [.ref 5, .int x0] (SH n, I, L, R, nc, ns, nx)) := g_cv (idx := 29) (t := 5) [.int x0] (by decide +kernel) ow67 ms_5_29 mt_5_29 cy68_5 rfl rfl mL68 rfl rfl (by decide) hcat
theorem e67_48 : rf d 67 48 [l0, l1, l2, some (.int x), l4, l5] s h = rf d 67 49 [l0, l1, l2, some (.int x), l4, l5] (.int x :: s) h := rf_pure (i := .iload_n 3) (len := 1) (okD_ok (by decide +kernel)) rfl
theorem e67_49 (hn : ip_nl l4 = true) : rf d 67 49 [l0, l1, l2, l3, l4, l5] (.int x :: s) h = rf d 67 51 [l0, l1, l2, l3, l4, some (.int x)] s h := g_sti (i := .istore 5) (len := 2) (q := 4) (p := 2) (by decide +kernel) rfl rfl hn
theorem e67_51 : rf d 67 51 [l0, l1, l2, l3, l4, some (.int x)] s h = rf d 67 53 [l0, l1, l2, l3, l4, some (.int x)] (.int x :: s) h := rf_pure (i := .iload 5) (len := 2) (okD_ok (by decide +kernel)) rfl
theorem e67_53 : rf d 67 53 [some (.ref a), l1, l2, l3, l4, l5] s h = rf d 67 54 [some (.ref a), l1, l2, l3, l4, l5] (.ref a :: s) h := rf_pure (i := .aload_n 0) (len := 1) (okD_ok (by decide +kernel)) rfl
theorem e67_54 : rf d 67 54 ls (.ref 5 :: s) (SH n, I, L, R, nc, ns, nx) = rf d 67 57 ls (.int (I 5 2) :: s) (SH n, I, L, R, nc, ns, nx) := g_I (idx := 16) (by decide +kernel) ow67 f_5_16 rfl rfl (by decide)
theorem e67_57 : rf d 67 57 ls (.int y :: .int x :: s) h = if y ≤ x then rf d 67 83 ls s h else rf d 67 60 ls s h := g_ic (c := .ge) (off := 26) _ (by decide +kernel) rfl cmp_d
theorem e67_60 : rf d 67 60 [some (.ref a), l1, l2, l3, l4, l5] s h = rf d 67 61 [some (.ref a), l1, l2, l3, l4, l5] (.ref a :: s) h := rf_pure (i := .aload_n 0) (len := 1) (okD_ok (by decide +kernel)) rfl
theorem e67_61 : rf d 67 61 [l0, some (.int x), l2, l3, l4, l5] s h = rf d 67 62 [l0, some (.int x), l2, l3, l4, l5] (.int x :: s) h := rf_pure (i := .iload_n 1) (len := 1) (okD_ok (by decide +kernel)) rfl
theorem e67_62 : rf d 67 62 [some (.ref a), l1, l2, l3, l4, l5] s h = rf d 67 63 [some (.ref a), l1, l2, l3, l4, l5] (.ref a :: s) h := rf_pure (i := .aload_n 0) (len := 1) (okD_ok (by decide +kernel)) rfl
theorem e67_63 (hR : LYR R) : rf d 67 63 ls (.ref 5 :: s) (SH n, I, L, R, nc, ns, nx) = rf d 67 66 ls (.ref 6 :: s) (SH n, I, L, R, nc, ns, nx) := g_R (idx := 9) (by decide +kernel) ow67 f_5_9 rfl rfl (by decide) (ly_5_0 hR)
theorem e67_66 : rf d 67 66 [l0, l1, l2, l3, l4, some (.int x)] s h = rf d 67 68 [l0, l1, l2, l3, l4, some (.int x)] (.int x :: s) h := rf_pure (i := .iload 5) (len := 2) (okD_ok (by decide +kernel)) rfl
theorem e67_68 : rf d 67 68 ls s h = rf d 67 69 ls (.int 4 :: s) h := rf_pure (i := .iconst (4)) (len := 1) (okD_ok (by decide +kernel)) rfl
theorem e67_69 : rf d 67 69 ls (.int y :: .int x :: s) h = rf d 67 70 ls (.int (x * y) :: s) h := rf_pure (i := .imul) (len := 1) (okD_ok (by decide +kernel)) rfl
theorem e67_70 : rf d 67 70 [l0, l1, l2, l3, some (.int x), l5] s h = rf d 67 72 [l0, l1, l2, l3, some (.int x), l5] (.int x :: s) h := rf_pure (i := .iload 4) (len := 2) (okD_ok (by decide +kernel)) rfl
theorem e67_72 : rf d 67 72 ls (.int y :: .int x :: s) h = rf d 67 73 ls (.int (x + y) :: s) h := rf_pure (i := .iadd) (len := 1) (okD_ok (by decide +kernel)) rfl
theorem e67_73 (q : la n a j) : rf d 67 73 ls (.int j :: .ref a :: s) (SH n, I, L, R, nc, ns, nx) = rf d 67 74 ls (.long (L a j.toNatClampNeg) :: s) (SH n, I, L, R, nc, ns, nx) := g_lal (by decide +kernel) q
theorem e67_74 (hcat : ip_cat s ≤ 8) : rf (d + 1) 67 74 ls (.long u1 :: .int x0 :: .ref 5 :: s) (SH n, I, L, R, nc, ns, nx) = rf_k (d + 1) 67 74 ls s (cf d 69 [.ref 5, .int x0, .long u1] (SH n, I, L, R, nc, ns, nx)) := g_cv (idx := 33) (t := 5) [.long u1, .int x0] (by decide +kernel) ow67 ms_5_33 mt_5_33 cy69_5 rfl rfl mL69 rfl rfl (by decide) hcat
theorem e67_77 (hn : ip_nl l4 = true) : rf d 67 77 [l0, l1, l2, l3, l4, some (.int x)] s h = rf d 67 80 [l0, l1, l2, l3, l4, some (.int (x + 1))] s h := g_inc (q := 4) (z := 1) (w := 1) (x := x) (by decide) (by decide +kernel) rfl rfl hn
theorem e67_80 : rf d 67 80 ls s h = rf d 67 51 ls s h := rf_goto ⟨okD_ok (i := .goto (-29)) (len := 3) (by decide +kernel), rfl⟩
theorem e67_83 : rf d 67 83 [some (.ref a), l1, l2, l3, l4, l5] s h = rf d 67 84 [some (.ref a), l1, l2, l3, l4, l5] (.ref a :: s) h := rf_pure (i := .aload_n 0) (len := 1) (okD_ok (by decide +kernel)) rfl
theorem e67_84 (hR : LYR R) : rf d 67 84 ls (.ref 5 :: s) (SH n, I, L, R, nc, ns, nx) = rf d 67 87 ls (.ref 6 :: s) (SH n, I, L, R, nc, ns, nx) := g_R (idx := 9) (by decide +kernel) ow67 f_5_9 rfl rfl (by decide) (ly_5_0 hR)
theorem e67_87 : rf d 67 87 [l0, l1, l2, some (.int x), l4, l5] s h = rf d 67 88 [l0, l1, l2, some (.int x), l4, l5] (.int x :: s) h := rf_pure (i := .iload_n 3) (len := 1) (okD_ok (by decide +kernel)) rfl
theorem e67_88 : rf d 67 88 ls s h = rf d 67 89 ls (.int 4 :: s) h := rf_pure (i := .iconst (4)) (len := 1) (okD_ok (by decide +kernel)) rfl
theorem e67_89 : rf d 67 89 ls (.int y :: .int x :: s) h = rf d 67 90 ls (.int (x * y) :: s) h := rf_pure (i := .imul) (len := 1) (okD_ok (by decide +kernel)) rfl
theorem e67_90 : rf d 67 90 [l0, l1, l2, l3, some (.int x), l5] s h = rf d 67 92 [l0, l1, l2, l3, some (.int x), l5] (.int x :: s) h := rf_pure (i := .iload 4) (len := 2) (okD_ok (by decide +kernel)) rfl
theorem e67_92 : rf d 67 92 ls (.int y :: .int x :: s) h = rf d 67 93 ls (.int (x + y) :: s) h := rf_pure (i := .iadd) (len := 1) (okD_ok (by decide +kernel)) rfl
theorem e67_93 : rf d 67 93 [some (.ref a), l1, l2, l3, l4, l5] s h = rf d 67 94 [some (.ref a), l1, l2, l3, l4, l5] (.ref a :: s) h := rf_pure (i := .aload_n 0) (len := 1) (okD_ok (by decide +kernel)) rfl
theorem e67_94 (hR : LYR R) : rf d 67 94 ls (.ref 5 :: s) (SH n, I, L, R, nc, ns, nx) = rf d 67 97 ls (.ref 7 :: s) (SH n, I, L, R, nc, ns, nx) := g_R (idx := 13) (by decide +kernel) ow67 f_5_13 rfl rfl (by decide) (ly_5_1 hR)
theorem e67_97 : rf d 67 97 [l0, some (.int x), l2, l3, l4, l5] s h = rf d 67 98 [l0, some (.int x), l2, l3, l4, l5] (.int x :: s) h := rf_pure (i := .iload_n 1) (len := 1) (okD_ok (by decide +kernel)) rfl
theorem e67_98 (q : la n a j) : rf d 67 98 ls (.int j :: .ref a :: s) (SH n, I, L, R, nc, ns, nx) = rf d 67 99 ls (.long (L a j.toNatClampNeg) :: s) (SH n, I, L, R, nc, ns, nx) := g_lal (by decide +kernel) q
theorem e67_99 (q : la n a j) : rf d 67 99 ls (.long u :: .int j :: .ref a :: s) (SH n, I, L, R, nc, ns, nx) = rf d 67 100 ls s (SH n, I, ip_up L a j.toNatClampNeg u, R, nc, ns, nx) := g_las (by decide +kernel) q
theorem e67_100 (hn : ip_nl l3 = true) : rf d 67 100 [l0, l1, l2, l3, some (.int x), l5] s h = rf d 67 103 [l0, l1, l2, l3, some (.int (x + 1)), l5] s h := g_inc (q := 3) (z := 1) (w := 1) (x := x) (by decide) (by decide +kernel) rfl rfl hn
theorem e67_103 : rf d 67 103 ls s h = rf d 67 37 ls s h := rf_goto ⟨okD_ok (i := .goto (-66)) (len := 3) (by decide +kernel), rfl⟩
theorem e67_106 : rf d 67 106 [some (.ref a), l1, l2, l3, l4, l5] s h = rf d 67 107 [some (.ref a), l1, l2, l3, l4, l5] (.ref a :: s) h := rf_pure (i := .aload_n 0) (len := 1) (okD_ok (by decide +kernel)) rfl
theorem e67_107 : rf d 67 107 [l0, l1, l2, some (.int x), l4, l5] s h = rf d 67 108 [l0, l1, l2, some (.int x), l4, l5] (.int x :: s) h := rf_pure (i := .iload_n 3) (len := 1) (okD_ok (by decide +kernel)) rfl
theorem e67_108 : rf d 67 108 ls s h = rf d 67 109 ls (.int 1 :: s) h := rf_pure (i := .iconst (1)) (len := 1) (okD_ok (by decide +kernel)) rfl
theorem e67_109 : rf d 67 109 ls (.int y :: .int x :: s) h = rf d 67 110 ls (.int (x + y) :: s) h := rf_pure (i := .iadd) (len := 1) (okD_ok (by decide +kernel)) rfl
theorem e67_110 : rf d 67 110 ls (.int x :: .ref 5 :: s) (SH n, I, L, R, nc, ns, nx) = rf d 67 113 ls s (SH n, ip_up I 5 2 x, L, R, nc, ns, nx) := g_pI (idx := 16) (by decide +kernel) ow67 f_5_16 rfl (by decide +kernel) rfl (by decide)
theorem e67_113 : rf d 67 113 ls [] h = some (.inl none, h) := g_rv (by decide +kernel) rt67
theorem en68 : cf d 68 [.ref a, .int x0] h = rf d 68 0 [some (.ref a), some (.int x0), none] [] h := rfl
theorem e68_0 : rf d 68 0 [some (.ref a), l1, l2] s h = rf d 68 1 [some (.ref a), l1, l2] (.ref a :: s) h := rf_pure (i := .aload_n 0) (len := 1) (okD_ok (by decide +kernel)) rfl
theorem e68_1 (hR : LYR R) : rf d 68 1 ls (.ref 5 :: s) (SH n, I, L, R, nc, ns, nx) = rf d 68 4 ls (.ref 7 :: s) (SH n, I, L, R, nc, ns, nx) := g_R (idx := 13) (by decide +kernel) ow68 f_5_13 rfl rfl (by decide) (ly_5_1 hR)
theorem e68_4 : rf d 68 4 ls s h = rf d 68 5 ls (.int 0 :: s) h := rf_pure (i := .iconst (0)) (len := 1) (okD_ok (by decide +kernel)) rfl
theorem e68_5 : rf d 68 5 ls s h = rf d 68 8 ls (.long (-1) :: s) h := g_kl (idx := 27) (by decide +kernel) ow68 kl_5_27
theorem e68_8 (q : la n a j) : rf d 68 8 ls (.long u :: .int j :: .ref a :: s) (SH n, I, L, R, nc, ns, nx) = rf d 68 9 ls s (SH n, I, ip_up L a j.toNatClampNeg u, R, nc, ns, nx) := g_las (by decide +kernel) q
theorem e68_9 : rf d 68 9 ls s h = rf d 68 10 ls (.int 1 :: s) h := rf_pure (i := .iconst (1)) (len := 1) (okD_ok (by decide +kernel)) rfl
theorem e68_10 (hn : ip_nl l1 = true) : rf d 68 10 [l0, l1, l2] (.int x :: s) h = rf d 68 11 [l0, l1, some (.int x)] s h := g_sti (i := .istore_n 2) (len := 1) (q := 1) (p := 1) (by decide +kernel) rfl rfl hn
theorem e68_11 : rf d 68 11 [l0, l1, some (.int x)] s h = rf d 68 12 [l0, l1, some (.int x)] (.int x :: s) h := rf_pure (i := .iload_n 2) (len := 1) (okD_ok (by decide +kernel)) rfl
theorem e68_12 : rf d 68 12 [l0, some (.int x), l2] s h = rf d 68 13 [l0, some (.int x), l2] (.int x :: s) h := rf_pure (i := .iload_n 1) (len := 1) (okD_ok (by decide +kernel)) rfl
theorem e68_13 : rf d 68 13 ls (.int y :: .int x :: s) h = if y < x then rf d 68 29 ls s h else rf d 68 16 ls s h := g_ic (c := .gt) (off := 16) _ (by decide +kernel) rfl cmp_d
theorem e68_16 : rf d 68 16 [some (.ref a), l1, l2] s h = rf d 68 17 [some (.ref a), l1, l2] (.ref a :: s) h := rf_pure (i := .aload_n 0) (len := 1) (okD_ok (by decide +kernel)) rfl
theorem e68_17 (hR : LYR R) : rf d 68 17 ls (.ref 5 :: s) (SH n, I, L, R, nc, ns, nx) = rf d 68 20 ls (.ref 7 :: s) (SH n, I, L, R, nc, ns, nx) := g_R (idx := 13) (by decide +kernel) ow68 f_5_13 rfl rfl (by decide) (ly_5_1 hR)
theorem e68_20 : rf d 68 20 [l0, l1, some (.int x)] s h = rf d 68 21 [l0, l1, some (.int x)] (.int x :: s) h := rf_pure (i := .iload_n 2) (len := 1) (okD_ok (by decide +kernel)) rfl
theorem e68_21 : rf d 68 21 ls s h = rf d 68 22 ls (.long 0 :: s) h := rf_pure (i := .lconst 0) (len := 1) (okD_ok (by decide +kernel)) rfl
theorem e68_22 (q : la n a j) : rf d 68 22 ls (.long u :: .int j :: .ref a :: s) (SH n, I, L, R, nc, ns, nx) = rf d 68 23 ls s (SH n, I, ip_up L a j.toNatClampNeg u, R, nc, ns, nx) := g_las (by decide +kernel) q
theorem e68_23 (hn : ip_nl l1 = true) : rf d 68 23 [l0, l1, some (.int x)] s h = rf d 68 26 [l0, l1, some (.int (x + 1))] s h := g_inc (q := 1) (z := 1) (w := 1) (x := x) (by decide) (by decide +kernel) rfl rfl hn
theorem e68_26 : rf d 68 26 ls s h = rf d 68 11 ls s h := rf_goto ⟨okD_ok (i := .goto (-15)) (len := 3) (by decide +kernel), rfl⟩
theorem e68_29 : rf d 68 29 ls [] h = some (.inl none, h) := g_rv (by decide +kernel) rt68
theorem en69 : cf d 69 [.ref a, .int x0, .long u1] h = rf d 69 0 [some (.ref a), some (.int x0), some (.long u1), none, none] [] h := rfl
theorem e69_0 : rf d 69 0 [l0, some (.int x), l2, l3, l4] s h = rf d 69 1 [l0, some (.int x), l2, l3, l4] (.int x :: s) h := rf_pure (i := .iload_n 1) (len := 1) (okD_ok (by decide +kernel)) rfl
theorem e69_1 (hn : ip_nl l3 = true) : rf d 69 1 [l0, l1, l2, l3, l4] (.int x :: s) h = rf d 69 3 [l0, l1, l2, l3, some (.int x)] s h := g_sti (i := .istore 4) (len := 2) (q := 3) (p := 2) (by decide +kernel) rfl rfl hn
theorem e69_3 : rf d 69 3 [l0, l1, l2, l3, some (.int x)] s h = rf d 69 5 [l0, l1, l2, l3, some (.int x)] (.int x :: s) h := rf_pure (i := .iload 4) (len := 2) (okD_ok (by decide +kernel)) rfl
theorem e69_5 : rf d 69 5 ls (.int x :: s) h = if x ≤ 0 then rf d 69 35 ls s h else rf d 69 8 ls s h := g_if (c := .le) (off := 30) _ (by decide +kernel) rfl cmp_d
theorem e69_8 : rf d 69 8 [some (.ref a), l1, l2, l3, l4] s h = rf d 69 9 [some (.ref a), l1, l2, l3, l4] (.ref a :: s) h := rf_pure (i := .aload_n 0) (len := 1) (okD_ok (by decide +kernel)) rfl
theorem e69_9 (hR : LYR R) : rf d 69 9 ls (.ref 5 :: s) (SH n, I, L, R, nc, ns, nx) = rf d 69 12 ls (.ref 7 :: s) (SH n, I, L, R, nc, ns, nx) := g_R (idx := 13) (by decide +kernel) ow69 f_5_13 rfl rfl (by decide) (ly_5_1 hR)
theorem e69_12 : rf d 69 12 [l0, l1, l2, l3, some (.int x)] s h = rf d 69 14 [l0, l1, l2, l3, some (.int x)] (.int x :: s) h := rf_pure (i := .iload 4) (len := 2) (okD_ok (by decide +kernel)) rfl
theorem e69_14 : rf d 69 14 ls (.int j :: .ref a :: s) h = rf d 69 15 ls (.int j :: .ref a :: .int j :: .ref a :: s) h := rf_pure (i := .dup2) (len := 1) (okD_ok (by decide +kernel)) rfl
theorem e69_15 (q : la n a j) : rf d 69 15 ls (.int j :: .ref a :: s) (SH n, I, L, R, nc, ns, nx) = rf d 69 16 ls (.long (L a j.toNatClampNeg) :: s) (SH n, I, L, R, nc, ns, nx) := g_lal (by decide +kernel) q
theorem e69_16 : rf d 69 16 [some (.ref a), l1, l2, l3, l4] s h = rf d 69 17 [some (.ref a), l1, l2, l3, l4] (.ref a :: s) h := rf_pure (i := .aload_n 0) (len := 1) (okD_ok (by decide +kernel)) rfl
theorem e69_17 (hR : LYR R) : rf d 69 17 ls (.ref 5 :: s) (SH n, I, L, R, nc, ns, nx) = rf d 69 20 ls (.ref 7 :: s) (SH n, I, L, R, nc, ns, nx) := g_R (idx := 13) (by decide +kernel) ow69 f_5_13 rfl rfl (by decide) (ly_5_1 hR)
theorem e69_20 : rf d 69 20 [l0, l1, l2, l3, some (.int x)] s h = rf d 69 22 [l0, l1, l2, l3, some (.int x)] (.int x :: s) h := rf_pure (i := .iload 4) (len := 2) (okD_ok (by decide +kernel)) rfl
theorem e69_22 : rf d 69 22 ls s h = rf d 69 23 ls (.int 1 :: s) h := rf_pure (i := .iconst (1)) (len := 1) (okD_ok (by decide +kernel)) rfl
theorem e69_23 : rf d 69 23 ls (.int y :: .int x :: s) h = rf d 69 24 ls (.int (x - y) :: s) h := rf_pure (i := .isub) (len := 1) (okD_ok (by decide +kernel)) rfl
theorem e69_24 (q : la n a j) : rf d 69 24 ls (.int j :: .ref a :: s) (SH n, I, L, R, nc, ns, nx) = rf d 69 25 ls (.long (L a j.toNatClampNeg) :: s) (SH n, I, L, R, nc, ns, nx) := g_lal (by decide +kernel) q
theorem e69_25 : rf d 69 25 [l0, l1, some (.long u), l3, l4] s h = rf d 69 26 [l0, l1, some (.long u), l3, l4] (.long u :: s) h := rf_pure (i := .lload_n 2) (len := 1) (okD_ok (by decide +kernel)) rfl
theorem e69_26 : rf d 69 26 ls (.long v :: .long u :: s) h = rf d 69 27 ls (.long (u &&& v) :: s) h := rf_pure (i := .land) (len := 1) (okD_ok (by decide +kernel)) rfl
theorem e69_27 : rf d 69 27 ls (.long v :: .long u :: s) h = rf d 69 28 ls (.long (u ||| v) :: s) h := rf_pure (i := .lor) (len := 1) (okD_ok (by decide +kernel)) rfl
theorem e69_28 (q : la n a j) : rf d 69 28 ls (.long u :: .int j :: .ref a :: s) (SH n, I, L, R, nc, ns, nx) = rf d 69 29 ls s (SH n, I, ip_up L a j.toNatClampNeg u, R, nc, ns, nx) := g_las (by decide +kernel) q
theorem e69_29 (hn : ip_nl l3 = true) : rf d 69 29 [l0, l1, l2, l3, some (.int x)] s h = rf d 69 32 [l0, l1, l2, l3, some (.int (x + (-1)))] s h := g_inc (q := 3) (z := -1) (w := (-1)) (x := x) (by decide) (by decide +kernel) rfl rfl hn
theorem e69_32 : rf d 69 32 ls s h = rf d 69 3 ls s h := rf_goto ⟨okD_ok (i := .goto (-29)) (len := 3) (by decide +kernel), rfl⟩
theorem e69_35 : rf d 69 35 ls [] h = some (.inl none, h) := g_rv (by decide +kernel) rt69
theorem en70 : cf d 70 [.ref a, .int x0] h = rf d 70 0 [some (.ref a), some (.int x0), none, none, none, none] [] h := rfl
theorem e70_0 : rf d 70 0 [some (.ref a), l1, l2, l3, l4, l5] s h = rf d 70 1 [some (.ref a), l1, l2, l3, l4, l5] (.ref a :: s) h := rf_pure (i := .aload_n 0) (len := 1) (okD_ok (by decide +kernel)) rfl
theorem e70_1 : rf d 70 1 ls (.ref 5 :: s) (SH n, I, L, R, nc, ns, nx) = rf d 70 4 ls (.int (I 5 2) :: s) (SH n, I, L, R, nc, ns, nx) := g_I (idx := 16) (by decide +kernel) ow70 f_5_16 rfl rfl (by decide)
theorem e70_4 : rf d 70 4 ls s h = rf d 70 5 ls (.int 2 :: s) h := rf_pure (i := .iconst (2)) (len := 1) (okD_ok (by decide +kernel)) rfl
theorem e70_5 : rf d 70 5 ls (.int y :: .int x :: s) h = if y ≤ x then rf d 70 9 ls s h else rf d 70 8 ls s h := g_ic (c := .ge) (off := 4) _ (by decide +kernel) rfl cmp_d
theorem e70_8 : rf d 70 8 ls [] h = some (.inl none, h) := g_rv (by decide +kernel) rt70
theorem e70_9 : rf d 70 9 [some (.ref a), l1, l2, l3, l4, l5] s h = rf d 70 10 [some (.ref a), l1, l2, l3, l4, l5] (.ref a :: s) h := rf_pure (i := .aload_n 0) (len := 1) (okD_ok (by decide +kernel)) rfl
theorem e70_10 : rf d 70 10 ls (.int x :: s) h = rf d 70 11 ls (.int x :: .int x :: s) h := rf_pure (i := .dup) (len := 1) (okD_ok (by decide +kernel)) rfl
theorem e70_10r : rf d 70 10 ls (.ref a :: s) h = rf d 70 11 ls (.ref a :: .ref a :: s) h := rf_pure (i := .dup) (len := 1) (okD_ok (by decide +kernel)) rfl
theorem e70_11 : rf d 70 11 ls (.ref 5 :: s) (SH n, I, L, R, nc, ns, nx) = rf d 70 14 ls (.int (I 5 2) :: s) (SH n, I, L, R, nc, ns, nx) := g_I (idx := 16) (by decide +kernel) ow70 f_5_16 rfl rfl (by decide)
theorem e70_14 : rf d 70 14 ls s h = rf d 70 15 ls (.int 1 :: s) h := rf_pure (i := .iconst (1)) (len := 1) (okD_ok (by decide +kernel)) rfl
theorem e70_15 : rf d 70 15 ls (.int y :: .int x :: s) h = rf d 70 16 ls (.int (x - y) :: s) h := rf_pure (i := .isub) (len := 1) (okD_ok (by decide +kernel)) rfl
theorem e70_16 : rf d 70 16 ls (.int x :: .ref 5 :: s) (SH n, I, L, R, nc, ns, nx) = rf d 70 19 ls s (SH n, ip_up I 5 2 x, L, R, nc, ns, nx) := g_pI (idx := 16) (by decide +kernel) ow70 f_5_16 rfl (by decide +kernel) rfl (by decide)
theorem e70_19 : rf d 70 19 ls s h = rf d 70 20 ls (.int 0 :: s) h := rf_pure (i := .iconst (0)) (len := 1) (okD_ok (by decide +kernel)) rfl
theorem e70_20 (hn : ip_nl l1 = true) : rf d 70 20 [l0, l1, l2, l3, l4, l5] (.int x :: s) h = rf d 70 21 [l0, l1, some (.int x), l3, l4, l5] s h := g_sti (i := .istore_n 2) (len := 1) (q := 1) (p := 1) (by decide +kernel) rfl rfl hn
theorem e70_21 : rf d 70 21 [l0, l1, some (.int x), l3, l4, l5] s h = rf d 70 22 [l0, l1, some (.int x), l3, l4, l5] (.int x :: s) h := rf_pure (i := .iload_n 2) (len := 1) (okD_ok (by decide +kernel)) rfl
theorem e70_22 : rf d 70 22 ls s h = rf d 70 23 ls (.int 4 :: s) h := rf_pure (i := .iconst (4)) (len := 1) (okD_ok (by decide +kernel)) rfl
theorem e70_23 : rf d 70 23 ls (.int y :: .int x :: s) h = if y ≤ x then rf d 70 90 ls s h else rf d 70 26 ls s h := g_ic (c := .ge) (off := 67) _ (by decide +kernel) rfl cmp_d
theorem e70_26 : rf d 70 26 [some (.ref a), l1, l2, l3, l4, l5] s h = rf d 70 27 [some (.ref a), l1, l2, l3, l4, l5] (.ref a :: s) h := rf_pure (i := .aload_n 0) (len := 1) (okD_ok (by decide +kernel)) rfl
theorem e70_27 (hR : LYR R) : rf d 70 27 ls (.ref 5 :: s) (SH n, I, L, R, nc, ns, nx) = rf d 70 30 ls (.ref 6 :: s) (SH n, I, L, R, nc, ns, nx) := g_R (idx := 9) (by decide +kernel) ow70 f_5_9 rfl rfl (by decide) (ly_5_0 hR)
theorem e70_30 : rf d 70 30 [some (.ref a), l1, l2, l3, l4, l5] s h = rf d 70 31 [some (.ref a), l1, l2, l3, l4, l5] (.ref a :: s) h := rf_pure (i := .aload_n 0) (len := 1) (okD_ok (by decide +kernel)) rfl
theorem e70_31 : rf d 70 31 ls (.ref 5 :: s) (SH n, I, L, R, nc, ns, nx) = rf d 70 34 ls (.int (I 5 2) :: s) (SH n, I, L, R, nc, ns, nx) := g_I (idx := 16) (by decide +kernel) ow70 f_5_16 rfl rfl (by decide)
theorem e70_34 : rf d 70 34 ls s h = rf d 70 35 ls (.int 4 :: s) h := rf_pure (i := .iconst (4)) (len := 1) (okD_ok (by decide +kernel)) rfl
theorem e70_35 : rf d 70 35 ls (.int y :: .int x :: s) h = rf d 70 36 ls (.int (x * y) :: s) h := rf_pure (i := .imul) (len := 1) (okD_ok (by decide +kernel)) rfl
theorem e70_36 : rf d 70 36 [l0, l1, some (.int x), l3, l4, l5] s h = rf d 70 37 [l0, l1, some (.int x), l3, l4, l5] (.int x :: s) h := rf_pure (i := .iload_n 2) (len := 1) (okD_ok (by decide +kernel)) rfl
theorem e70_37 : rf d 70 37 ls (.int y :: .int x :: s) h = rf d 70 38 ls (.int (x + y) :: s) h := rf_pure (i := .iadd) (len := 1) (okD_ok (by decide +kernel)) rfl
theorem e70_38 (q : la n a j) : rf d 70 38 ls (.int j :: .ref a :: s) (SH n, I, L, R, nc, ns, nx) = rf d 70 39 ls (.long (L a j.toNatClampNeg) :: s) (SH n, I, L, R, nc, ns, nx) := g_lal (by decide +kernel) q
theorem e70_39 (hn : ip_nl l2 = true) : rf d 70 39 [l0, l1, l2, l3, l4, l5] (.long u :: s) h = rf d 70 40 [l0, l1, l2, some (.long u), none, l5] s h := g_stl (i := .lstore_n 3) (len := 1) (q := 2) (p := 1) (by decide +kernel) rfl rfl hn
theorem e70_40 : rf d 70 40 [some (.ref a), l1, l2, l3, l4, l5] s h = rf d 70 41 [some (.ref a), l1, l2, l3, l4, l5] (.ref a :: s) h := rf_pure (i := .aload_n 0) (len := 1) (okD_ok (by decide +kernel)) rfl
theorem e70_41 : rf d 70 41 ls (.ref 5 :: s) (SH n, I, L, R, nc, ns, nx) = rf d 70 44 ls (.int (I 5 2) :: s) (SH n, I, L, R, nc, ns, nx) := g_I (idx := 16) (by decide +kernel) ow70 f_5_16 rfl rfl (by decide)
theorem e70_44 : rf d 70 44 ls s h = rf d 70 45 ls (.int 1 :: s) h := rf_pure (i := .iconst (1)) (len := 1) (okD_ok (by decide +kernel)) rfl
theorem e70_45 : rf d 70 45 ls (.int y :: .int x :: s) h = rf d 70 46 ls (.int (x - y) :: s) h := rf_pure (i := .isub) (len := 1) (okD_ok (by decide +kernel)) rfl
theorem e70_46 : rf d 70 46 ls s h = rf d 70 47 ls (.int 4 :: s) h := rf_pure (i := .iconst (4)) (len := 1) (okD_ok (by decide +kernel)) rfl
theorem e70_47 : rf d 70 47 ls (.int y :: .int x :: s) h = rf d 70 48 ls (.int (x * y) :: s) h := rf_pure (i := .imul) (len := 1) (okD_ok (by decide +kernel)) rfl
theorem e70_48 : rf d 70 48 [l0, l1, some (.int x), l3, l4, l5] s h = rf d 70 49 [l0, l1, some (.int x), l3, l4, l5] (.int x :: s) h := rf_pure (i := .iload_n 2) (len := 1) (okD_ok (by decide +kernel)) rfl
theorem e70_49 : rf d 70 49 ls (.int y :: .int x :: s) h = rf d 70 50 ls (.int (x + y) :: s) h := rf_pure (i := .iadd) (len := 1) (okD_ok (by decide +kernel)) rfl
theorem e70_50 (hn : ip_nl l4 = true) : rf d 70 50 [l0, l1, l2, l3, l4, l5] (.int x :: s) h = rf d 70 52 [l0, l1, l2, l3, l4, some (.int x)] s h := g_sti (i := .istore 5) (len := 2) (q := 4) (p := 2) (by decide +kernel) rfl rfl hn
theorem e70_52 : rf d 70 52 [some (.ref a), l1, l2, l3, l4, l5] s h = rf d 70 53 [some (.ref a), l1, l2, l3, l4, l5] (.ref a :: s) h := rf_pure (i := .aload_n 0) (len := 1) (okD_ok (by decide +kernel)) rfl
theorem e70_53 (hR : LYR R) : rf d 70 53 ls (.ref 5 :: s) (SH n, I, L, R, nc, ns, nx) = rf d 70 56 ls (.ref 6 :: s) (SH n, I, L, R, nc, ns, nx) := g_R (idx := 9) (by decide +kernel) ow70 f_5_9 rfl rfl (by decide) (ly_5_0 hR)
theorem e70_56 : rf d 70 56 [l0, l1, l2, l3, l4, some (.int x)] s h = rf d 70 58 [l0, l1, l2, l3, l4, some (.int x)] (.int x :: s) h := rf_pure (i := .iload 5) (len := 2) (okD_ok (by decide +kernel)) rfl
theorem e70_58 : rf d 70 58 [l0, some (.int x), l2, l3, l4, l5] s h = rf d 70 59 [l0, some (.int x), l2, l3, l4, l5] (.int x :: s) h := rf_pure (i := .iload_n 1) (len := 1) (okD_ok (by decide +kernel)) rfl
theorem e70_59 : rf d 70 59 ls (.int x :: s) h = if x = 0 then rf d 70 74 ls s h else rf d 70 62 ls s h := g_if (c := .eq) (off := 15) _ (by decide +kernel) rfl cmp_d
theorem e70_62 : rf d 70 62 [some (.ref a), l1, l2, l3, l4, l5] s h = rf d 70 63 [some (.ref a), l1, l2, l3, l4, l5] (.ref a :: s) h := rf_pure (i := .aload_n 0) (len := 1) (okD_ok (by decide +kernel)) rfl
theorem e70_63 (hR : LYR R) : rf d 70 63 ls (.ref 5 :: s) (SH n, I, L, R, nc, ns, nx) = rf d 70 66 ls (.ref 6 :: s) (SH n, I, L, R, nc, ns, nx) := g_R (idx := 9) (by decide +kernel) ow70 f_5_9 rfl rfl (by decide) (ly_5_0 hR)
theorem e70_66 : rf d 70 66 [l0, l1, l2, l3, l4, some (.int x)] s h = rf d 70 68 [l0, l1, l2, l3, l4, some (.int x)] (.int x :: s) h := rf_pure (i := .iload 5) (len := 2) (okD_ok (by decide +kernel)) rfl
theorem e70_68 (q : la n a j) : rf d 70 68 ls (.int j :: .ref a :: s) (SH n, I, L, R, nc, ns, nx) = rf d 70 69 ls (.long (L a j.toNatClampNeg) :: s) (SH n, I, L, R, nc, ns, nx) := g_lal (by decide +kernel) q
theorem e70_69 : rf d 70 69 [l0, l1, l2, some (.long u), l4, l5] s h = rf d 70 70 [l0, l1, l2, some (.long u), l4, l5] (.long u :: s) h := rf_pure (i := .lload_n 3) (len := 1) (okD_ok (by decide +kernel)) rfl
theorem e70_70 : rf d 70 70 ls (.long v :: .long u :: s) h = rf d 70 71 ls (.long (u &&& v) :: s) h := rf_pure (i := .land) (len := 1) (okD_ok (by decide +kernel)) rfl
theorem e70_71 : rf d 70 71 ls s h = rf d 70 83 ls s h := rf_goto ⟨okD_ok (i := .goto (12)) (len := 3) (by decide +kernel), rfl⟩
theorem e70_74 : rf d 70 74 [some (.ref a), l1, l2, l3, l4, l5] s h = rf d 70 75 [some (.ref a), l1, l2, l3, l4, l5] (.ref a :: s) h := rf_pure (i := .aload_n 0) (len := 1) (okD_ok (by decide +kernel)) rfl
theorem e70_75 (hR : LYR R) : rf d 70 75 ls (.ref 5 :: s) (SH n, I, L, R, nc, ns, nx) = rf d 70 78 ls (.ref 6 :: s) (SH n, I, L, R, nc, ns, nx) := g_R (idx := 9) (by decide +kernel) ow70 f_5_9 rfl rfl (by decide) (ly_5_0 hR)
theorem e70_78 : rf d 70 78 [l0, l1, l2, l3, l4, some (.int x)] s h = rf d 70 80 [l0, l1, l2, l3, l4, some (.int x)] (.int x :: s) h := rf_pure (i := .iload 5) (len := 2) (okD_ok (by decide +kernel)) rfl
theorem e70_80 (q : la n a j) : rf d 70 80 ls (.int j :: .ref a :: s) (SH n, I, L, R, nc, ns, nx) = rf d 70 81 ls (.long (L a j.toNatClampNeg) :: s) (SH n, I, L, R, nc, ns, nx) := g_lal (by decide +kernel) q
theorem e70_81 : rf d 70 81 [l0, l1, l2, some (.long u), l4, l5] s h = rf d 70 82 [l0, l1, l2, some (.long u), l4, l5] (.long u :: s) h := rf_pure (i := .lload_n 3) (len := 1) (okD_ok (by decide +kernel)) rfl
theorem e70_82 : rf d 70 82 ls (.long v :: .long u :: s) h = rf d 70 83 ls (.long (u ||| v) :: s) h := rf_pure (i := .lor) (len := 1) (okD_ok (by decide +kernel)) rfl
theorem e70_83 (q : la n a j) : rf d 70 83 ls (.long u :: .int j :: .ref a :: s) (SH n, I, L, R, nc, ns, nx) = rf d 70 84 ls s (SH n, I, ip_up L a j.toNatClampNeg u, R, nc, ns, nx) := g_las (by decide +kernel) q
theorem e70_84 (hn : ip_nl l1 = true) : rf d 70 84 [l0, l1, some (.int x), l3, l4, l5] s h = rf d 70 87 [l0, l1, some (.int (x + 1)), l3, l4, l5] s h := g_inc (q := 1) (z := 1) (w := 1) (x := x) (by decide) (by decide +kernel) rfl rfl hn
theorem e70_87 : rf d 70 87 ls s h = rf d 70 21 ls s h := rf_goto ⟨okD_ok (i := .goto (-66)) (len := 3) (by decide +kernel), rfl⟩
theorem e70_90 : rf d 70 90 ls [] h = some (.inl none, h) := g_rv (by decide +kernel) rt70
theorem en71 : cf d 71 [.ref a, .ref a0] h = rf d 71 0 [some (.ref a), some (.ref a0)] [] h := rfl
theorem e71_0 : rf d 71 0 [some (.ref a), l1] s h = rf d 71 1 [some (.ref a), l1] (.ref a :: s) h := rf_pure (i := .aload_n 0) (len := 1) (okD_ok (by decide +kernel)) rfl
theorem e71_1 : rf d 71 1 ls (.ref 5 :: s) (SH n, I, L, R, nc, ns, nx) = rf d 71 4 ls (.int (I 5 2) :: s) (SH n, I, L, R, nc, ns, nx) := g_I (idx := 16) (by decide +kernel) ow71 f_5_16 rfl rfl (by decide)
theorem e71_4 : rf d 71 4 ls (.int x :: s) h = if x ≤ 0 then rf d 71 31 ls s h else rf d 71 7 ls s h := g_if (c := .le) (off := 27) _ (by decide +kernel) rfl cmp_d
theorem e71_7 : rf d 71 7 [l0, some (.ref a)] s h = rf d 71 8 [l0, some (.ref a)] (.ref a :: s) h := rf_pure (i := .aload_n 1) (len := 1) (okD_ok (by decide +kernel)) rfl
theorem e71_8 (q : (kd (SH n) a = 100 ∨ kd (SH n) a = 101) ∧ 2 ≤ a) : rf d 71 8 ls (.ref a :: s) (SH n, I, L, R, nc, ns, nx) = rf d 71 9 ls (.int (Int32.ofNat (ln (SH n) a)) :: s) (SH n, I, L, R, nc, ns, nx) := g_len (by decide +kernel) q
theorem e71_9 : rf d 71 9 ls s h = rf d 71 10 ls (.int 4 :: s) h := rf_pure (i := .iconst (4)) (len := 1) (okD_ok (by decide +kernel)) rfl
theorem e71_10 : rf d 71 10 ls (.int y :: .int x :: s) h = if x < y then rf d 71 31 ls s h else rf d 71 13 ls s h := g_ic (c := .lt) (off := 21) _ (by decide +kernel) rfl cmp_d
theorem e71_13 : rf d 71 13 [some (.ref a), l1] s h = rf d 71 14 [some (.ref a), l1] (.ref a :: s) h := rf_pure (i := .aload_n 0) (len := 1) (okD_ok (by decide +kernel)) rfl
theorem e71_14 (hR : LYR R) : rf d 71 14 ls (.ref 5 :: s) (SH n, I, L, R, nc, ns, nx) = rf d 71 17 ls (.ref 6 :: s) (SH n, I, L, R, nc, ns, nx) := g_R (idx := 9) (by decide +kernel) ow71 f_5_9 rfl rfl (by decide) (ly_5_0 hR)
theorem e71_17 : rf d 71 17 [some (.ref a), l1] s h = rf d 71 18 [some (.ref a), l1] (.ref a :: s) h := rf_pure (i := .aload_n 0) (len := 1) (okD_ok (by decide +kernel)) rfl
theorem e71_18 : rf d 71 18 ls (.ref 5 :: s) (SH n, I, L, R, nc, ns, nx) = rf d 71 21 ls (.int (I 5 2) :: s) (SH n, I, L, R, nc, ns, nx) := g_I (idx := 16) (by decide +kernel) ow71 f_5_16 rfl rfl (by decide)
theorem e71_21 : rf d 71 21 ls s h = rf d 71 22 ls (.int 1 :: s) h := rf_pure (i := .iconst (1)) (len := 1) (okD_ok (by decide +kernel)) rfl
theorem e71_22 : rf d 71 22 ls (.int y :: .int x :: s) h = rf d 71 23 ls (.int (x - y) :: s) h := rf_pure (i := .isub) (len := 1) (okD_ok (by decide +kernel)) rfl
theorem e71_23 : rf d 71 23 ls s h = rf d 71 24 ls (.int 4 :: s) h := rf_pure (i := .iconst (4)) (len := 1) (okD_ok (by decide +kernel)) rfl
theorem e71_24 : rf d 71 24 ls (.int y :: .int x :: s) h = rf d 71 25 ls (.int (x * y) :: s) h := rf_pure (i := .imul) (len := 1) (okD_ok (by decide +kernel)) rfl
theorem e71_25 : rf d 71 25 [l0, some (.ref a)] s h = rf d 71 26 [l0, some (.ref a)] (.ref a :: s) h := rf_pure (i := .aload_n 1) (len := 1) (okD_ok (by decide +kernel)) rfl
theorem e71_26 : rf d 71 26 ls s h = rf d 71 27 ls (.int 0 :: s) h := rf_pure (i := .iconst (0)) (len := 1) (okD_ok (by decide +kernel)) rfl
theorem e71_27 : rf d 71 27 ls s h = rf d 71 28 ls (.int 4 :: s) h := rf_pure (i := .iconst (4)) (len := 1) (okD_ok (by decide +kernel)) rfl
theorem e71_28 (hcat : ip_cat s ≤ 8) (ka : kd (SH n) a = 100 ∧ 2 ≤ a) (kb : kd (SH n) b = 100 ∧ 2 ≤ b) (hsp : ¬ sp < 0 ∧ ¬ dp < 0 ∧ ¬ z < 0 ∧ sp.toNatClampNeg + z.toNatClampNeg ≤ ln (SH n) b ∧ dp.toNatClampNeg + z.toNatClampNeg ≤ ln (SH n) a) : rf d 71 28 ls (.int z :: .int dp :: .ref a :: .int sp :: .ref b :: s) (SH n, I, L, R, nc, ns, nx) = rf d 71 31 ls s (SH n, ip_row I a (va_cpy (I b) (I a) sp.toNatClampNeg dp.toNatClampNeg z.toNatClampNeg), L, R, nc, ns, true) := g_cpI (idx := 37) (by decide +kernel) ow71 (by decide +kernel) hcat ka kb hsp
theorem e71_28l (hcat : ip_cat s ≤ 8) (ka : kd (SH n) a = 101 ∧ 2 ≤ a) (kb : kd (SH n) b = 101 ∧ 2 ≤ b) (hsp : ¬ sp < 0 ∧ ¬ dp < 0 ∧ ¬ z < 0 ∧ sp.toNatClampNeg + z.toNatClampNeg ≤ ln (SH n) b ∧ dp.toNatClampNeg + z.toNatClampNeg ≤ ln (SH n) a) : rf d 71 28 ls (.int z :: .int dp :: .ref a :: .int sp :: .ref b :: s) (SH n, I, L, R, nc, ns, nx) = rf d 71 31 ls s (SH n, I, ip_row L a (va_cpy (L b) (L a) sp.toNatClampNeg dp.toNatClampNeg z.toNatClampNeg), R, nc, ns, true) := g_cpL (idx := 37) (by decide +kernel) ow71 (by decide +kernel) hcat ka kb hsp
theorem e71_31 : rf d 71 31 ls [] h = some (.inl none, h) := g_rv (by decide +kernel) rt71
theorem en72 : cf d 72 [.ref a, .ref a0] h = rf d 72 0 [some (.ref a), some (.ref a0), none] [] h := rfl
theorem e72_0 : rf d 72 0 [some (.ref a), l1, l2] s h = rf d 72 1 [some (.ref a), l1, l2] (.ref a :: s) h := rf_pure (i := .aload_n 0) (len := 1) (okD_ok (by decide +kernel)) rfl
theorem e72_1 : rf d 72 1 ls (.ref 4 :: s) (SH n, I, L, R, nc, ns, nx) = rf d 72 4 ls (ip_rf (R 4 2) :: s) (SH n, I, L, R, nc, ns, nx) := g_R (idx := 25) (by decide +kernel) ow72 f_4_25 rfl rfl (by decide) rfl
theorem e72_4 (hn : ip_nl l1 = true) : rf d 72 4 [l0, l1, l2] (.ref a :: s) h = rf d 72 5 [l0, l1, some (.ref a)] s h := g_sta (i := .astore_n 2) (len := 1) (q := 1) (p := 1) (by decide +kernel) rfl rfl hn
theorem e72_5 : rf d 72 5 [some (.ref a), l1, l2] s h = rf d 72 6 [some (.ref a), l1, l2] (.ref a :: s) h := rf_pure (i := .aload_n 0) (len := 1) (okD_ok (by decide +kernel)) rfl
theorem e72_6 : rf d 72 6 [l0, some (.ref a), l2] s h = rf d 72 7 [l0, some (.ref a), l2] (.ref a :: s) h := rf_pure (i := .aload_n 1) (len := 1) (okD_ok (by decide +kernel)) rfl
theorem e72_7 : rf d 72 7 ls (.ref b :: .ref 4 :: s) (SH n, I, L, R, nc, ns, nx) = rf d 72 10 ls s (SH n, I, L, ip_up R 4 2 (some b), nc, ns, nx) := g_pR (idx := 25) (by decide +kernel) ow72 f_4_25 rfl (by decide +kernel) rfl (by decide)
theorem e72_10 : rf d 72 10 [l0, l1, some (.ref a)] s h = rf d 72 11 [l0, l1, some (.ref a)] (.ref a :: s) h := rf_pure (i := .aload_n 2) (len := 1) (okD_ok (by decide +kernel)) rfl
theorem e72_11 : rf d 72 11 ls [.ref a] h = some (.inl (some (.ref a)), h) := g_ra (by decide +kernel) rt72
theorem en73 : cf d 73 [.ref a0, .int x1, .int x2, .ref a3] h = rf d 73 0 [some (.ref a0), some (.int x1), some (.int x2), some (.ref a3), none] [] h := rfl
theorem e73_0 : rf d 73 0 [l0, l1, l2, some (.ref a), l4] s h = rf d 73 1 [l0, l1, l2, some (.ref a), l4] (.ref a :: s) h := rf_pure (i := .aload_n 3) (len := 1) (okD_ok (by decide +kernel)) rfl
theorem e73_1 : rf d 73 1 ls s h = rf d 73 2 ls (.int 0 :: s) h := rf_pure (i := .iconst (0)) (len := 1) (okD_ok (by decide +kernel)) rfl
theorem e73_2 : rf d 73 2 [some (.ref a), l1, l2, l3, l4] s h = rf d 73 3 [some (.ref a), l1, l2, l3, l4] (.ref a :: s) h := rf_pure (i := .aload_n 0) (len := 1) (okD_ok (by decide +kernel)) rfl
theorem e73_3 : rf d 73 3 [l0, some (.int x), l2, l3, l4] s h = rf d 73 4 [l0, some (.int x), l2, l3, l4] (.int x :: s) h := rf_pure (i := .iload_n 1) (len := 1) (okD_ok (by decide +kernel)) rfl
theorem e73_4 : rf d 73 4 [l0, l1, some (.int x), l3, l4] s h = rf d 73 5 [l0, l1, some (.int x), l3, l4] (.int x :: s) h := rf_pure (i := .iload_n 2) (len := 1) (okD_ok (by decide +kernel)) rfl
theorem e73_5 (hcat : ip_cat s ≤ 8) : rf (d + 1) 73 5 ls (.int x1 :: .int x0 :: .ref 2 :: s) (SH n, I, L, R, nc, ns, nx) = rf_k (d + 1) 73 5 ls s (cf d 74 [.ref 2, .int x0, .int x1] (SH n, I, L, R, nc, ns, nx)) := g_cv (idx := 15) (t := 7) [.int x1, .int x0] (by decide +kernel) ow73 ms_9_15 mt_9_15 cy74_7 rfl rfl mL74 rfl rfl (by decide) hcat
theorem e73_8 : rf d 73 8 ls (.int x :: s) h = rf d 73 9 ls (.long x.toInt64 :: s) h := rf_pure (i := .i2l) (len := 1) (okD_ok (by decide +kernel)) rfl
theorem e73_9 (q : la n a j) : rf d 73 9 ls (.long u :: .int j :: .ref a :: s) (SH n, I, L, R, nc, ns, nx) = rf d 73 10 ls s (SH n, I, ip_up L a j.toNatClampNeg u, R, nc, ns, nx) := g_las (by decide +kernel) q
theorem e73_10 : rf d 73 10 ls s h = rf d 73 21 ls s h := rf_goto ⟨okD_ok (i := .goto (11)) (len := 3) (by decide +kernel), rfl⟩
theorem e73_21 : rf d 73 21 ls s h = rf d 73 22 ls (.int 0 :: s) h := rf_pure (i := .iconst (0)) (len := 1) (okD_ok (by decide +kernel)) rfl
theorem e73_22 : rf d 73 22 ls [.int x] h = some (.inl (some (.int x)), h) := g_ri (by decide +kernel) rt73
theorem en74 : cf d 74 [.ref a, .int x0, .int x1] h = rf d 74 0 [some (.ref a), some (.int x0), some (.int x1)] [] h := rfl
theorem e74_0 : rf d 74 0 [some (.ref a), l1, l2] s h = rf d 74 1 [some (.ref a), l1, l2] (.ref a :: s) h := rf_pure (i := .aload_n 0) (len := 1) (okD_ok (by decide +kernel)) rfl
theorem e74_1 : rf d 74 1 [l0, some (.int x), l2] s h = rf d 74 2 [l0, some (.int x), l2] (.int x :: s) h := rf_pure (i := .iload_n 1) (len := 1) (okD_ok (by decide +kernel)) rfl
theorem e74_2 (hcat : ip_cat s ≤ 8) : rf (d + 1) 74 2 ls (.int x0 :: .ref 2 :: s) (SH n, I, L, R, nc, ns, nx) = rf_k (d + 1) 74 2 ls s (cf d 75 [.ref 2, .int x0] (SH n, I, L, R, nc, ns, nx)) := g_cv (idx := 100) (t := 7) [.int x0] (by decide +kernel) ow74 ms_7_100 mt_7_100 cy75_7 rfl rfl mL75 rfl rfl (by decide) hcat
theorem e74_5 : rf d 74 5 [l0, l1, some (.int x)] s h = rf d 74 6 [l0, l1, some (.int x)] (.int x :: s) h := rf_pure (i := .iload_n 2) (len := 1) (okD_ok (by decide +kernel)) rfl
theorem e74_32 : rf d 74 32 [some (.ref a), l1, l2] s h = rf d 74 33 [some (.ref a), l1, l2] (.ref a :: s) h := rf_pure (i := .aload_n 0) (len := 1) (okD_ok (by decide +kernel)) rfl
theorem e74_33 : rf d 74 33 ls (.ref 2 :: s) (SH n, I, L, R, nc, ns, nx) = rf d 74 36 ls (ip_rf (R 2 4) :: s) (SH n, I, L, R, nc, ns, nx) := g_R (idx := 30) (by decide +kernel) ow74 f_7_30 rfl rfl (by decide) rfl
theorem e74_36 (hR : LYR R) (ha : isT a) : rf d 74 36 ls (.ref a :: s) (SH n, I, L, R, nc, ns, nx) = rf d 74 39 ls (.ref (a + 2) :: s) (SH n, I, L, R, nc, ns, nx) := g_R (idx := 103) (by decide +kernel) ow74 f_7_103 rfl (kdT0 ha) (geT ha) (lyT1 hR ha)
theorem e74_39 : rf d 74 39 [l0, some (.int x), l2] s h = rf d 74 40 [l0, some (.int x), l2] (.int x :: s) h := rf_pure (i := .iload_n 1) (len := 1) (okD_ok (by decide +kernel)) rfl
theorem e74_40 (q : ia n a j) : rf d 74 40 ls (.int j :: .ref a :: s) (SH n, I, L, R, nc, ns, nx) = rf d 74 41 ls (.int (I a j.toNatClampNeg) :: s) (SH n, I, L, R, nc, ns, nx) := g_ial (by decide +kernel) q
theorem e74_41 : rf d 74 41 ls [.int x] h = some (.inl (some (.int x)), h) := g_ri (by decide +kernel) rt74
theorem e74_42 : rf d 74 42 [some (.ref a), l1, l2] s h = rf d 74 43 [some (.ref a), l1, l2] (.ref a :: s) h := rf_pure (i := .aload_n 0) (len := 1) (okD_ok (by decide +kernel)) rfl
theorem e74_43 : rf d 74 43 ls (.ref 2 :: s) (SH n, I, L, R, nc, ns, nx) = rf d 74 46 ls (ip_rf (R 2 4) :: s) (SH n, I, L, R, nc, ns, nx) := g_R (idx := 30) (by decide +kernel) ow74 f_7_30 rfl rfl (by decide) rfl
theorem e74_46 (hR : LYR R) (ha : isT a) : rf d 74 46 ls (.ref a :: s) (SH n, I, L, R, nc, ns, nx) = rf d 74 49 ls (.ref (a + 3) :: s) (SH n, I, L, R, nc, ns, nx) := g_R (idx := 106) (by decide +kernel) ow74 f_7_106 rfl (kdT0 ha) (geT ha) (lyT2 hR ha)
theorem e74_49 : rf d 74 49 [l0, some (.int x), l2] s h = rf d 74 50 [l0, some (.int x), l2] (.int x :: s) h := rf_pure (i := .iload_n 1) (len := 1) (okD_ok (by decide +kernel)) rfl
theorem e74_50 (q : ia n a j) : rf d 74 50 ls (.int j :: .ref a :: s) (SH n, I, L, R, nc, ns, nx) = rf d 74 51 ls (.int (I a j.toNatClampNeg) :: s) (SH n, I, L, R, nc, ns, nx) := g_ial (by decide +kernel) q
theorem e74_51 : rf d 74 51 ls [.int x] h = some (.inl (some (.int x)), h) := g_ri (by decide +kernel) rt74
theorem e74_52 : rf d 74 52 [some (.ref a), l1, l2] s h = rf d 74 53 [some (.ref a), l1, l2] (.ref a :: s) h := rf_pure (i := .aload_n 0) (len := 1) (okD_ok (by decide +kernel)) rfl
theorem e74_53 : rf d 74 53 ls (.ref 2 :: s) (SH n, I, L, R, nc, ns, nx) = rf d 74 56 ls (ip_rf (R 2 4) :: s) (SH n, I, L, R, nc, ns, nx) := g_R (idx := 30) (by decide +kernel) ow74 f_7_30 rfl rfl (by decide) rfl
theorem e74_56 (hR : LYR R) (ha : isT a) : rf d 74 56 ls (.ref a :: s) (SH n, I, L, R, nc, ns, nx) = rf d 74 59 ls (.ref (a + 4) :: s) (SH n, I, L, R, nc, ns, nx) := g_R (idx := 109) (by decide +kernel) ow74 f_7_109 rfl (kdT0 ha) (geT ha) (lyT3 hR ha)
theorem e74_59 : rf d 74 59 [l0, some (.int x), l2] s h = rf d 74 60 [l0, some (.int x), l2] (.int x :: s) h := rf_pure (i := .iload_n 1) (len := 1) (okD_ok (by decide +kernel)) rfl
theorem e74_60 (q : ia n a j) : rf d 74 60 ls (.int j :: .ref a :: s) (SH n, I, L, R, nc, ns, nx) = rf d 74 61 ls (.int (I a j.toNatClampNeg) :: s) (SH n, I, L, R, nc, ns, nx) := g_ial (by decide +kernel) q
theorem e74_61 : rf d 74 61 ls [.int x] h = some (.inl (some (.int x)), h) := g_ri (by decide +kernel) rt74
theorem e74_62 : rf d 74 62 ls [] h = some (.inr "java/util/NoSuchElementException", ip_hx h) := g_thr (idx := 112) (by decide +kernel) ow74 (by decide +kernel) (by decide +kernel)
theorem en75 : cf d 75 [.ref a, .int x0] h = rf d 75 0 [some (.ref a), some (.int x0)] [] h := rfl
theorem e75_0 : rf d 75 0 [l0, some (.int x)] s h = rf d 75 1 [l0, some (.int x)] (.int x :: s) h := rf_pure (i := .iload_n 1) (len := 1) (okD_ok (by decide +kernel)) rfl
theorem e75_1 : rf d 75 1 ls (.int x :: s) h = if x < 0 then rf d 75 15 ls s h else rf d 75 4 ls s h := g_if (c := .lt) (off := 14) _ (by decide +kernel) rfl cmp_d
theorem e75_4 : rf d 75 4 [l0, some (.int x)] s h = rf d 75 5 [l0, some (.int x)] (.int x :: s) h := rf_pure (i := .iload_n 1) (len := 1) (okD_ok (by decide +kernel)) rfl
theorem e75_5 : rf d 75 5 [some (.ref a), l1] s h = rf d 75 6 [some (.ref a), l1] (.ref a :: s) h := rf_pure (i := .aload_n 0) (len := 1) (okD_ok (by decide +kernel)) rfl
theorem e75_6 : rf d 75 6 ls (.ref 2 :: s) (SH n, I, L, R, nc, ns, nx) = rf d 75 9 ls (ip_rf (R 2 4) :: s) (SH n, I, L, R, nc, ns, nx) := g_R (idx := 30) (by decide +kernel) ow75 f_7_30 rfl rfl (by decide) rfl
theorem e75_9 (ha : isT a) : rf d 75 9 ls (.ref a :: s) (SH n, I, L, R, nc, ns, nx) = rf d 75 12 ls (.int (I a 6) :: s) (SH n, I, L, R, nc, ns, nx) := g_I (idx := 97) (by decide +kernel) ow75 f_7_97 rfl (kdT0 ha) (geT ha)
theorem e75_12 : rf d 75 12 ls (.int y :: .int x :: s) h = if x < y then rf d 75 26 ls s h else rf d 75 15 ls s h := g_ic (c := .lt) (off := 14) _ (by decide +kernel) rfl cmp_d
theorem e75_15 : rf d 75 15 ls [] h = some (.inr "java/lang/IndexOutOfBoundsException", ip_hx h) := g_thr (idx := 387) (by decide +kernel) ow75 (by decide +kernel) (by decide +kernel)
theorem e75_26 : rf d 75 26 ls [] h = some (.inl none, h) := g_rv (by decide +kernel) rt75
theorem en76 : cf d 76 [.ref a0, .int x1, .int x2, .ref a3] h = rf d 76 0 [some (.ref a0), some (.int x1), some (.int x2), some (.ref a3), none] [] h := rfl
theorem e76_0 : rf d 76 0 [l0, l1, l2, some (.ref a), l4] s h = rf d 76 1 [l0, l1, l2, some (.ref a), l4] (.ref a :: s) h := rf_pure (i := .aload_n 3) (len := 1) (okD_ok (by decide +kernel)) rfl
theorem e76_1 : rf d 76 1 ls s h = rf d 76 2 ls (.int 0 :: s) h := rf_pure (i := .iconst (0)) (len := 1) (okD_ok (by decide +kernel)) rfl
theorem e76_2 : rf d 76 2 [some (.ref a), l1, l2, l3, l4] s h = rf d 76 3 [some (.ref a), l1, l2, l3, l4] (.ref a :: s) h := rf_pure (i := .aload_n 0) (len := 1) (okD_ok (by decide +kernel)) rfl
theorem e76_3 : rf d 76 3 [l0, some (.int x), l2, l3, l4] s h = rf d 76 4 [l0, some (.int x), l2, l3, l4] (.int x :: s) h := rf_pure (i := .iload_n 1) (len := 1) (okD_ok (by decide +kernel)) rfl
theorem e76_4 : rf d 76 4 [l0, l1, some (.int x), l3, l4] s h = rf d 76 5 [l0, l1, some (.int x), l3, l4] (.int x :: s) h := rf_pure (i := .iload_n 2) (len := 1) (okD_ok (by decide +kernel)) rfl
theorem e76_5 (hcat : ip_cat s ≤ 8) : rf (d + 1) 76 5 ls (.int x1 :: .int x0 :: .ref 2 :: s) (SH n, I, L, R, nc, ns, nx) = rf_k (d + 1) 76 5 ls s (cf d 77 [.ref 2, .int x0, .int x1] (SH n, I, L, R, nc, ns, nx)) := g_cv (idx := 23) (t := 7) [.int x1, .int x0] (by decide +kernel) ow76 ms_9_23 mt_9_23 cy77_7 rfl rfl mL77 rfl rfl (by decide) hcat
theorem e76_8 : rf d 76 8 ls (.int x :: s) h = rf d 76 9 ls (.long x.toInt64 :: s) h := rf_pure (i := .i2l) (len := 1) (okD_ok (by decide +kernel)) rfl
theorem e76_9 (q : la n a j) : rf d 76 9 ls (.long u :: .int j :: .ref a :: s) (SH n, I, L, R, nc, ns, nx) = rf d 76 10 ls s (SH n, I, ip_up L a j.toNatClampNeg u, R, nc, ns, nx) := g_las (by decide +kernel) q
theorem e76_10 : rf d 76 10 ls s h = rf d 76 17 ls s h := rf_goto ⟨okD_ok (i := .goto (7)) (len := 3) (by decide +kernel), rfl⟩
theorem e76_17 : rf d 76 17 ls s h = rf d 76 18 ls (.int 0 :: s) h := rf_pure (i := .iconst (0)) (len := 1) (okD_ok (by decide +kernel)) rfl
theorem e76_18 : rf d 76 18 ls [.int x] h = some (.inl (some (.int x)), h) := g_ri (by decide +kernel) rt76
theorem en77 : cf d 77 [.ref a, .int x0, .int x1] h = rf d 77 0 [some (.ref a), some (.int x0), some (.int x1)] [] h := rfl
theorem e77_0 : rf d 77 0 [some (.ref a), l1, l2] s h = rf d 77 1 [some (.ref a), l1, l2] (.ref a :: s) h := rf_pure (i := .aload_n 0) (len := 1) (okD_ok (by decide +kernel)) rfl
theorem e77_1 : rf d 77 1 [l0, some (.int x), l2] s h = rf d 77 2 [l0, some (.int x), l2] (.int x :: s) h := rf_pure (i := .iload_n 1) (len := 1) (okD_ok (by decide +kernel)) rfl
theorem e77_2 (hcat : ip_cat s ≤ 8) : rf (d + 1) 77 2 ls (.int x0 :: .ref 2 :: s) (SH n, I, L, R, nc, ns, nx) = rf_k (d + 1) 77 2 ls s (cf d 75 [.ref 2, .int x0] (SH n, I, L, R, nc, ns, nx)) := g_cv (idx := 100) (t := 7) [.int x0] (by decide +kernel) ow77 ms_7_100 mt_7_100 cy75_7 rfl rfl mL75 rfl rfl (by decide) hcat
theorem e77_5 : rf d 77 5 [some (.ref a), l1, l2] s h = rf d 77 6 [some (.ref a), l1, l2] (.ref a :: s) h := rf_pure (i := .aload_n 0) (len := 1) (okD_ok (by decide +kernel)) rfl
theorem e77_6 : rf d 77 6 ls (.ref 2 :: s) (SH n, I, L, R, nc, ns, nx) = rf d 77 9 ls (ip_rf (R 2 4) :: s) (SH n, I, L, R, nc, ns, nx) := g_R (idx := 30) (by decide +kernel) ow77 f_7_30 rfl rfl (by decide) rfl
theorem e77_9 : rf d 77 9 [l0, some (.int x), l2] s h = rf d 77 10 [l0, some (.int x), l2] (.int x :: s) h := rf_pure (i := .iload_n 1) (len := 1) (okD_ok (by decide +kernel)) rfl
theorem e77_10 : rf d 77 10 [l0, l1, some (.int x)] s h = rf d 77 11 [l0, l1, some (.int x)] (.int x :: s) h := rf_pure (i := .iload_n 2) (len := 1) (okD_ok (by decide +kernel)) rfl
theorem e77_11 (hb : isT b) (hcat : ip_cat s ≤ 8) : rf (d + 1) 77 11 ls (.int x1 :: .int x0 :: .ref b :: s) (SH n, I, L, R, nc, ns, nx) = rf_k (d + 1) 77 11 ls s (cf d 50 [.ref b, .int x0, .int x1] (SH n, I, L, R, nc, ns, nx)) := g_cv (idx := 117) (t := 6) [.int x1, .int x0] (by decide +kernel) ow77 ms_7_117 mt_7_117 cy50_6 rfl rfl mL50 rfl (kdT0 hb) (geT hb) hcat
theorem e77_14 : rf d 77 14 ls [.int x] h = some (.inl (some (.int x)), h) := g_ri (by decide +kernel) rt77
theorem en78 : cf d 78 [.ref a0, .int x1, .int x2, .ref a3] h = rf d 78 0 [some (.ref a0), some (.int x1), some (.int x2), some (.ref a3), none] [] h := rfl
theorem e78_0 : rf d 78 0 [l0, l1, l2, some (.ref a), l4] s h = rf d 78 1 [l0, l1, l2, some (.ref a), l4] (.ref a :: s) h := rf_pure (i := .aload_n 3) (len := 1) (okD_ok (by decide +kernel)) rfl
theorem e78_1 : rf d 78 1 ls s h = rf d 78 2 ls (.int 0 :: s) h := rf_pure (i := .iconst (0)) (len := 1) (okD_ok (by decide +kernel)) rfl
theorem e78_2 : rf d 78 2 [some (.ref a), l1, l2, l3, l4] s h = rf d 78 3 [some (.ref a), l1, l2, l3, l4] (.ref a :: s) h := rf_pure (i := .aload_n 0) (len := 1) (okD_ok (by decide +kernel)) rfl
theorem e78_3 : rf d 78 3 [l0, some (.int x), l2, l3, l4] s h = rf d 78 4 [l0, some (.int x), l2, l3, l4] (.int x :: s) h := rf_pure (i := .iload_n 1) (len := 1) (okD_ok (by decide +kernel)) rfl
theorem e78_4 : rf d 78 4 [l0, l1, some (.int x), l3, l4] s h = rf d 78 5 [l0, l1, some (.int x), l3, l4] (.int x :: s) h := rf_pure (i := .iload_n 2) (len := 1) (okD_ok (by decide +kernel)) rfl
theorem e78_5 (hcat : ip_cat s ≤ 8) : rf (d + 1) 78 5 ls (.int x1 :: .int x0 :: .ref 2 :: s) (SH n, I, L, R, nc, ns, nx) = rf_k (d + 1) 78 5 ls s (cf d 79 [.ref 2, .int x0, .int x1] (SH n, I, L, R, nc, ns, nx)) := g_cv (idx := 26) (t := 7) [.int x1, .int x0] (by decide +kernel) ow78 ms_9_26 mt_9_26 cy79_7 rfl rfl mL79 rfl rfl (by decide) hcat
theorem e78_8 : rf d 78 8 ls (.int x :: s) h = rf d 78 9 ls (.long x.toInt64 :: s) h := rf_pure (i := .i2l) (len := 1) (okD_ok (by decide +kernel)) rfl
theorem e78_9 (q : la n a j) : rf d 78 9 ls (.long u :: .int j :: .ref a :: s) (SH n, I, L, R, nc, ns, nx) = rf d 78 10 ls s (SH n, I, ip_up L a j.toNatClampNeg u, R, nc, ns, nx) := g_las (by decide +kernel) q
theorem e78_10 : rf d 78 10 ls s h = rf d 78 17 ls s h := rf_goto ⟨okD_ok (i := .goto (7)) (len := 3) (by decide +kernel), rfl⟩
theorem e78_17 : rf d 78 17 ls s h = rf d 78 18 ls (.int 0 :: s) h := rf_pure (i := .iconst (0)) (len := 1) (okD_ok (by decide +kernel)) rfl
theorem e78_18 : rf d 78 18 ls [.int x] h = some (.inl (some (.int x)), h) := g_ri (by decide +kernel) rt78
theorem en79 : cf d 79 [.ref a, .int x0, .int x1] h = rf d 79 0 [some (.ref a), some (.int x0), some (.int x1)] [] h := rfl
theorem e79_0 : rf d 79 0 [l0, some (.int x), l2] s h = rf d 79 1 [l0, some (.int x), l2] (.int x :: s) h := rf_pure (i := .iload_n 1) (len := 1) (okD_ok (by decide +kernel)) rfl
theorem e79_1 : rf d 79 1 [l0, l1, some (.int x)] s h = rf d 79 2 [l0, l1, some (.int x)] (.int x :: s) h := rf_pure (i := .iload_n 2) (len := 1) (okD_ok (by decide +kernel)) rfl
theorem e79_2 (hcat : ip_cat s ≤ 8) : rf (d + 1) 79 2 ls (.int x1 :: .int x0 :: s) h = rf_k (d + 1) 79 2 ls s (cf d 80 [.int x0, .int x1] h) := g_cs (idx := 121) [.int x1, .int x0] (by decide +kernel) ow79 ms_7_121 mt_7_121 (by decide) rfl mL80 rfl hcat
theorem e79_5 : rf d 79 5 [some (.ref a), l1, l2] s h = rf d 79 6 [some (.ref a), l1, l2] (.ref a :: s) h := rf_pure (i := .aload_n 0) (len := 1) (okD_ok (by decide +kernel)) rfl
theorem e79_6 : rf d 79 6 ls (.ref 2 :: s) (SH n, I, L, R, nc, ns, nx) = rf d 79 9 ls (ip_rf (R 2 4) :: s) (SH n, I, L, R, nc, ns, nx) := g_R (idx := 30) (by decide +kernel) ow79 f_7_30 rfl rfl (by decide) rfl
theorem e79_9 (hR : LYR R) (ha : isT a) : rf d 79 9 ls (.ref a :: s) (SH n, I, L, R, nc, ns, nx) = rf d 79 12 ls (.ref (a + 5) :: s) (SH n, I, L, R, nc, ns, nx) := g_R (idx := 125) (by decide +kernel) ow79 f_7_125 rfl (kdT0 ha) (geT ha) (lyT4 hR ha)
theorem e79_12 : rf d 79 12 [l0, some (.int x), l2] s h = rf d 79 13 [l0, some (.int x), l2] (.int x :: s) h := rf_pure (i := .iload_n 1) (len := 1) (okD_ok (by decide +kernel)) rfl
theorem e79_13 : rf d 79 13 [l0, l1, some (.int x)] s h = rf d 79 14 [l0, l1, some (.int x)] (.int x :: s) h := rf_pure (i := .iload_n 2) (len := 1) (okD_ok (by decide +kernel)) rfl
theorem e79_14 (hcat : ip_cat s ≤ 8) : rf (d + 1) 79 14 ls (.int x1 :: .int x0 :: s) h = rf_k (d + 1) 79 14 ls s (cf d 81 [.int x0, .int x1] h) := g_cs (idx := 128) [.int x1, .int x0] (by decide +kernel) ow79 ms_7_128 mt_7_128 (by decide) rfl mL81 rfl hcat
theorem e79_17 (q : ia n a j) : rf d 79 17 ls (.int j :: .ref a :: s) (SH n, I, L, R, nc, ns, nx) = rf d 79 18 ls (.int (I a j.toNatClampNeg) :: s) (SH n, I, L, R, nc, ns, nx) := g_ial (by decide +kernel) q
theorem e79_18 : rf d 79 18 ls [.int x] h = some (.inl (some (.int x)), h) := g_ri (by decide +kernel) rt79
theorem en80 : cf d 80 [.int x0, .int x1] h = rf d 80 0 [some (.int x0), some (.int x1)] [] h := rfl
theorem e80_0 : rf d 80 0 [some (.int x), l1] s h = rf d 80 1 [some (.int x), l1] (.int x :: s) h := rf_pure (i := .iload_n 0) (len := 1) (okD_ok (by decide +kernel)) rfl
theorem e80_1 : rf d 80 1 ls s h = rf d 80 2 ls (.int 1 :: s) h := rf_pure (i := .iconst (1)) (len := 1) (okD_ok (by decide +kernel)) rfl
theorem e80_2 : rf d 80 2 ls (.int y :: .int x :: s) h = if x < y then rf d 80 19 ls s h else rf d 80 5 ls s h := g_ic (c := .lt) (off := 17) _ (by decide +kernel) rfl cmp_d
theorem e80_5 : rf d 80 5 [some (.int x), l1] s h = rf d 80 6 [some (.int x), l1] (.int x :: s) h := rf_pure (i := .iload_n 0) (len := 1) (okD_ok (by decide +kernel)) rfl
theorem e80_6 : rf d 80 6 ls s h = rf d 80 7 ls (.int 2 :: s) h := rf_pure (i := .iconst (2)) (len := 1) (okD_ok (by decide +kernel)) rfl
theorem e80_7 : rf d 80 7 ls (.int y :: .int x :: s) h = if y < x then rf d 80 19 ls s h else rf d 80 10 ls s h := g_ic (c := .gt) (off := 12) _ (by decide +kernel) rfl cmp_d
theorem e80_10 : rf d 80 10 [l0, some (.int x)] s h = rf d 80 11 [l0, some (.int x)] (.int x :: s) h := rf_pure (i := .iload_n 1) (len := 1) (okD_ok (by decide +kernel)) rfl
theorem e80_11 : rf d 80 11 ls (.int x :: s) h = if x < 0 then rf d 80 19 ls s h else rf d 80 14 ls s h := g_if (c := .lt) (off := 8) _ (by decide +kernel) rfl cmp_d
theorem e80_14 : rf d 80 14 [l0, some (.int x)] s h = rf d 80 15 [l0, some (.int x)] (.int x :: s) h := rf_pure (i := .iload_n 1) (len := 1) (okD_ok (by decide +kernel)) rfl
theorem e80_15 : rf d 80 15 ls s h = rf d 80 16 ls (.int 3 :: s) h := rf_pure (i := .iconst (3)) (len := 1) (okD_ok (by decide +kernel)) rfl
theorem e80_16 : rf d 80 16 ls (.int y :: .int x :: s) h = if x < y then rf d 80 30 ls s h else rf d 80 19 ls s h := g_ic (c := .lt) (off := 14) _ (by decide +kernel) rfl cmp_d
theorem e80_19 : rf d 80 19 ls [] h = some (.inr "java/lang/IllegalArgumentException", ip_hx h) := g_thr (idx := 86) (by decide +kernel) ow80 (by decide +kernel) (by decide +kernel)
theorem e80_30 : rf d 80 30 ls [] h = some (.inl none, h) := g_rv (by decide +kernel) rt80
theorem en81 : cf d 81 [.int x0, .int x1] h = rf d 81 0 [some (.int x0), some (.int x1)] [] h := rfl
theorem e81_0 : rf d 81 0 [some (.int x), l1] s h = rf d 81 1 [some (.int x), l1] (.int x :: s) h := rf_pure (i := .iload_n 0) (len := 1) (okD_ok (by decide +kernel)) rfl
theorem e81_1 : rf d 81 1 ls s h = rf d 81 2 ls (.int 1 :: s) h := rf_pure (i := .iconst (1)) (len := 1) (okD_ok (by decide +kernel)) rfl
theorem e81_2 : rf d 81 2 ls (.int y :: .int x :: s) h = rf d 81 3 ls (.int (x - y) :: s) h := rf_pure (i := .isub) (len := 1) (okD_ok (by decide +kernel)) rfl
theorem e81_3 : rf d 81 3 ls s h = rf d 81 4 ls (.int 3 :: s) h := rf_pure (i := .iconst (3)) (len := 1) (okD_ok (by decide +kernel)) rfl
theorem e81_4 : rf d 81 4 ls (.int y :: .int x :: s) h = rf d 81 5 ls (.int (x * y) :: s) h := rf_pure (i := .imul) (len := 1) (okD_ok (by decide +kernel)) rfl
theorem e81_5 : rf d 81 5 [l0, some (.int x)] s h = rf d 81 6 [l0, some (.int x)] (.int x :: s) h := rf_pure (i := .iload_n 1) (len := 1) (okD_ok (by decide +kernel)) rfl
theorem e81_6 : rf d 81 6 ls (.int y :: .int x :: s) h = rf d 81 7 ls (.int (x + y) :: s) h := rf_pure (i := .iadd) (len := 1) (okD_ok (by decide +kernel)) rfl
theorem e81_7 : rf d 81 7 ls [.int x] h = some (.inl (some (.int x)), h) := g_ri (by decide +kernel) rt81
theorem en82 : cf d 82 [.ref a0, .int x1, .int x2, .int x3, .ref a4] h = rf d 82 0 [some (.ref a0), some (.int x1), some (.int x2), some (.int x3), some (.ref a4), none] [] h := rfl
theorem e82_0 : rf d 82 0 [l0, l1, l2, l3, some (.ref a), l5] s h = rf d 82 2 [l0, l1, l2, l3, some (.ref a), l5] (.ref a :: s) h := rf_pure (i := .aload 4) (len := 2) (okD_ok (by decide +kernel)) rfl
theorem e82_2 : rf d 82 2 ls s h = rf d 82 3 ls (.int 0 :: s) h := rf_pure (i := .iconst (0)) (len := 1) (okD_ok (by decide +kernel)) rfl
theorem e82_3 : rf d 82 3 [some (.ref a), l1, l2, l3, l4, l5] s h = rf d 82 4 [some (.ref a), l1, l2, l3, l4, l5] (.ref a :: s) h := rf_pure (i := .aload_n 0) (len := 1) (okD_ok (by decide +kernel)) rfl
theorem e82_4 : rf d 82 4 [l0, some (.int x), l2, l3, l4, l5] s h = rf d 82 5 [l0, some (.int x), l2, l3, l4, l5] (.int x :: s) h := rf_pure (i := .iload_n 1) (len := 1) (okD_ok (by decide +kernel)) rfl
theorem e82_5 : rf d 82 5 [l0, l1, some (.int x), l3, l4, l5] s h = rf d 82 6 [l0, l1, some (.int x), l3, l4, l5] (.int x :: s) h := rf_pure (i := .iload_n 2) (len := 1) (okD_ok (by decide +kernel)) rfl
theorem e82_6 : rf d 82 6 [l0, l1, l2, some (.int x), l4, l5] s h = rf d 82 7 [l0, l1, l2, some (.int x), l4, l5] (.int x :: s) h := rf_pure (i := .iload_n 3) (len := 1) (okD_ok (by decide +kernel)) rfl
theorem e82_7 (hcat : ip_cat s ≤ 8) : rf (d + 1) 82 7 ls (.int x2 :: .int x1 :: .int x0 :: .ref 2 :: s) (SH n, I, L, R, nc, ns, nx) = rf_k (d + 1) 82 7 ls s (cf d 83 [.ref 2, .int x0, .int x1, .int x2] (SH n, I, L, R, nc, ns, nx)) := g_cv (idx := 29) (t := 7) [.int x2, .int x1, .int x0] (by decide +kernel) ow82 ms_9_29 mt_9_29 cy83_7 rfl rfl mL83 rfl rfl (by decide) hcat
theorem e82_10 : rf d 82 10 ls (.int x :: s) h = rf d 82 11 ls (.long x.toInt64 :: s) h := rf_pure (i := .i2l) (len := 1) (okD_ok (by decide +kernel)) rfl
theorem e82_11 (q : la n a j) : rf d 82 11 ls (.long u :: .int j :: .ref a :: s) (SH n, I, L, R, nc, ns, nx) = rf d 82 12 ls s (SH n, I, ip_up L a j.toNatClampNeg u, R, nc, ns, nx) := g_las (by decide +kernel) q
theorem e82_12 : rf d 82 12 ls s h = rf d 82 19 ls s h := rf_goto ⟨okD_ok (i := .goto (7)) (len := 3) (by decide +kernel), rfl⟩
theorem e82_19 : rf d 82 19 ls s h = rf d 82 20 ls (.int 0 :: s) h := rf_pure (i := .iconst (0)) (len := 1) (okD_ok (by decide +kernel)) rfl
theorem e82_20 : rf d 82 20 ls [.int x] h = some (.inl (some (.int x)), h) := g_ri (by decide +kernel) rt82
theorem en83 : cf d 83 [.ref a, .int x0, .int x1, .int x2] h = rf d 83 0 [some (.ref a), some (.int x0), some (.int x1), some (.int x2), none, none] [] h := rfl
theorem e83_0 : rf d 83 0 [l0, some (.int x), l2, l3, l4, l5] s h = rf d 83 1 [l0, some (.int x), l2, l3, l4, l5] (.int x :: s) h := rf_pure (i := .iload_n 1) (len := 1) (okD_ok (by decide +kernel)) rfl
theorem e83_1 : rf d 83 1 [l0, l1, some (.int x), l3, l4, l5] s h = rf d 83 2 [l0, l1, some (.int x), l3, l4, l5] (.int x :: s) h := rf_pure (i := .iload_n 2) (len := 1) (okD_ok (by decide +kernel)) rfl
theorem e83_2 (hcat : ip_cat s ≤ 8) : rf (d + 1) 83 2 ls (.int x1 :: .int x0 :: s) h = rf_k (d + 1) 83 2 ls s (cf d 80 [.int x0, .int x1] h) := g_cs (idx := 121) [.int x1, .int x0] (by decide +kernel) ow83 ms_7_121 mt_7_121 (by decide) rfl mL80 rfl hcat
theorem e83_5 : rf d 83 5 [l0, l1, l2, some (.int x), l4, l5] s h = rf d 83 6 [l0, l1, l2, some (.int x), l4, l5] (.int x :: s) h := rf_pure (i := .iload_n 3) (len := 1) (okD_ok (by decide +kernel)) rfl
theorem e83_6 : rf d 83 6 ls (.int x :: s) h = if x < 0 then rf d 83 15 ls s h else rf d 83 9 ls s h := g_if (c := .lt) (off := 9) _ (by decide +kernel) rfl cmp_d
theorem e83_9 : rf d 83 9 [l0, l1, l2, some (.int x), l4, l5] s h = rf d 83 10 [l0, l1, l2, some (.int x), l4, l5] (.int x :: s) h := rf_pure (i := .iload_n 3) (len := 1) (okD_ok (by decide +kernel)) rfl
theorem e83_10 : rf d 83 10 ls s h = rf d 83 12 ls (.int 9 :: s) h := rf_pure (i := .bipush (9)) (len := 2) (okD_ok (by decide +kernel)) rfl
theorem e83_12 : rf d 83 12 ls (.int y :: .int x :: s) h = if x ≤ y then rf d 83 25 ls s h else rf d 83 15 ls s h := g_ic (c := .le) (off := 13) _ (by decide +kernel) rfl cmp_d
theorem e83_15 : rf d 83 15 ls [] h = some (.inr "java/lang/IllegalArgumentException", ip_hx h) := g_thr (idx := 86) (by decide +kernel) ow83 (by decide +kernel) (by decide +kernel)
theorem e83_25 : rf d 83 25 [l0, some (.int x), l2, l3, l4, l5] s h = rf d 83 26 [l0, some (.int x), l2, l3, l4, l5] (.int x :: s) h := rf_pure (i := .iload_n 1) (len := 1) (okD_ok (by decide +kernel)) rfl
theorem e83_26 : rf d 83 26 [l0, l1, some (.int x), l3, l4, l5] s h = rf d 83 27 [l0, l1, some (.int x), l3, l4, l5] (.int x :: s) h := rf_pure (i := .iload_n 2) (len := 1) (okD_ok (by decide +kernel)) rfl
theorem e83_27 (hcat : ip_cat s ≤ 8) : rf (d + 1) 83 27 ls (.int x1 :: .int x0 :: s) h = rf_k (d + 1) 83 27 ls s (cf d 81 [.int x0, .int x1] h) := g_cs (idx := 128) [.int x1, .int x0] (by decide +kernel) ow83 ms_7_128 mt_7_128 (by decide) rfl mL81 rfl hcat
theorem e83_30 (hn : ip_nl l3 = true) : rf d 83 30 [l0, l1, l2, l3, l4, l5] (.int x :: s) h = rf d 83 32 [l0, l1, l2, l3, some (.int x), l5] s h := g_sti (i := .istore 4) (len := 2) (q := 3) (p := 2) (by decide +kernel) rfl rfl hn
theorem e83_32 : rf d 83 32 [some (.ref a), l1, l2, l3, l4, l5] s h = rf d 83 33 [some (.ref a), l1, l2, l3, l4, l5] (.ref a :: s) h := rf_pure (i := .aload_n 0) (len := 1) (okD_ok (by decide +kernel)) rfl
theorem e83_33 : rf d 83 33 ls (.ref 2 :: s) (SH n, I, L, R, nc, ns, nx) = rf d 83 36 ls (ip_rf (R 2 4) :: s) (SH n, I, L, R, nc, ns, nx) := g_R (idx := 30) (by decide +kernel) ow83 f_7_30 rfl rfl (by decide) rfl
theorem e83_36 (hR : LYR R) (ha : isT a) : rf d 83 36 ls (.ref a :: s) (SH n, I, L, R, nc, ns, nx) = rf d 83 39 ls (.ref (a + 5) :: s) (SH n, I, L, R, nc, ns, nx) := g_R (idx := 125) (by decide +kernel) ow83 f_7_125 rfl (kdT0 ha) (geT ha) (lyT4 hR ha)
theorem e83_39 : rf d 83 39 [l0, l1, l2, l3, some (.int x), l5] s h = rf d 83 41 [l0, l1, l2, l3, some (.int x), l5] (.int x :: s) h := rf_pure (i := .iload 4) (len := 2) (okD_ok (by decide +kernel)) rfl
theorem e83_41 (q : ia n a j) : rf d 83 41 ls (.int j :: .ref a :: s) (SH n, I, L, R, nc, ns, nx) = rf d 83 42 ls (.int (I a j.toNatClampNeg) :: s) (SH n, I, L, R, nc, ns, nx) := g_ial (by decide +kernel) q
theorem e83_42 (hn : ip_nl l4 = true) : rf d 83 42 [l0, l1, l2, l3, l4, l5] (.int x :: s) h = rf d 83 44 [l0, l1, l2, l3, l4, some (.int x)] s h := g_sti (i := .istore 5) (len := 2) (q := 4) (p := 2) (by decide +kernel) rfl rfl hn
theorem e83_44 : rf d 83 44 [some (.ref a), l1, l2, l3, l4, l5] s h = rf d 83 45 [some (.ref a), l1, l2, l3, l4, l5] (.ref a :: s) h := rf_pure (i := .aload_n 0) (len := 1) (okD_ok (by decide +kernel)) rfl
theorem e83_45 : rf d 83 45 ls (.ref 2 :: s) (SH n, I, L, R, nc, ns, nx) = rf d 83 48 ls (ip_rf (R 2 4) :: s) (SH n, I, L, R, nc, ns, nx) := g_R (idx := 30) (by decide +kernel) ow83 f_7_30 rfl rfl (by decide) rfl
theorem e83_48 (hR : LYR R) (ha : isT a) : rf d 83 48 ls (.ref a :: s) (SH n, I, L, R, nc, ns, nx) = rf d 83 51 ls (.ref (a + 5) :: s) (SH n, I, L, R, nc, ns, nx) := g_R (idx := 125) (by decide +kernel) ow83 f_7_125 rfl (kdT0 ha) (geT ha) (lyT4 hR ha)
theorem e83_51 : rf d 83 51 [l0, l1, l2, l3, some (.int x), l5] s h = rf d 83 53 [l0, l1, l2, l3, some (.int x), l5] (.int x :: s) h := rf_pure (i := .iload 4) (len := 2) (okD_ok (by decide +kernel)) rfl
theorem e83_53 : rf d 83 53 [l0, l1, l2, some (.int x), l4, l5] s h = rf d 83 54 [l0, l1, l2, some (.int x), l4, l5] (.int x :: s) h := rf_pure (i := .iload_n 3) (len := 1) (okD_ok (by decide +kernel)) rfl
theorem e83_54 (q : ia n a j) : rf d 83 54 ls (.int x :: .int j :: .ref a :: s) (SH n, I, L, R, nc, ns, nx) = rf d 83 55 ls s (SH n, ip_up I a j.toNatClampNeg x, L, R, nc, ns, nx) := g_ias (by decide +kernel) q
theorem e83_55 : rf d 83 55 [l0, l1, l2, l3, l4, some (.int x)] s h = rf d 83 57 [l0, l1, l2, l3, l4, some (.int x)] (.int x :: s) h := rf_pure (i := .iload 5) (len := 2) (okD_ok (by decide +kernel)) rfl
theorem e83_57 : rf d 83 57 ls [.int x] h = some (.inl (some (.int x)), h) := g_ri (by decide +kernel) rt83
theorem en84 : cf d 84 [.ref a0, .int x1, .int x2, .int x3, .ref a4] h = rf d 84 0 [some (.ref a0), some (.int x1), some (.int x2), some (.int x3), some (.ref a4), none] [] h := rfl
theorem e84_0 : rf d 84 0 [l0, l1, l2, l3, some (.ref a), l5] s h = rf d 84 2 [l0, l1, l2, l3, some (.ref a), l5] (.ref a :: s) h := rf_pure (i := .aload 4) (len := 2) (okD_ok (by decide +kernel)) rfl
theorem e84_2 : rf d 84 2 ls s h = rf d 84 3 ls (.int 0 :: s) h := rf_pure (i := .iconst (0)) (len := 1) (okD_ok (by decide +kernel)) rfl
theorem e84_3 : rf d 84 3 [some (.ref a), l1, l2, l3, l4, l5] s h = rf d 84 4 [some (.ref a), l1, l2, l3, l4, l5] (.ref a :: s) h := rf_pure (i := .aload_n 0) (len := 1) (okD_ok (by decide +kernel)) rfl
theorem e84_4 : rf d 84 4 [l0, some (.int x), l2, l3, l4, l5] s h = rf d 84 5 [l0, some (.int x), l2, l3, l4, l5] (.int x :: s) h := rf_pure (i := .iload_n 1) (len := 1) (okD_ok (by decide +kernel)) rfl
theorem e84_5 : rf d 84 5 [l0, l1, some (.int x), l3, l4, l5] s h = rf d 84 6 [l0, l1, some (.int x), l3, l4, l5] (.int x :: s) h := rf_pure (i := .iload_n 2) (len := 1) (okD_ok (by decide +kernel)) rfl
theorem e84_6 : rf d 84 6 [l0, l1, l2, some (.int x), l4, l5] s h = rf d 84 7 [l0, l1, l2, some (.int x), l4, l5] (.int x :: s) h := rf_pure (i := .iload_n 3) (len := 1) (okD_ok (by decide +kernel)) rfl
theorem e84_7 (hcat : ip_cat s ≤ 8) : rf (d + 1) 84 7 ls (.int x2 :: .int x1 :: .int x0 :: .ref 2 :: s) (SH n, I, L, R, nc, ns, nx) = rf_k (d + 1) 84 7 ls s (cf d 85 [.ref 2, .int x0, .int x1, .int x2] (SH n, I, L, R, nc, ns, nx)) := g_cv (idx := 33) (t := 7) [.int x2, .int x1, .int x0] (by decide +kernel) ow84 ms_9_33 mt_9_33 cy85_7 rfl rfl mL85 rfl rfl (by decide) hcat
theorem e84_10 : rf d 84 10 ls (.int x :: s) h = rf d 84 11 ls (.long x.toInt64 :: s) h := rf_pure (i := .i2l) (len := 1) (okD_ok (by decide +kernel)) rfl
theorem e84_11 (q : la n a j) : rf d 84 11 ls (.long u :: .int j :: .ref a :: s) (SH n, I, L, R, nc, ns, nx) = rf d 84 12 ls s (SH n, I, ip_up L a j.toNatClampNeg u, R, nc, ns, nx) := g_las (by decide +kernel) q
theorem e84_12 : rf d 84 12 ls s h = rf d 84 27 ls s h := rf_goto ⟨okD_ok (i := .goto (15)) (len := 3) (by decide +kernel), rfl⟩
theorem e84_27 : rf d 84 27 ls s h = rf d 84 28 ls (.int 0 :: s) h := rf_pure (i := .iconst (0)) (len := 1) (okD_ok (by decide +kernel)) rfl
theorem e84_28 : rf d 84 28 ls [.int x] h = some (.inl (some (.int x)), h) := g_ri (by decide +kernel) rt84
theorem en85 : cf d 85 [.ref a, .int x0, .int x1, .int x2] h = rf d 85 0 [some (.ref a), some (.int x0), some (.int x1), some (.int x2), none, none] [] h := rfl
theorem e85_0 : rf d 85 0 [some (.ref a), l1, l2, l3, l4, l5] s h = rf d 85 1 [some (.ref a), l1, l2, l3, l4, l5] (.ref a :: s) h := rf_pure (i := .aload_n 0) (len := 1) (okD_ok (by decide +kernel)) rfl
theorem e85_1 : rf d 85 1 [l0, some (.int x), l2, l3, l4, l5] s h = rf d 85 2 [l0, some (.int x), l2, l3, l4, l5] (.int x :: s) h := rf_pure (i := .iload_n 1) (len := 1) (okD_ok (by decide +kernel)) rfl
theorem e85_2 (hcat : ip_cat s ≤ 8) : rf (d + 1) 85 2 ls (.int x0 :: .ref 2 :: s) (SH n, I, L, R, nc, ns, nx) = rf_k (d + 1) 85 2 ls s (cf d 75 [.ref 2, .int x0] (SH n, I, L, R, nc, ns, nx)) := g_cv (idx := 100) (t := 7) [.int x0] (by decide +kernel) ow85 ms_7_100 mt_7_100 cy75_7 rfl rfl mL75 rfl rfl (by decide) hcat
theorem e85_5 : rf d 85 5 [l0, l1, some (.int x), l3, l4, l5] s h = rf d 85 6 [l0, l1, some (.int x), l3, l4, l5] (.int x :: s) h := rf_pure (i := .iload_n 2) (len := 1) (okD_ok (by decide +kernel)) rfl
theorem e85_6 (hcat : ip_cat s ≤ 8) : rf (d + 1) 85 6 ls (.int x0 :: s) h = rf_k (d + 1) 85 6 ls s (cf d 86 [.int x0] h) := g_cs (idx := 133) [.int x0] (by decide +kernel) ow85 ms_7_133 mt_7_133 (by decide) rfl mL86 rfl hcat
theorem e85_9 : rf d 85 9 [l0, l1, l2, some (.int x), l4, l5] s h = rf d 85 10 [l0, l1, l2, some (.int x), l4, l5] (.int x :: s) h := rf_pure (i := .iload_n 3) (len := 1) (okD_ok (by decide +kernel)) rfl
theorem e85_10 : rf d 85 10 ls (.int x :: s) h = if x < 0 then rf d 85 19 ls s h else rf d 85 13 ls s h := g_if (c := .lt) (off := 9) _ (by decide +kernel) rfl cmp_d
theorem e85_13 : rf d 85 13 [l0, l1, l2, some (.int x), l4, l5] s h = rf d 85 14 [l0, l1, l2, some (.int x), l4, l5] (.int x :: s) h := rf_pure (i := .iload_n 3) (len := 1) (okD_ok (by decide +kernel)) rfl
theorem e85_14 : rf d 85 14 ls s h = rf d 85 16 ls (.int 9 :: s) h := rf_pure (i := .bipush (9)) (len := 2) (okD_ok (by decide +kernel)) rfl
theorem e85_16 : rf d 85 16 ls (.int y :: .int x :: s) h = if x ≤ y then rf d 85 29 ls s h else rf d 85 19 ls s h := g_ic (c := .le) (off := 13) _ (by decide +kernel) rfl cmp_d
theorem e85_19 : rf d 85 19 ls [] h = some (.inr "java/lang/IllegalArgumentException", ip_hx h) := g_thr (idx := 86) (by decide +kernel) ow85 (by decide +kernel) (by decide +kernel)
theorem e85_29 : rf d 85 29 [some (.ref a), l1, l2, l3, l4, l5] s h = rf d 85 30 [some (.ref a), l1, l2, l3, l4, l5] (.ref a :: s) h := rf_pure (i := .aload_n 0) (len := 1) (okD_ok (by decide +kernel)) rfl
theorem e85_30 (hR : LYR R) : rf d 85 30 ls (.ref 2 :: s) (SH n, I, L, R, nc, ns, nx) = rf d 85 33 ls (.ref 23 :: s) (SH n, I, L, R, nc, ns, nx) := g_R (idx := 36) (by decide +kernel) ow85 f_7_36 rfl rfl (by decide) (ly_2_5 hR)
theorem e85_33 : rf d 85 33 [some (.ref a), l1, l2, l3, l4, l5] s h = rf d 85 34 [some (.ref a), l1, l2, l3, l4, l5] (.ref a :: s) h := rf_pure (i := .aload_n 0) (len := 1) (okD_ok (by decide +kernel)) rfl
theorem e85_34 : rf d 85 34 ls (.ref 2 :: s) (SH n, I, L, R, nc, ns, nx) = rf d 85 37 ls (.int (I 2 7) :: s) (SH n, I, L, R, nc, ns, nx) := g_I (idx := 43) (by decide +kernel) ow85 f_7_43 rfl rfl (by decide)
theorem e85_37 (hR : LYR R) (q : inb j 40) : rf d 85 37 ls (.int j :: .ref 23 :: s) (SH n, I, L, R, nc, ns, nx) = rf d 85 38 ls (.ref (nd j) :: s) (SH n, I, L, R, nc, ns, nx) := g_aal (by decide +kernel) hR q
theorem e85_38 (hn : ip_nl l3 = true) : rf d 85 38 [l0, l1, l2, l3, l4, l5] (.ref a :: s) h = rf d 85 40 [l0, l1, l2, l3, some (.ref a), l5] s h := g_sta (i := .astore 4) (len := 2) (q := 3) (p := 2) (by decide +kernel) rfl rfl hn
theorem e85_40 : rf d 85 40 [l0, l1, l2, l3, some (.ref a), l5] s h = rf d 85 42 [l0, l1, l2, l3, some (.ref a), l5] (.ref a :: s) h := rf_pure (i := .aload 4) (len := 2) (okD_ok (by decide +kernel)) rfl
theorem e85_42 (ha : isN a) : rf d 85 42 ls (.ref a :: s) (SH n, I, L, R, nc, ns, nx) = rf d 85 45 ls (.int (I a 0) :: s) (SH n, I, L, R, nc, ns, nx) := g_I (idx := 138) (by decide +kernel) ow85 f_7_138 rfl (kdN0 ha) (geN ha)
theorem e85_45 : rf d 85 45 ls (.int x :: s) h = if ¬ x = 0 then rf d 85 70 ls s h else rf d 85 48 ls s h := g_if (c := .ne) (off := 25) _ (by decide +kernel) rfl cmp_d
theorem e85_48 : rf d 85 48 [l0, l1, l2, l3, some (.ref a), l5] s h = rf d 85 50 [l0, l1, l2, l3, some (.ref a), l5] (.ref a :: s) h := rf_pure (i := .aload 4) (len := 2) (okD_ok (by decide +kernel)) rfl
theorem e85_50 (ha : isN a) : rf d 85 50 ls (.ref a :: s) (SH n, I, L, R, nc, ns, nx) = rf d 85 53 ls (.int (I a 3) :: s) (SH n, I, L, R, nc, ns, nx) := g_I (idx := 141) (by decide +kernel) ow85 f_7_141 rfl (kdN0 ha) (geN ha)
theorem e85_53 : rf d 85 53 [l0, l1, l2, l3, some (.ref a), l5] s h = rf d 85 55 [l0, l1, l2, l3, some (.ref a), l5] (.ref a :: s) h := rf_pure (i := .aload 4) (len := 2) (okD_ok (by decide +kernel)) rfl
theorem e85_55 (ha : isN a) : rf d 85 55 ls (.ref a :: s) (SH n, I, L, R, nc, ns, nx) = rf d 85 58 ls (.int (I a 6) :: s) (SH n, I, L, R, nc, ns, nx) := g_I (idx := 144) (by decide +kernel) ow85 f_7_144 rfl (kdN0 ha) (geN ha)
theorem e85_58 : rf d 85 58 ls (.int y :: .int x :: s) h = rf d 85 59 ls (.int (x &&& y) :: s) h := rf_pure (i := .iand) (len := 1) (okD_ok (by decide +kernel)) rfl
theorem e85_59 : rf d 85 59 ls s h = rf d 85 60 ls (.int 1 :: s) h := rf_pure (i := .iconst (1)) (len := 1) (okD_ok (by decide +kernel)) rfl
theorem e85_60 : rf d 85 60 [l0, some (.int x), l2, l3, l4, l5] s h = rf d 85 61 [l0, some (.int x), l2, l3, l4, l5] (.int x :: s) h := rf_pure (i := .iload_n 1) (len := 1) (okD_ok (by decide +kernel)) rfl
theorem e85_61 : rf d 85 61 ls (.int y :: .int x :: s) h = rf d 85 62 ls (.int (x <<< (y &&& 31)) :: s) h := rf_pure (i := .ishl) (len := 1) (okD_ok (by decide +kernel)) rfl
theorem e85_62 : rf d 85 62 ls (.int y :: .int x :: s) h = rf d 85 63 ls (.int (x &&& y) :: s) h := rf_pure (i := .iand) (len := 1) (okD_ok (by decide +kernel)) rfl
theorem e85_63 : rf d 85 63 ls (.int x :: s) h = if x = 0 then rf d 85 70 ls s h else rf d 85 66 ls s h := g_if (c := .eq) (off := 7) _ (by decide +kernel) rfl cmp_d
theorem e85_66 : rf d 85 66 ls s h = rf d 85 67 ls (.int 1 :: s) h := rf_pure (i := .iconst (1)) (len := 1) (okD_ok (by decide +kernel)) rfl
theorem e85_67 : rf d 85 67 ls s h = rf d 85 71 ls s h := rf_goto ⟨okD_ok (i := .goto (4)) (len := 3) (by decide +kernel), rfl⟩
theorem e85_70 : rf d 85 70 ls s h = rf d 85 71 ls (.int 0 :: s) h := rf_pure (i := .iconst (0)) (len := 1) (okD_ok (by decide +kernel)) rfl
theorem e85_71 (hn : ip_nl l4 = true) : rf d 85 71 [l0, l1, l2, l3, l4, l5] (.int x :: s) h = rf d 85 73 [l0, l1, l2, l3, l4, some (.int x)] s h := g_sti (i := .istore 5) (len := 2) (q := 4) (p := 2) (by decide +kernel) rfl rfl hn
theorem e85_73 : rf d 85 73 [l0, l1, l2, l3, l4, some (.int x)] s h = rf d 85 75 [l0, l1, l2, l3, l4, some (.int x)] (.int x :: s) h := rf_pure (i := .iload 5) (len := 2) (okD_ok (by decide +kernel)) rfl
theorem e85_75 : rf d 85 75 ls (.int x :: s) h = if x = 0 then rf d 85 96 ls s h else rf d 85 78 ls s h := g_if (c := .eq) (off := 21) _ (by decide +kernel) rfl cmp_d
theorem e85_78 : rf d 85 78 [some (.ref a), l1, l2, l3, l4, l5] s h = rf d 85 79 [some (.ref a), l1, l2, l3, l4, l5] (.ref a :: s) h := rf_pure (i := .aload_n 0) (len := 1) (okD_ok (by decide +kernel)) rfl
theorem e85_79 : rf d 85 79 ls (.ref 2 :: s) (SH n, I, L, R, nc, ns, nx) = rf d 85 82 ls (ip_rf (R 2 4) :: s) (SH n, I, L, R, nc, ns, nx) := g_R (idx := 30) (by decide +kernel) ow85 f_7_30 rfl rfl (by decide) rfl
theorem e85_82 (hR : LYR R) (ha : isT a) : rf d 85 82 ls (.ref a :: s) (SH n, I, L, R, nc, ns, nx) = rf d 85 85 ls (.ref (a + 3) :: s) (SH n, I, L, R, nc, ns, nx) := g_R (idx := 106) (by decide +kernel) ow85 f_7_106 rfl (kdT0 ha) (geT ha) (lyT2 hR ha)
theorem e85_85 : rf d 85 85 [l0, some (.int x), l2, l3, l4, l5] s h = rf d 85 86 [l0, some (.int x), l2, l3, l4, l5] (.int x :: s) h := rf_pure (i := .iload_n 1) (len := 1) (okD_ok (by decide +kernel)) rfl
theorem e85_86 (q : ia n a j) : rf d 85 86 ls (.int j :: .ref a :: s) (SH n, I, L, R, nc, ns, nx) = rf d 85 87 ls (.int (I a j.toNatClampNeg) :: s) (SH n, I, L, R, nc, ns, nx) := g_ial (by decide +kernel) q
theorem e85_87 : rf d 85 87 [l0, l1, l2, l3, some (.ref a), l5] s h = rf d 85 89 [l0, l1, l2, l3, some (.ref a), l5] (.ref a :: s) h := rf_pure (i := .aload 4) (len := 2) (okD_ok (by decide +kernel)) rfl
theorem e85_89 (ha : isN a) : rf d 85 89 ls (.ref a :: s) (SH n, I, L, R, nc, ns, nx) = rf d 85 92 ls (.int (I a 6) :: s) (SH n, I, L, R, nc, ns, nx) := g_I (idx := 144) (by decide +kernel) ow85 f_7_144 rfl (kdN0 ha) (geN ha)
theorem e85_92 : rf d 85 92 ls (.int y :: .int x :: s) h = rf d 85 93 ls (.int (x &&& y) :: s) h := rf_pure (i := .iand) (len := 1) (okD_ok (by decide +kernel)) rfl
theorem e85_93 : rf d 85 93 ls (.int x :: s) h = if x = 0 then rf d 85 106 ls s h else rf d 85 96 ls s h := g_if (c := .eq) (off := 13) _ (by decide +kernel) rfl cmp_d
theorem e85_96 : rf d 85 96 ls [] h = some (.inr "java/lang/IllegalStateException", ip_hx h) := g_thr (idx := 147) (by decide +kernel) ow85 (by decide +kernel) (by decide +kernel)
theorem e85_106 : rf d 85 106 [l0, l1, l2, l3, some (.ref a), l5] s h = rf d 85 108 [l0, l1, l2, l3, some (.ref a), l5] (.ref a :: s) h := rf_pure (i := .aload 4) (len := 2) (okD_ok (by decide +kernel)) rfl
theorem e85_108 : rf d 85 108 [l0, some (.int x), l2, l3, l4, l5] s h = rf d 85 109 [l0, some (.int x), l2, l3, l4, l5] (.int x :: s) h := rf_pure (i := .iload_n 1) (len := 1) (okD_ok (by decide +kernel)) rfl
theorem e85_109 : rf d 85 109 [l0, l1, some (.int x), l3, l4, l5] s h = rf d 85 110 [l0, l1, some (.int x), l3, l4, l5] (.int x :: s) h := rf_pure (i := .iload_n 2) (len := 1) (okD_ok (by decide +kernel)) rfl
theorem e85_110 : rf d 85 110 [l0, l1, l2, some (.int x), l4, l5] s h = rf d 85 111 [l0, l1, l2, some (.int x), l4, l5] (.int x :: s) h := rf_pure (i := .iload_n 3) (len := 1) (okD_ok (by decide +kernel)) rfl
theorem e85_111 : rf d 85 111 [some (.ref a), l1, l2, l3, l4, l5] s h = rf d 85 112 [some (.ref a), l1, l2, l3, l4, l5] (.ref a :: s) h := rf_pure (i := .aload_n 0) (len := 1) (okD_ok (by decide +kernel)) rfl
theorem e85_112 : rf d 85 112 ls (.ref 2 :: s) (SH n, I, L, R, nc, ns, nx) = rf d 85 115 ls (.int (I 2 7) :: s) (SH n, I, L, R, nc, ns, nx) := g_I (idx := 43) (by decide +kernel) ow85 f_7_43 rfl rfl (by decide)
theorem e85_115 (hb : isN b) (hcat : ip_cat s ≤ 8) : rf (d + 1) 85 115 ls (.int x3 :: .int x2 :: .int x1 :: .int x0 :: .ref b :: s) (SH n, I, L, R, nc, ns, nx) = rf_k (d + 1) 85 115 ls s (cf d 87 [.ref b, .int x0, .int x1, .int x2, .int x3] (SH n, I, L, R, nc, ns, nx)) := g_cv (idx := 152) (t := 1) [.int x3, .int x2, .int x1, .int x0] (by decide +kernel) ow85 ms_7_152 mt_7_152 cy87_1 rfl rfl mL87 rfl (kdN0 hb) (geN hb) hcat
theorem e85_118 : rf d 85 118 [l0, l1, l2, l3, some (.ref a), l5] s h = rf d 85 120 [l0, l1, l2, l3, some (.ref a), l5] (.ref a :: s) h := rf_pure (i := .aload 4) (len := 2) (okD_ok (by decide +kernel)) rfl
theorem e85_120 (ha : isN a) : rf d 85 120 ls (.ref a :: s) (SH n, I, L, R, nc, ns, nx) = rf d 85 123 ls (.int (I a 3) :: s) (SH n, I, L, R, nc, ns, nx) := g_I (idx := 141) (by decide +kernel) ow85 f_7_141 rfl (kdN0 ha) (geN ha)
theorem e85_123 : rf d 85 123 [l0, l1, l2, l3, some (.ref a), l5] s h = rf d 85 125 [l0, l1, l2, l3, some (.ref a), l5] (.ref a :: s) h := rf_pure (i := .aload 4) (len := 2) (okD_ok (by decide +kernel)) rfl
theorem e85_125 (ha : isN a) : rf d 85 125 ls (.ref a :: s) (SH n, I, L, R, nc, ns, nx) = rf d 85 128 ls (.int (I a 6) :: s) (SH n, I, L, R, nc, ns, nx) := g_I (idx := 144) (by decide +kernel) ow85 f_7_144 rfl (kdN0 ha) (geN ha)
theorem e85_128 : rf d 85 128 ls (.int y :: .int x :: s) h = rf d 85 129 ls (.int (x &&& y) :: s) h := rf_pure (i := .iand) (len := 1) (okD_ok (by decide +kernel)) rfl
theorem e85_129 (hcat : ip_cat s ≤ 8) : rf (d + 1) 85 129 ls (.int x0 :: s) h = rf_k (d + 1) 85 129 ls s (cf d 19 [.int x0] h) := g_cs (idx := 156) [.int x0] (by decide +kernel) ow85 ms_7_156 mt_7_156 (by decide) rfl mL19 rfl hcat
theorem e85_132 : rf d 85 132 ls [.int x] h = some (.inl (some (.int x)), h) := g_ri (by decide +kernel) rt85
theorem en86 : cf d 86 [.int x0] h = rf d 86 0 [some (.int x0)] [] h := rfl
theorem e86_0 : rf d 86 0 [some (.int x)] s h = rf d 86 1 [some (.int x)] (.int x :: s) h := rf_pure (i := .iload_n 0) (len := 1) (okD_ok (by decide +kernel)) rfl
theorem e86_1 : rf d 86 1 ls (.int x :: s) h = if x < 0 then rf d 86 9 ls s h else rf d 86 4 ls s h := g_if (c := .lt) (off := 8) _ (by decide +kernel) rfl cmp_d
theorem e86_4 : rf d 86 4 [some (.int x)] s h = rf d 86 5 [some (.int x)] (.int x :: s) h := rf_pure (i := .iload_n 0) (len := 1) (okD_ok (by decide +kernel)) rfl
theorem e86_5 : rf d 86 5 ls s h = rf d 86 6 ls (.int 2 :: s) h := rf_pure (i := .iconst (2)) (len := 1) (okD_ok (by decide +kernel)) rfl
theorem e86_6 : rf d 86 6 ls (.int y :: .int x :: s) h = if x < y then rf d 86 20 ls s h else rf d 86 9 ls s h := g_ic (c := .lt) (off := 14) _ (by decide +kernel) rfl cmp_d
theorem e86_9 : rf d 86 9 ls [] h = some (.inr "java/lang/IllegalArgumentException", ip_hx h) := g_thr (idx := 86) (by decide +kernel) ow86 (by decide +kernel) (by decide +kernel)
theorem e86_20 : rf d 86 20 ls [] h = some (.inl none, h) := g_rv (by decide +kernel) rt86
theorem en87 : cf d 87 [.ref a, .int x0, .int x1, .int x2, .int x3] h = rf d 87 0 [some (.ref a), some (.int x0), some (.int x1), some (.int x2), some (.int x3), none] [] h := rfl
theorem e87_0 : rf d 87 0 ls s h = rf d 87 1 ls (.int 1 :: s) h := rf_pure (i := .iconst (1)) (len := 1) (okD_ok (by decide +kernel)) rfl
theorem e87_1 : rf d 87 1 [l0, some (.int x), l2, l3, l4, l5] s h = rf d 87 2 [l0, some (.int x), l2, l3, l4, l5] (.int x :: s) h := rf_pure (i := .iload_n 1) (len := 1) (okD_ok (by decide +kernel)) rfl
theorem e87_2 : rf d 87 2 ls (.int y :: .int x :: s) h = rf d 87 3 ls (.int (x <<< (y &&& 31)) :: s) h := rf_pure (i := .ishl) (len := 1) (okD_ok (by decide +kernel)) rfl
theorem e87_3 (hn : ip_nl l4 = true) : rf d 87 3 [l0, l1, l2, l3, l4, l5] (.int x :: s) h = rf d 87 5 [l0, l1, l2, l3, l4, some (.int x)] s h := g_sti (i := .istore 5) (len := 2) (q := 4) (p := 2) (by decide +kernel) rfl rfl hn
theorem e87_5 : rf d 87 5 [some (.ref a), l1, l2, l3, l4, l5] s h = rf d 87 6 [some (.ref a), l1, l2, l3, l4, l5] (.ref a :: s) h := rf_pure (i := .aload_n 0) (len := 1) (okD_ok (by decide +kernel)) rfl
theorem e87_6 : rf d 87 6 [l0, l1, l2, l3, l4, some (.int x)] s h = rf d 87 8 [l0, l1, l2, l3, l4, some (.int x)] (.int x :: s) h := rf_pure (i := .iload 5) (len := 2) (okD_ok (by decide +kernel)) rfl
theorem e87_8 (hb : isN b) (hcat : ip_cat s ≤ 8) : rf (d + 1) 87 8 ls (.int x0 :: .ref b :: s) (SH n, I, L, R, nc, ns, nx) = rf_k (d + 1) 87 8 ls s (cf d 88 [.ref b, .int x0] (SH n, I, L, R, nc, ns, nx)) := g_cv (idx := 75) (t := 1) [.int x0] (by decide +kernel) ow87 ms_1_75 mt_1_75 cy88_1 rfl rfl mL88 rfl (kdN0 hb) (geN hb) hcat
theorem e87_11 : rf d 87 11 [some (.ref a), l1, l2, l3, l4, l5] s h = rf d 87 12 [some (.ref a), l1, l2, l3, l4, l5] (.ref a :: s) h := rf_pure (i := .aload_n 0) (len := 1) (okD_ok (by decide +kernel)) rfl
theorem e87_12 : rf d 87 12 ls (.int x :: s) h = rf d 87 13 ls (.int x :: .int x :: s) h := rf_pure (i := .dup) (len := 1) (okD_ok (by decide +kernel)) rfl
theorem e87_12r : rf d 87 12 ls (.ref a :: s) h = rf d 87 13 ls (.ref a :: .ref a :: s) h := rf_pure (i := .dup) (len := 1) (okD_ok (by decide +kernel)) rfl
theorem e87_13 (ha : isN a) : rf d 87 13 ls (.ref a :: s) (SH n, I, L, R, nc, ns, nx) = rf d 87 16 ls (.int (I a 6) :: s) (SH n, I, L, R, nc, ns, nx) := g_I (idx := 35) (by decide +kernel) ow87 f_1_35 rfl (kdN0 ha) (geN ha)
theorem e87_16 : rf d 87 16 [l0, l1, l2, l3, l4, some (.int x)] s h = rf d 87 18 [l0, l1, l2, l3, l4, some (.int x)] (.int x :: s) h := rf_pure (i := .iload 5) (len := 2) (okD_ok (by decide +kernel)) rfl
theorem e87_18 : rf d 87 18 ls s h = rf d 87 19 ls (.int (-1) :: s) h := rf_pure (i := .iconst (-1)) (len := 1) (okD_ok (by decide +kernel)) rfl
theorem e87_19 : rf d 87 19 ls (.int y :: .int x :: s) h = rf d 87 20 ls (.int (x ^^^ y) :: s) h := rf_pure (i := .ixor) (len := 1) (okD_ok (by decide +kernel)) rfl
theorem e87_20 : rf d 87 20 ls (.int y :: .int x :: s) h = rf d 87 21 ls (.int (x &&& y) :: s) h := rf_pure (i := .iand) (len := 1) (okD_ok (by decide +kernel)) rfl
theorem e87_21 (ha : isN a) : rf d 87 21 ls (.int x :: .ref a :: s) (SH n, I, L, R, nc, ns, nx) = rf d 87 24 ls s (SH n, ip_up I a 6 x, L, R, nc, ns, nx) := g_pI (idx := 35) (by decide +kernel) ow87 f_1_35 rfl (by decide +kernel) (kdN0 ha) (geN ha)
theorem e87_24 : rf d 87 24 [l0, l1, some (.int x), l3, l4, l5] s h = rf d 87 25 [l0, l1, some (.int x), l3, l4, l5] (.int x :: s) h := rf_pure (i := .iload_n 2) (len := 1) (okD_ok (by decide +kernel)) rfl
theorem e87_25 : rf d 87 25 ls (.int x :: s) h = if ¬ x = 0 then rf d 87 42 ls s h else rf d 87 28 ls s h := g_if (c := .ne) (off := 17) _ (by decide +kernel) rfl cmp_d
theorem e87_28 : rf d 87 28 [some (.ref a), l1, l2, l3, l4, l5] s h = rf d 87 29 [some (.ref a), l1, l2, l3, l4, l5] (.ref a :: s) h := rf_pure (i := .aload_n 0) (len := 1) (okD_ok (by decide +kernel)) rfl
theorem e87_29 : rf d 87 29 ls (.int x :: s) h = rf d 87 30 ls (.int x :: .int x :: s) h := rf_pure (i := .dup) (len := 1) (okD_ok (by decide +kernel)) rfl
theorem e87_29r : rf d 87 29 ls (.ref a :: s) h = rf d 87 30 ls (.ref a :: .ref a :: s) h := rf_pure (i := .dup) (len := 1) (okD_ok (by decide +kernel)) rfl
theorem e87_30 (ha : isN a) : rf d 87 30 ls (.ref a :: s) (SH n, I, L, R, nc, ns, nx) = rf d 87 33 ls (.int (I a 4) :: s) (SH n, I, L, R, nc, ns, nx) := g_I (idx := 28) (by decide +kernel) ow87 f_1_28 rfl (kdN0 ha) (geN ha)
theorem e87_33 : rf d 87 33 [l0, l1, l2, l3, l4, some (.int x)] s h = rf d 87 35 [l0, l1, l2, l3, l4, some (.int x)] (.int x :: s) h := rf_pure (i := .iload 5) (len := 2) (okD_ok (by decide +kernel)) rfl
theorem e87_35 : rf d 87 35 ls (.int y :: .int x :: s) h = rf d 87 36 ls (.int (x ||| y) :: s) h := rf_pure (i := .ior) (len := 1) (okD_ok (by decide +kernel)) rfl
theorem e87_36 (ha : isN a) : rf d 87 36 ls (.int x :: .ref a :: s) (SH n, I, L, R, nc, ns, nx) = rf d 87 39 ls s (SH n, ip_up I a 4 x, L, R, nc, ns, nx) := g_pI (idx := 28) (by decide +kernel) ow87 f_1_28 rfl (by decide +kernel) (kdN0 ha) (geN ha)
theorem e87_39 : rf d 87 39 ls s h = rf d 87 53 ls s h := rf_goto ⟨okD_ok (i := .goto (14)) (len := 3) (by decide +kernel), rfl⟩
theorem e87_42 : rf d 87 42 [some (.ref a), l1, l2, l3, l4, l5] s h = rf d 87 43 [some (.ref a), l1, l2, l3, l4, l5] (.ref a :: s) h := rf_pure (i := .aload_n 0) (len := 1) (okD_ok (by decide +kernel)) rfl
theorem e87_43 : rf d 87 43 ls (.int x :: s) h = rf d 87 44 ls (.int x :: .int x :: s) h := rf_pure (i := .dup) (len := 1) (okD_ok (by decide +kernel)) rfl
theorem e87_43r : rf d 87 43 ls (.ref a :: s) h = rf d 87 44 ls (.ref a :: .ref a :: s) h := rf_pure (i := .dup) (len := 1) (okD_ok (by decide +kernel)) rfl
theorem e87_44 (ha : isN a) : rf d 87 44 ls (.ref a :: s) (SH n, I, L, R, nc, ns, nx) = rf d 87 47 ls (.int (I a 5) :: s) (SH n, I, L, R, nc, ns, nx) := g_I (idx := 32) (by decide +kernel) ow87 f_1_32 rfl (kdN0 ha) (geN ha)
theorem e87_47 : rf d 87 47 [l0, l1, l2, l3, l4, some (.int x)] s h = rf d 87 49 [l0, l1, l2, l3, l4, some (.int x)] (.int x :: s) h := rf_pure (i := .iload 5) (len := 2) (okD_ok (by decide +kernel)) rfl
theorem e87_49 : rf d 87 49 ls (.int y :: .int x :: s) h = rf d 87 50 ls (.int (x ||| y) :: s) h := rf_pure (i := .ior) (len := 1) (okD_ok (by decide +kernel)) rfl
theorem e87_50 (ha : isN a) : rf d 87 50 ls (.int x :: .ref a :: s) (SH n, I, L, R, nc, ns, nx) = rf d 87 53 ls s (SH n, ip_up I a 5 x, L, R, nc, ns, nx) := g_pI (idx := 32) (by decide +kernel) ow87 f_1_32 rfl (by decide +kernel) (kdN0 ha) (geN ha)
theorem e87_53 : rf d 87 53 [some (.ref a), l1, l2, l3, l4, l5] s h = rf d 87 54 [some (.ref a), l1, l2, l3, l4, l5] (.ref a :: s) h := rf_pure (i := .aload_n 0) (len := 1) (okD_ok (by decide +kernel)) rfl
theorem e87_54 (hR : LYR R) (ha : isN a) : rf d 87 54 ls (.ref a :: s) (SH n, I, L, R, nc, ns, nx) = rf d 87 57 ls (.ref (a + 3) :: s) (SH n, I, L, R, nc, ns, nx) := g_R (idx := 18) (by decide +kernel) ow87 f_1_18 rfl (kdN0 ha) (geN ha) (lyN14 hR ha)
theorem e87_57 : rf d 87 57 [l0, some (.int x), l2, l3, l4, l5] s h = rf d 87 58 [l0, some (.int x), l2, l3, l4, l5] (.int x :: s) h := rf_pure (i := .iload_n 1) (len := 1) (okD_ok (by decide +kernel)) rfl
theorem e87_58 : rf d 87 58 [l0, l1, l2, some (.int x), l4, l5] s h = rf d 87 59 [l0, l1, l2, some (.int x), l4, l5] (.int x :: s) h := rf_pure (i := .iload_n 3) (len := 1) (okD_ok (by decide +kernel)) rfl
theorem e87_59 (q : ia n a j) : rf d 87 59 ls (.int x :: .int j :: .ref a :: s) (SH n, I, L, R, nc, ns, nx) = rf d 87 60 ls s (SH n, ip_up I a j.toNatClampNeg x, L, R, nc, ns, nx) := g_ias (by decide +kernel) q
theorem e87_60 : rf d 87 60 [some (.ref a), l1, l2, l3, l4, l5] s h = rf d 87 61 [some (.ref a), l1, l2, l3, l4, l5] (.ref a :: s) h := rf_pure (i := .aload_n 0) (len := 1) (okD_ok (by decide +kernel)) rfl
theorem e87_61 (hR : LYR R) (ha : isN a) : rf d 87 61 ls (.ref a :: s) (SH n, I, L, R, nc, ns, nx) = rf d 87 64 ls (.ref (a + 4) :: s) (SH n, I, L, R, nc, ns, nx) := g_R (idx := 21) (by decide +kernel) ow87 f_1_21 rfl (kdN0 ha) (geN ha) (lyN15 hR ha)
theorem e87_64 : rf d 87 64 [l0, some (.int x), l2, l3, l4, l5] s h = rf d 87 65 [l0, some (.int x), l2, l3, l4, l5] (.int x :: s) h := rf_pure (i := .iload_n 1) (len := 1) (okD_ok (by decide +kernel)) rfl
theorem e87_65 : rf d 87 65 [l0, l1, l2, l3, some (.int x), l5] s h = rf d 87 67 [l0, l1, l2, l3, some (.int x), l5] (.int x :: s) h := rf_pure (i := .iload 4) (len := 2) (okD_ok (by decide +kernel)) rfl
theorem e87_67 (q : ia n a j) : rf d 87 67 ls (.int x :: .int j :: .ref a :: s) (SH n, I, L, R, nc, ns, nx) = rf d 87 68 ls s (SH n, ip_up I a j.toNatClampNeg x, L, R, nc, ns, nx) := g_ias (by decide +kernel) q
theorem e87_68 : rf d 87 68 ls [] h = some (.inl none, h) := g_rv (by decide +kernel) rt87
theorem en88 : cf d 88 [.ref a, .int x0] h = rf d 88 0 [some (.ref a), some (.int x0)] [] h := rfl
theorem e88_0 : rf d 88 0 [some (.ref a), l1] s h = rf d 88 1 [some (.ref a), l1] (.ref a :: s) h := rf_pure (i := .aload_n 0) (len := 1) (okD_ok (by decide +kernel)) rfl
theorem e88_1 : rf d 88 1 ls (.int x :: s) h = rf d 88 2 ls (.int x :: .int x :: s) h := rf_pure (i := .dup) (len := 1) (okD_ok (by decide +kernel)) rfl
theorem e88_1r : rf d 88 1 ls (.ref a :: s) h = rf d 88 2 ls (.ref a :: .ref a :: s) h := rf_pure (i := .dup) (len := 1) (okD_ok (by decide +kernel)) rfl
theorem e88_2 (ha : isN a) : rf d 88 2 ls (.ref a :: s) (SH n, I, L, R, nc, ns, nx) = rf d 88 5 ls (.int (I a 6) :: s) (SH n, I, L, R, nc, ns, nx) := g_I (idx := 35) (by decide +kernel) ow88 f_1_35 rfl (kdN0 ha) (geN ha)
theorem e88_5 : rf d 88 5 [l0, some (.int x)] s h = rf d 88 6 [l0, some (.int x)] (.int x :: s) h := rf_pure (i := .iload_n 1) (len := 1) (okD_ok (by decide +kernel)) rfl
theorem e88_6 : rf d 88 6 ls (.int y :: .int x :: s) h = rf d 88 7 ls (.int (x ||| y) :: s) h := rf_pure (i := .ior) (len := 1) (okD_ok (by decide +kernel)) rfl
theorem e88_7 (ha : isN a) : rf d 88 7 ls (.int x :: .ref a :: s) (SH n, I, L, R, nc, ns, nx) = rf d 88 10 ls s (SH n, ip_up I a 6 x, L, R, nc, ns, nx) := g_pI (idx := 35) (by decide +kernel) ow88 f_1_35 rfl (by decide +kernel) (kdN0 ha) (geN ha)
theorem e88_10 : rf d 88 10 [some (.ref a), l1] s h = rf d 88 11 [some (.ref a), l1] (.ref a :: s) h := rf_pure (i := .aload_n 0) (len := 1) (okD_ok (by decide +kernel)) rfl
theorem e88_11 : rf d 88 11 ls (.int x :: s) h = rf d 88 12 ls (.int x :: .int x :: s) h := rf_pure (i := .dup) (len := 1) (okD_ok (by decide +kernel)) rfl
theorem e88_11r : rf d 88 11 ls (.ref a :: s) h = rf d 88 12 ls (.ref a :: .ref a :: s) h := rf_pure (i := .dup) (len := 1) (okD_ok (by decide +kernel)) rfl
theorem e88_12 (ha : isN a) : rf d 88 12 ls (.ref a :: s) (SH n, I, L, R, nc, ns, nx) = rf d 88 15 ls (.int (I a 4) :: s) (SH n, I, L, R, nc, ns, nx) := g_I (idx := 28) (by decide +kernel) ow88 f_1_28 rfl (kdN0 ha) (geN ha)
theorem e88_15 : rf d 88 15 [l0, some (.int x)] s h = rf d 88 16 [l0, some (.int x)] (.int x :: s) h := rf_pure (i := .iload_n 1) (len := 1) (okD_ok (by decide +kernel)) rfl
theorem e88_16 : rf d 88 16 ls s h = rf d 88 17 ls (.int (-1) :: s) h := rf_pure (i := .iconst (-1)) (len := 1) (okD_ok (by decide +kernel)) rfl
theorem e88_17 : rf d 88 17 ls (.int y :: .int x :: s) h = rf d 88 18 ls (.int (x ^^^ y) :: s) h := rf_pure (i := .ixor) (len := 1) (okD_ok (by decide +kernel)) rfl
theorem e88_18 : rf d 88 18 ls (.int y :: .int x :: s) h = rf d 88 19 ls (.int (x &&& y) :: s) h := rf_pure (i := .iand) (len := 1) (okD_ok (by decide +kernel)) rfl
theorem e88_19 (ha : isN a) : rf d 88 19 ls (.int x :: .ref a :: s) (SH n, I, L, R, nc, ns, nx) = rf d 88 22 ls s (SH n, ip_up I a 4 x, L, R, nc, ns, nx) := g_pI (idx := 28) (by decide +kernel) ow88 f_1_28 rfl (by decide +kernel) (kdN0 ha) (geN ha)
theorem e88_22 : rf d 88 22 [some (.ref a), l1] s h = rf d 88 23 [some (.ref a), l1] (.ref a :: s) h := rf_pure (i := .aload_n 0) (len := 1) (okD_ok (by decide +kernel)) rfl
theorem e88_23 : rf d 88 23 ls (.int x :: s) h = rf d 88 24 ls (.int x :: .int x :: s) h := rf_pure (i := .dup) (len := 1) (okD_ok (by decide +kernel)) rfl
theorem e88_23r : rf d 88 23 ls (.ref a :: s) h = rf d 88 24 ls (.ref a :: .ref a :: s) h := rf_pure (i := .dup) (len := 1) (okD_ok (by decide +kernel)) rfl
theorem e88_24 (ha : isN a) : rf d 88 24 ls (.ref a :: s) (SH n, I, L, R, nc, ns, nx) = rf d 88 27 ls (.int (I a 5) :: s) (SH n, I, L, R, nc, ns, nx) := g_I (idx := 32) (by decide +kernel) ow88 f_1_32 rfl (kdN0 ha) (geN ha)
theorem e88_27 : rf d 88 27 [l0, some (.int x)] s h = rf d 88 28 [l0, some (.int x)] (.int x :: s) h := rf_pure (i := .iload_n 1) (len := 1) (okD_ok (by decide +kernel)) rfl
theorem e88_28 : rf d 88 28 ls s h = rf d 88 29 ls (.int (-1) :: s) h := rf_pure (i := .iconst (-1)) (len := 1) (okD_ok (by decide +kernel)) rfl
theorem e88_29 : rf d 88 29 ls (.int y :: .int x :: s) h = rf d 88 30 ls (.int (x ^^^ y) :: s) h := rf_pure (i := .ixor) (len := 1) (okD_ok (by decide +kernel)) rfl
theorem e88_30 : rf d 88 30 ls (.int y :: .int x :: s) h = rf d 88 31 ls (.int (x &&& y) :: s) h := rf_pure (i := .iand) (len := 1) (okD_ok (by decide +kernel)) rfl
theorem e88_31 (ha : isN a) : rf d 88 31 ls (.int x :: .ref a :: s) (SH n, I, L, R, nc, ns, nx) = rf d 88 34 ls s (SH n, ip_up I a 5 x, L, R, nc, ns, nx) := g_pI (idx := 32) (by decide +kernel) ow88 f_1_32 rfl (by decide +kernel) (kdN0 ha) (geN ha)
theorem e88_34 : rf d 88 34 [some (.ref a), l1] s h = rf d 88 35 [some (.ref a), l1] (.ref a :: s) h := rf_pure (i := .aload_n 0) (len := 1) (okD_ok (by decide +kernel)) rfl
theorem e88_35 (hR : LYR R) (ha : isN a) : rf d 88 35 ls (.ref a :: s) (SH n, I, L, R, nc, ns, nx) = rf d 88 38 ls (.ref (a + 2) :: s) (SH n, I, L, R, nc, ns, nx) := g_R (idx := 15) (by decide +kernel) ow88 f_1_15 rfl (kdN0 ha) (geN ha) (lyN13 hR ha)
theorem e88_38 : rf d 88 38 ls s h = rf d 88 39 ls (.int 0 :: s) h := rf_pure (i := .iconst (0)) (len := 1) (okD_ok (by decide +kernel)) rfl
theorem e88_39 : rf d 88 39 ls (.int j :: .ref a :: s) h = rf d 88 40 ls (.int j :: .ref a :: .int j :: .ref a :: s) h := rf_pure (i := .dup2) (len := 1) (okD_ok (by decide +kernel)) rfl
theorem e88_40 (q : ia n a j) : rf d 88 40 ls (.int j :: .ref a :: s) (SH n, I, L, R, nc, ns, nx) = rf d 88 41 ls (.int (I a j.toNatClampNeg) :: s) (SH n, I, L, R, nc, ns, nx) := g_ial (by decide +kernel) q
theorem e88_41 : rf d 88 41 [l0, some (.int x)] s h = rf d 88 42 [l0, some (.int x)] (.int x :: s) h := rf_pure (i := .iload_n 1) (len := 1) (okD_ok (by decide +kernel)) rfl
theorem e88_42 : rf d 88 42 ls s h = rf d 88 43 ls (.int (-1) :: s) h := rf_pure (i := .iconst (-1)) (len := 1) (okD_ok (by decide +kernel)) rfl
theorem e88_43 : rf d 88 43 ls (.int y :: .int x :: s) h = rf d 88 44 ls (.int (x ^^^ y) :: s) h := rf_pure (i := .ixor) (len := 1) (okD_ok (by decide +kernel)) rfl
theorem e88_44 : rf d 88 44 ls (.int y :: .int x :: s) h = rf d 88 45 ls (.int (x &&& y) :: s) h := rf_pure (i := .iand) (len := 1) (okD_ok (by decide +kernel)) rfl
theorem e88_45 (q : ia n a j) : rf d 88 45 ls (.int x :: .int j :: .ref a :: s) (SH n, I, L, R, nc, ns, nx) = rf d 88 46 ls s (SH n, ip_up I a j.toNatClampNeg x, L, R, nc, ns, nx) := g_ias (by decide +kernel) q
theorem e88_46 : rf d 88 46 [some (.ref a), l1] s h = rf d 88 47 [some (.ref a), l1] (.ref a :: s) h := rf_pure (i := .aload_n 0) (len := 1) (okD_ok (by decide +kernel)) rfl
theorem e88_47 (hR : LYR R) (ha : isN a) : rf d 88 47 ls (.ref a :: s) (SH n, I, L, R, nc, ns, nx) = rf d 88 50 ls (.ref (a + 2) :: s) (SH n, I, L, R, nc, ns, nx) := g_R (idx := 15) (by decide +kernel) ow88 f_1_15 rfl (kdN0 ha) (geN ha) (lyN13 hR ha)
theorem e88_50 : rf d 88 50 ls s h = rf d 88 51 ls (.int 1 :: s) h := rf_pure (i := .iconst (1)) (len := 1) (okD_ok (by decide +kernel)) rfl
theorem e88_51 : rf d 88 51 ls (.int j :: .ref a :: s) h = rf d 88 52 ls (.int j :: .ref a :: .int j :: .ref a :: s) h := rf_pure (i := .dup2) (len := 1) (okD_ok (by decide +kernel)) rfl
theorem e88_52 (q : ia n a j) : rf d 88 52 ls (.int j :: .ref a :: s) (SH n, I, L, R, nc, ns, nx) = rf d 88 53 ls (.int (I a j.toNatClampNeg) :: s) (SH n, I, L, R, nc, ns, nx) := g_ial (by decide +kernel) q
theorem e88_53 : rf d 88 53 [l0, some (.int x)] s h = rf d 88 54 [l0, some (.int x)] (.int x :: s) h := rf_pure (i := .iload_n 1) (len := 1) (okD_ok (by decide +kernel)) rfl
theorem e88_54 : rf d 88 54 ls s h = rf d 88 55 ls (.int (-1) :: s) h := rf_pure (i := .iconst (-1)) (len := 1) (okD_ok (by decide +kernel)) rfl
theorem e88_55 : rf d 88 55 ls (.int y :: .int x :: s) h = rf d 88 56 ls (.int (x ^^^ y) :: s) h := rf_pure (i := .ixor) (len := 1) (okD_ok (by decide +kernel)) rfl
theorem e88_56 : rf d 88 56 ls (.int y :: .int x :: s) h = rf d 88 57 ls (.int (x &&& y) :: s) h := rf_pure (i := .iand) (len := 1) (okD_ok (by decide +kernel)) rfl
theorem e88_57 (q : ia n a j) : rf d 88 57 ls (.int x :: .int j :: .ref a :: s) (SH n, I, L, R, nc, ns, nx) = rf d 88 58 ls s (SH n, ip_up I a j.toNatClampNeg x, L, R, nc, ns, nx) := g_ias (by decide +kernel) q
theorem e88_58 : rf d 88 58 ls [] h = some (.inl none, h) := g_rv (by decide +kernel) rt88
theorem en89 : cf d 89 [.ref a0, .int x1, .int x2, .ref a3] h = rf d 89 0 [some (.ref a0), some (.int x1), some (.int x2), some (.ref a3), none] [] h := rfl
theorem e89_0 : rf d 89 0 [l0, l1, l2, some (.ref a), l4] s h = rf d 89 1 [l0, l1, l2, some (.ref a), l4] (.ref a :: s) h := rf_pure (i := .aload_n 3) (len := 1) (okD_ok (by decide +kernel)) rfl
theorem e89_1 : rf d 89 1 ls s h = rf d 89 2 ls (.int 0 :: s) h := rf_pure (i := .iconst (0)) (len := 1) (okD_ok (by decide +kernel)) rfl
theorem e89_2 : rf d 89 2 [some (.ref a), l1, l2, l3, l4] s h = rf d 89 3 [some (.ref a), l1, l2, l3, l4] (.ref a :: s) h := rf_pure (i := .aload_n 0) (len := 1) (okD_ok (by decide +kernel)) rfl
theorem e89_3 : rf d 89 3 [l0, some (.int x), l2, l3, l4] s h = rf d 89 4 [l0, some (.int x), l2, l3, l4] (.int x :: s) h := rf_pure (i := .iload_n 1) (len := 1) (okD_ok (by decide +kernel)) rfl
theorem e89_4 : rf d 89 4 [l0, l1, some (.int x), l3, l4] s h = rf d 89 5 [l0, l1, some (.int x), l3, l4] (.int x :: s) h := rf_pure (i := .iload_n 2) (len := 1) (okD_ok (by decide +kernel)) rfl
theorem e89_5 (hcat : ip_cat s ≤ 8) : rf (d + 1) 89 5 ls (.int x1 :: .int x0 :: .ref 2 :: s) (SH n, I, L, R, nc, ns, nx) = rf_k (d + 1) 89 5 ls s (cf d 90 [.ref 2, .int x0, .int x1] (SH n, I, L, R, nc, ns, nx)) := g_cv (idx := 38) (t := 7) [.int x1, .int x0] (by decide +kernel) ow89 ms_9_38 mt_9_38 cy90_7 rfl rfl mL90 rfl rfl (by decide) hcat
theorem e89_8 : rf d 89 8 ls (.int x :: s) h = if x = 0 then rf d 89 15 ls s h else rf d 89 11 ls s h := g_if (c := .eq) (off := 7) _ (by decide +kernel) rfl cmp_d
theorem e89_11 : rf d 89 11 ls s h = rf d 89 12 ls (.long 1 :: s) h := rf_pure (i := .lconst 1) (len := 1) (okD_ok (by decide +kernel)) rfl
theorem e89_12 : rf d 89 12 ls s h = rf d 89 16 ls s h := rf_goto ⟨okD_ok (i := .goto (4)) (len := 3) (by decide +kernel), rfl⟩
theorem e89_15 : rf d 89 15 ls s h = rf d 89 16 ls (.long 0 :: s) h := rf_pure (i := .lconst 0) (len := 1) (okD_ok (by decide +kernel)) rfl
theorem e89_16 (q : la n a j) : rf d 89 16 ls (.long u :: .int j :: .ref a :: s) (SH n, I, L, R, nc, ns, nx) = rf d 89 17 ls s (SH n, I, ip_up L a j.toNatClampNeg u, R, nc, ns, nx) := g_las (by decide +kernel) q
theorem e89_17 : rf d 89 17 ls s h = rf d 89 32 ls s h := rf_goto ⟨okD_ok (i := .goto (15)) (len := 3) (by decide +kernel), rfl⟩
theorem e89_32 : rf d 89 32 ls s h = rf d 89 33 ls (.int 0 :: s) h := rf_pure (i := .iconst (0)) (len := 1) (okD_ok (by decide +kernel)) rfl
theorem e89_33 : rf d 89 33 ls [.int x] h = some (.inl (some (.int x)), h) := g_ri (by decide +kernel) rt89
theorem en90 : cf d 90 [.ref a, .int x0, .int x1] h = rf d 90 0 [some (.ref a), some (.int x0), some (.int x1), none, none] [] h := rfl
theorem e90_0 : rf d 90 0 [some (.ref a), l1, l2, l3, l4] s h = rf d 90 1 [some (.ref a), l1, l2, l3, l4] (.ref a :: s) h := rf_pure (i := .aload_n 0) (len := 1) (okD_ok (by decide +kernel)) rfl
theorem e90_1 : rf d 90 1 [l0, some (.int x), l2, l3, l4] s h = rf d 90 2 [l0, some (.int x), l2, l3, l4] (.int x :: s) h := rf_pure (i := .iload_n 1) (len := 1) (okD_ok (by decide +kernel)) rfl
theorem e90_2 (hcat : ip_cat s ≤ 8) : rf (d + 1) 90 2 ls (.int x0 :: .ref 2 :: s) (SH n, I, L, R, nc, ns, nx) = rf_k (d + 1) 90 2 ls s (cf d 75 [.ref 2, .int x0] (SH n, I, L, R, nc, ns, nx)) := g_cv (idx := 100) (t := 7) [.int x0] (by decide +kernel) ow90 ms_7_100 mt_7_100 cy75_7 rfl rfl mL75 rfl rfl (by decide) hcat
theorem e90_5 : rf d 90 5 [l0, l1, some (.int x), l3, l4] s h = rf d 90 6 [l0, l1, some (.int x), l3, l4] (.int x :: s) h := rf_pure (i := .iload_n 2) (len := 1) (okD_ok (by decide +kernel)) rfl
theorem e90_6 (hcat : ip_cat s ≤ 8) : rf (d + 1) 90 6 ls (.int x0 :: s) h = rf_k (d + 1) 90 6 ls s (cf d 86 [.int x0] h) := g_cs (idx := 133) [.int x0] (by decide +kernel) ow90 ms_7_133 mt_7_133 (by decide) rfl mL86 rfl hcat
theorem e90_9 : rf d 90 9 [some (.ref a), l1, l2, l3, l4] s h = rf d 90 10 [some (.ref a), l1, l2, l3, l4] (.ref a :: s) h := rf_pure (i := .aload_n 0) (len := 1) (okD_ok (by decide +kernel)) rfl
theorem e90_10 (hR : LYR R) : rf d 90 10 ls (.ref 2 :: s) (SH n, I, L, R, nc, ns, nx) = rf d 90 13 ls (.ref 23 :: s) (SH n, I, L, R, nc, ns, nx) := g_R (idx := 36) (by decide +kernel) ow90 f_7_36 rfl rfl (by decide) (ly_2_5 hR)
theorem e90_13 : rf d 90 13 [some (.ref a), l1, l2, l3, l4] s h = rf d 90 14 [some (.ref a), l1, l2, l3, l4] (.ref a :: s) h := rf_pure (i := .aload_n 0) (len := 1) (okD_ok (by decide +kernel)) rfl
theorem e90_14 : rf d 90 14 ls (.ref 2 :: s) (SH n, I, L, R, nc, ns, nx) = rf d 90 17 ls (.int (I 2 7) :: s) (SH n, I, L, R, nc, ns, nx) := g_I (idx := 43) (by decide +kernel) ow90 f_7_43 rfl rfl (by decide)
theorem e90_17 (hR : LYR R) (q : inb j 40) : rf d 90 17 ls (.int j :: .ref 23 :: s) (SH n, I, L, R, nc, ns, nx) = rf d 90 18 ls (.ref (nd j) :: s) (SH n, I, L, R, nc, ns, nx) := g_aal (by decide +kernel) hR q
theorem e90_18 (hn : ip_nl l2 = true) : rf d 90 18 [l0, l1, l2, l3, l4] (.ref a :: s) h = rf d 90 19 [l0, l1, l2, some (.ref a), l4] s h := g_sta (i := .astore_n 3) (len := 1) (q := 2) (p := 1) (by decide +kernel) rfl rfl hn
theorem e90_19 : rf d 90 19 [l0, l1, l2, some (.ref a), l4] s h = rf d 90 20 [l0, l1, l2, some (.ref a), l4] (.ref a :: s) h := rf_pure (i := .aload_n 3) (len := 1) (okD_ok (by decide +kernel)) rfl
theorem e90_20 (hb : isN b) (hcat : ip_cat s ≤ 8) : rf (d + 1) 90 20 ls (.ref b :: s) (SH n, I, L, R, nc, ns, nx) = rf_k (d + 1) 90 20 ls s (cf d 91 [.ref b] (SH n, I, L, R, nc, ns, nx)) := g_cv (idx := 162) (t := 1) [] (by decide +kernel) ow90 ms_7_162 mt_7_162 cy91_1 rfl rfl mL91 rfl (kdN0 hb) (geN hb) hcat
theorem e90_23 : rf d 90 23 [l0, l1, l2, some (.ref a), l4] s h = rf d 90 24 [l0, l1, l2, some (.ref a), l4] (.ref a :: s) h := rf_pure (i := .aload_n 3) (len := 1) (okD_ok (by decide +kernel)) rfl
theorem e90_24 : rf d 90 24 ls s h = rf d 90 25 ls (.int 1 :: s) h := rf_pure (i := .iconst (1)) (len := 1) (okD_ok (by decide +kernel)) rfl
theorem e90_25 : rf d 90 25 [l0, l1, some (.int x), l3, l4] s h = rf d 90 26 [l0, l1, some (.int x), l3, l4] (.int x :: s) h := rf_pure (i := .iload_n 2) (len := 1) (okD_ok (by decide +kernel)) rfl
theorem e90_26 : rf d 90 26 ls (.int y :: .int x :: s) h = rf d 90 27 ls (.int (x - y) :: s) h := rf_pure (i := .isub) (len := 1) (okD_ok (by decide +kernel)) rfl
theorem e90_27 (hb : isN b) (hcat : ip_cat s ≤ 8) : rf (d + 1) 90 27 ls (.int x0 :: .ref b :: s) (SH n, I, L, R, nc, ns, nx) = rf_k (d + 1) 90 27 ls s (cf d 92 [.ref b, .int x0] (SH n, I, L, R, nc, ns, nx)) := g_cv (idx := 165) (t := 1) [.int x0] (by decide +kernel) ow90 ms_7_165 mt_7_165 cy92_1 rfl rfl mL92 rfl (kdN0 hb) (geN hb) hcat
theorem e90_30 : rf d 90 30 ls (.int y :: .int x :: s) h = rf d 90 31 ls (.int (x &&& y) :: s) h := rf_pure (i := .iand) (len := 1) (okD_ok (by decide +kernel)) rfl
theorem e90_31 (hn : ip_nl l3 = true) : rf d 90 31 [l0, l1, l2, l3, l4] (.int x :: s) h = rf d 90 33 [l0, l1, l2, l3, some (.int x)] s h := g_sti (i := .istore 4) (len := 2) (q := 3) (p := 2) (by decide +kernel) rfl rfl hn
theorem e90_33 : rf d 90 33 [l0, l1, l2, some (.ref a), l4] s h = rf d 90 34 [l0, l1, l2, some (.ref a), l4] (.ref a :: s) h := rf_pure (i := .aload_n 3) (len := 1) (okD_ok (by decide +kernel)) rfl
theorem e90_34 (ha : isN a) : rf d 90 34 ls (.ref a :: s) (SH n, I, L, R, nc, ns, nx) = rf d 90 37 ls (.int (I a 0) :: s) (SH n, I, L, R, nc, ns, nx) := g_I (idx := 138) (by decide +kernel) ow90 f_7_138 rfl (kdN0 ha) (geN ha)
theorem e90_37 : rf d 90 37 ls (.int x :: s) h = if ¬ x = 0 then rf d 90 49 ls s h else rf d 90 40 ls s h := g_if (c := .ne) (off := 12) _ (by decide +kernel) rfl cmp_d
theorem e90_40 : rf d 90 40 [l0, l1, l2, l3, some (.int x)] s h = rf d 90 42 [l0, l1, l2, l3, some (.int x)] (.int x :: s) h := rf_pure (i := .iload 4) (len := 2) (okD_ok (by decide +kernel)) rfl
theorem e90_42 : rf d 90 42 ls s h = rf d 90 43 ls (.int 1 :: s) h := rf_pure (i := .iconst (1)) (len := 1) (okD_ok (by decide +kernel)) rfl
theorem e90_43 : rf d 90 43 [l0, some (.int x), l2, l3, l4] s h = rf d 90 44 [l0, some (.int x), l2, l3, l4] (.int x :: s) h := rf_pure (i := .iload_n 1) (len := 1) (okD_ok (by decide +kernel)) rfl
theorem e90_44 : rf d 90 44 ls (.int y :: .int x :: s) h = rf d 90 45 ls (.int (x <<< (y &&& 31)) :: s) h := rf_pure (i := .ishl) (len := 1) (okD_ok (by decide +kernel)) rfl
theorem e90_45 : rf d 90 45 ls (.int y :: .int x :: s) h = rf d 90 46 ls (.int (x &&& y) :: s) h := rf_pure (i := .iand) (len := 1) (okD_ok (by decide +kernel)) rfl
theorem e90_46 : rf d 90 46 ls (.int x :: s) h = if ¬ x = 0 then rf d 90 59 ls s h else rf d 90 49 ls s h := g_if (c := .ne) (off := 13) _ (by decide +kernel) rfl cmp_d
theorem e90_49 : rf d 90 49 ls [] h = some (.inr "java/lang/IllegalStateException", ip_hx h) := g_thr (idx := 147) (by decide +kernel) ow90 (by decide +kernel) (by decide +kernel)
theorem e90_59 : rf d 90 59 [l0, l1, l2, some (.ref a), l4] s h = rf d 90 60 [l0, l1, l2, some (.ref a), l4] (.ref a :: s) h := rf_pure (i := .aload_n 3) (len := 1) (okD_ok (by decide +kernel)) rfl
theorem e90_60 : rf d 90 60 [l0, l1, some (.int x), l3, l4] s h = rf d 90 61 [l0, l1, some (.int x), l3, l4] (.int x :: s) h := rf_pure (i := .iload_n 2) (len := 1) (okD_ok (by decide +kernel)) rfl
theorem e90_61 : rf d 90 61 ls s h = rf d 90 62 ls (.int 1 :: s) h := rf_pure (i := .iconst (1)) (len := 1) (okD_ok (by decide +kernel)) rfl
theorem e90_62 : rf d 90 62 [l0, some (.int x), l2, l3, l4] s h = rf d 90 63 [l0, some (.int x), l2, l3, l4] (.int x :: s) h := rf_pure (i := .iload_n 1) (len := 1) (okD_ok (by decide +kernel)) rfl
theorem e90_63 : rf d 90 63 ls (.int y :: .int x :: s) h = rf d 90 64 ls (.int (x <<< (y &&& 31)) :: s) h := rf_pure (i := .ishl) (len := 1) (okD_ok (by decide +kernel)) rfl
theorem e90_64 (hb : isN b) (hcat : ip_cat s ≤ 8) : rf (d + 1) 90 64 ls (.int x1 :: .int x0 :: .ref b :: s) (SH n, I, L, R, nc, ns, nx) = rf_k (d + 1) 90 64 ls s (cf d 93 [.ref b, .int x0, .int x1] (SH n, I, L, R, nc, ns, nx)) := g_cv (idx := 170) (t := 1) [.int x1, .int x0] (by decide +kernel) ow90 ms_7_170 mt_7_170 cy93_1 rfl rfl mL93 rfl (kdN0 hb) (geN hb) hcat
theorem e90_67 (hx : x = 0 ∨ x = 1) : rf d 90 67 ls [.int x] h = some (.inl (some (.int x)), h) := g_rz (by decide +kernel) rt90 hx
theorem en91 : cf d 91 [.ref a] h = rf d 91 0 [some (.ref a)] [] h := rfl
theorem e91_0 : rf d 91 0 [some (.ref a)] s h = rf d 91 1 [some (.ref a)] (.ref a :: s) h := rf_pure (i := .aload_n 0) (len := 1) (okD_ok (by decide +kernel)) rfl
theorem e91_1 (ha : isN a) : rf d 91 1 ls (.ref a :: s) (SH n, I, L, R, nc, ns, nx) = rf d 91 4 ls (.int (I a 0) :: s) (SH n, I, L, R, nc, ns, nx) := g_I (idx := 51) (by decide +kernel) ow91 f_1_51 rfl (kdN0 ha) (geN ha)
theorem e91_4 : rf d 91 4 ls (.int x :: s) h = if ¬ x = 0 then rf d 91 21 ls s h else rf d 91 7 ls s h := g_if (c := .ne) (off := 17) _ (by decide +kernel) rfl cmp_d
theorem e91_7 : rf d 91 7 [some (.ref a)] s h = rf d 91 8 [some (.ref a)] (.ref a :: s) h := rf_pure (i := .aload_n 0) (len := 1) (okD_ok (by decide +kernel)) rfl
theorem e91_8 (ha : isN a) : rf d 91 8 ls (.ref a :: s) (SH n, I, L, R, nc, ns, nx) = rf d 91 11 ls (.int (I a 3) :: s) (SH n, I, L, R, nc, ns, nx) := g_I (idx := 60) (by decide +kernel) ow91 f_1_60 rfl (kdN0 ha) (geN ha)
theorem e91_11 : rf d 91 11 [some (.ref a)] s h = rf d 91 12 [some (.ref a)] (.ref a :: s) h := rf_pure (i := .aload_n 0) (len := 1) (okD_ok (by decide +kernel)) rfl
theorem e91_12 (ha : isN a) : rf d 91 12 ls (.ref a :: s) (SH n, I, L, R, nc, ns, nx) = rf d 91 15 ls (.int (I a 6) :: s) (SH n, I, L, R, nc, ns, nx) := g_I (idx := 35) (by decide +kernel) ow91 f_1_35 rfl (kdN0 ha) (geN ha)
theorem e91_15 : rf d 91 15 ls s h = rf d 91 16 ls (.int (-1) :: s) h := rf_pure (i := .iconst (-1)) (len := 1) (okD_ok (by decide +kernel)) rfl
theorem e91_16 : rf d 91 16 ls (.int y :: .int x :: s) h = rf d 91 17 ls (.int (x ^^^ y) :: s) h := rf_pure (i := .ixor) (len := 1) (okD_ok (by decide +kernel)) rfl
theorem e91_17 : rf d 91 17 ls (.int y :: .int x :: s) h = rf d 91 18 ls (.int (x &&& y) :: s) h := rf_pure (i := .iand) (len := 1) (okD_ok (by decide +kernel)) rfl
theorem e91_18 : rf d 91 18 ls s h = rf d 91 25 ls s h := rf_goto ⟨okD_ok (i := .goto (7)) (len := 3) (by decide +kernel), rfl⟩
theorem e91_21 : rf d 91 21 [some (.ref a)] s h = rf d 91 22 [some (.ref a)] (.ref a :: s) h := rf_pure (i := .aload_n 0) (len := 1) (okD_ok (by decide +kernel)) rfl
theorem e91_22 (ha : isN a) : rf d 91 22 ls (.ref a :: s) (SH n, I, L, R, nc, ns, nx) = rf d 91 25 ls (.int (I a 10) :: s) (SH n, I, L, R, nc, ns, nx) := g_I (idx := 66) (by decide +kernel) ow91 f_1_66 rfl (kdN0 ha) (geN ha)
theorem e91_25 : rf d 91 25 ls [.int x] h = some (.inl (some (.int x)), h) := g_ri (by decide +kernel) rt91
theorem en92 : cf d 92 [.ref a, .int x0] h = rf d 92 0 [some (.ref a), some (.int x0)] [] h := rfl
theorem e92_0 : rf d 92 0 [l0, some (.int x)] s h = rf d 92 1 [l0, some (.int x)] (.int x :: s) h := rf_pure (i := .iload_n 1) (len := 1) (okD_ok (by decide +kernel)) rfl
theorem e92_1 : rf d 92 1 ls (.int x :: s) h = if ¬ x = 0 then rf d 92 11 ls s h else rf d 92 4 ls s h := g_if (c := .ne) (off := 10) _ (by decide +kernel) rfl cmp_d
theorem e92_4 : rf d 92 4 [some (.ref a), l1] s h = rf d 92 5 [some (.ref a), l1] (.ref a :: s) h := rf_pure (i := .aload_n 0) (len := 1) (okD_ok (by decide +kernel)) rfl
theorem e92_5 (ha : isN a) : rf d 92 5 ls (.ref a :: s) (SH n, I, L, R, nc, ns, nx) = rf d 92 8 ls (.int (I a 4) :: s) (SH n, I, L, R, nc, ns, nx) := g_I (idx := 28) (by decide +kernel) ow92 f_1_28 rfl (kdN0 ha) (geN ha)
theorem e92_8 : rf d 92 8 ls s h = rf d 92 15 ls s h := rf_goto ⟨okD_ok (i := .goto (7)) (len := 3) (by decide +kernel), rfl⟩
theorem e92_11 : rf d 92 11 [some (.ref a), l1] s h = rf d 92 12 [some (.ref a), l1] (.ref a :: s) h := rf_pure (i := .aload_n 0) (len := 1) (okD_ok (by decide +kernel)) rfl
theorem e92_12 (ha : isN a) : rf d 92 12 ls (.ref a :: s) (SH n, I, L, R, nc, ns, nx) = rf d 92 15 ls (.int (I a 5) :: s) (SH n, I, L, R, nc, ns, nx) := g_I (idx := 32) (by decide +kernel) ow92 f_1_32 rfl (kdN0 ha) (geN ha)
theorem e92_15 : rf d 92 15 ls [.int x] h = some (.inl (some (.int x)), h) := g_ri (by decide +kernel) rt92
theorem en93 : cf d 93 [.ref a, .int x0, .int x1] h = rf d 93 0 [some (.ref a), some (.int x0), some (.int x1), none] [] h := rfl
theorem e93_0 : rf d 93 0 [some (.ref a), l1, l2, l3] s h = rf d 93 1 [some (.ref a), l1, l2, l3] (.ref a :: s) h := rf_pure (i := .aload_n 0) (len := 1) (okD_ok (by decide +kernel)) rfl
theorem e93_1 (hR : LYR R) (ha : isN a) : rf d 93 1 ls (.ref a :: s) (SH n, I, L, R, nc, ns, nx) = rf d 93 4 ls (.ref (a + 2) :: s) (SH n, I, L, R, nc, ns, nx) := g_R (idx := 15) (by decide +kernel) ow93 f_1_15 rfl (kdN0 ha) (geN ha) (lyN13 hR ha)
theorem e93_4 : rf d 93 4 [l0, some (.int x), l2, l3] s h = rf d 93 5 [l0, some (.int x), l2, l3] (.int x :: s) h := rf_pure (i := .iload_n 1) (len := 1) (okD_ok (by decide +kernel)) rfl
theorem e93_5 : rf d 93 5 ls s h = rf d 93 6 ls (.int 1 :: s) h := rf_pure (i := .iconst (1)) (len := 1) (okD_ok (by decide +kernel)) rfl
theorem e93_6 : rf d 93 6 ls (.int y :: .int x :: s) h = rf d 93 7 ls (.int (x &&& y) :: s) h := rf_pure (i := .iand) (len := 1) (okD_ok (by decide +kernel)) rfl
theorem e93_7 (q : ia n a j) : rf d 93 7 ls (.int j :: .ref a :: s) (SH n, I, L, R, nc, ns, nx) = rf d 93 8 ls (.int (I a j.toNatClampNeg) :: s) (SH n, I, L, R, nc, ns, nx) := g_ial (by decide +kernel) q
theorem e93_8 : rf d 93 8 [l0, l1, some (.int x), l3] s h = rf d 93 9 [l0, l1, some (.int x), l3] (.int x :: s) h := rf_pure (i := .iload_n 2) (len := 1) (okD_ok (by decide +kernel)) rfl
theorem e93_9 : rf d 93 9 ls (.int y :: .int x :: s) h = rf d 93 10 ls (.int (x &&& y) :: s) h := rf_pure (i := .iand) (len := 1) (okD_ok (by decide +kernel)) rfl
theorem e93_10 : rf d 93 10 ls (.int x :: s) h = if ¬ x = 0 then rf d 93 17 ls s h else rf d 93 13 ls s h := g_if (c := .ne) (off := 7) _ (by decide +kernel) rfl cmp_d
theorem e93_13 : rf d 93 13 ls s h = rf d 93 14 ls (.int 1 :: s) h := rf_pure (i := .iconst (1)) (len := 1) (okD_ok (by decide +kernel)) rfl
theorem e93_14 : rf d 93 14 ls s h = rf d 93 18 ls s h := rf_goto ⟨okD_ok (i := .goto (4)) (len := 3) (by decide +kernel), rfl⟩
theorem e93_17 : rf d 93 17 ls s h = rf d 93 18 ls (.int 0 :: s) h := rf_pure (i := .iconst (0)) (len := 1) (okD_ok (by decide +kernel)) rfl
theorem e93_18 (hn : ip_nl l2 = true) : rf d 93 18 [l0, l1, l2, l3] (.int x :: s) h = rf d 93 19 [l0, l1, l2, some (.int x)] s h := g_sti (i := .istore_n 3) (len := 1) (q := 2) (p := 1) (by decide +kernel) rfl rfl hn
theorem e93_19 : rf d 93 19 [some (.ref a), l1, l2, l3] s h = rf d 93 20 [some (.ref a), l1, l2, l3] (.ref a :: s) h := rf_pure (i := .aload_n 0) (len := 1) (okD_ok (by decide +kernel)) rfl
theorem e93_20 (hR : LYR R) (ha : isN a) : rf d 93 20 ls (.ref a :: s) (SH n, I, L, R, nc, ns, nx) = rf d 93 23 ls (.ref (a + 2) :: s) (SH n, I, L, R, nc, ns, nx) := g_R (idx := 15) (by decide +kernel) ow93 f_1_15 rfl (kdN0 ha) (geN ha) (lyN13 hR ha)
theorem e93_23 : rf d 93 23 [l0, some (.int x), l2, l3] s h = rf d 93 24 [l0, some (.int x), l2, l3] (.int x :: s) h := rf_pure (i := .iload_n 1) (len := 1) (okD_ok (by decide +kernel)) rfl
theorem e93_24 : rf d 93 24 ls s h = rf d 93 25 ls (.int 1 :: s) h := rf_pure (i := .iconst (1)) (len := 1) (okD_ok (by decide +kernel)) rfl
theorem e93_25 : rf d 93 25 ls (.int y :: .int x :: s) h = rf d 93 26 ls (.int (x &&& y) :: s) h := rf_pure (i := .iand) (len := 1) (okD_ok (by decide +kernel)) rfl
theorem e93_26 : rf d 93 26 ls (.int j :: .ref a :: s) h = rf d 93 27 ls (.int j :: .ref a :: .int j :: .ref a :: s) h := rf_pure (i := .dup2) (len := 1) (okD_ok (by decide +kernel)) rfl
theorem e93_27 (q : ia n a j) : rf d 93 27 ls (.int j :: .ref a :: s) (SH n, I, L, R, nc, ns, nx) = rf d 93 28 ls (.int (I a j.toNatClampNeg) :: s) (SH n, I, L, R, nc, ns, nx) := g_ial (by decide +kernel) q
theorem e93_28 : rf d 93 28 [l0, l1, some (.int x), l3] s h = rf d 93 29 [l0, l1, some (.int x), l3] (.int x :: s) h := rf_pure (i := .iload_n 2) (len := 1) (okD_ok (by decide +kernel)) rfl
theorem e93_29 : rf d 93 29 ls (.int y :: .int x :: s) h = rf d 93 30 ls (.int (x ||| y) :: s) h := rf_pure (i := .ior) (len := 1) (okD_ok (by decide +kernel)) rfl
theorem e93_30 (q : ia n a j) : rf d 93 30 ls (.int x :: .int j :: .ref a :: s) (SH n, I, L, R, nc, ns, nx) = rf d 93 31 ls s (SH n, ip_up I a j.toNatClampNeg x, L, R, nc, ns, nx) := g_ias (by decide +kernel) q
theorem e93_31 : rf d 93 31 [l0, l1, l2, some (.int x)] s h = rf d 93 32 [l0, l1, l2, some (.int x)] (.int x :: s) h := rf_pure (i := .iload_n 3) (len := 1) (okD_ok (by decide +kernel)) rfl
theorem e93_32 (hx : x = 0 ∨ x = 1) : rf d 93 32 ls [.int x] h = some (.inl (some (.int x)), h) := g_rz (by decide +kernel) rt93 hx
theorem en94 : cf d 94 [.ref a0, .int x1, .ref a2] h = rf d 94 0 [some (.ref a0), some (.int x1), some (.ref a2), none] [] h := rfl
theorem e94_0 : rf d 94 0 [l0, l1, some (.ref a), l3] s h = rf d 94 1 [l0, l1, some (.ref a), l3] (.ref a :: s) h := rf_pure (i := .aload_n 2) (len := 1) (okD_ok (by decide +kernel)) rfl
theorem e94_1 : rf d 94 1 ls s h = rf d 94 2 ls (.int 0 :: s) h := rf_pure (i := .iconst (0)) (len := 1) (okD_ok (by decide +kernel)) rfl
theorem e94_2 : rf d 94 2 [some (.ref a), l1, l2, l3] s h = rf d 94 3 [some (.ref a), l1, l2, l3] (.ref a :: s) h := rf_pure (i := .aload_n 0) (len := 1) (okD_ok (by decide +kernel)) rfl
theorem e94_3 : rf d 94 3 [l0, some (.int x), l2, l3] s h = rf d 94 4 [l0, some (.int x), l2, l3] (.int x :: s) h := rf_pure (i := .iload_n 1) (len := 1) (okD_ok (by decide +kernel)) rfl
theorem e94_4 (hcat : ip_cat s ≤ 8) : rf (d + 1) 94 4 ls (.int x0 :: .ref 2 :: s) (SH n, I, L, R, nc, ns, nx) = rf_k (d + 1) 94 4 ls s (cf d 95 [.ref 2, .int x0] (SH n, I, L, R, nc, ns, nx)) := g_cv (idx := 42) (t := 7) [.int x0] (by decide +kernel) ow94 ms_9_42 mt_9_42 cy95_7 rfl rfl mL95 rfl rfl (by decide) hcat
theorem e94_7 : rf d 94 7 ls (.int x :: s) h = if x = 0 then rf d 94 14 ls s h else rf d 94 10 ls s h := g_if (c := .eq) (off := 7) _ (by decide +kernel) rfl cmp_d
theorem e94_10 : rf d 94 10 ls s h = rf d 94 11 ls (.long 1 :: s) h := rf_pure (i := .lconst 1) (len := 1) (okD_ok (by decide +kernel)) rfl
theorem e94_11 : rf d 94 11 ls s h = rf d 94 15 ls s h := rf_goto ⟨okD_ok (i := .goto (4)) (len := 3) (by decide +kernel), rfl⟩
theorem e94_14 : rf d 94 14 ls s h = rf d 94 15 ls (.long 0 :: s) h := rf_pure (i := .lconst 0) (len := 1) (okD_ok (by decide +kernel)) rfl
theorem e94_15 (q : la n a j) : rf d 94 15 ls (.long u :: .int j :: .ref a :: s) (SH n, I, L, R, nc, ns, nx) = rf d 94 16 ls s (SH n, I, ip_up L a j.toNatClampNeg u, R, nc, ns, nx) := g_las (by decide +kernel) q
theorem e94_16 : rf d 94 16 ls s h = rf d 94 25 ls s h := rf_goto ⟨okD_ok (i := .goto (9)) (len := 3) (by decide +kernel), rfl⟩
theorem e94_25 : rf d 94 25 ls s h = rf d 94 26 ls (.int 0 :: s) h := rf_pure (i := .iconst (0)) (len := 1) (okD_ok (by decide +kernel)) rfl
theorem e94_26 : rf d 94 26 ls [.int x] h = some (.inl (some (.int x)), h) := g_ri (by decide +kernel) rt94
theorem en95 : cf d 95 [.ref a, .int x0] h = rf d 95 0 [some (.ref a), some (.int x0), none, none, none] [] h := rfl
theorem e95_0 : rf d 95 0 [some (.ref a), l1, l2, l3, l4] s h = rf d 95 1 [some (.ref a), l1, l2, l3, l4] (.ref a :: s) h := rf_pure (i := .aload_n 0) (len := 1) (okD_ok (by decide +kernel)) rfl
theorem e95_1 : rf d 95 1 [l0, some (.int x), l2, l3, l4] s h = rf d 95 2 [l0, some (.int x), l2, l3, l4] (.int x :: s) h := rf_pure (i := .iload_n 1) (len := 1) (okD_ok (by decide +kernel)) rfl
theorem e95_2 (hcat : ip_cat s ≤ 8) : rf (d + 1) 95 2 ls (.int x0 :: .ref 2 :: s) (SH n, I, L, R, nc, ns, nx) = rf_k (d + 1) 95 2 ls s (cf d 75 [.ref 2, .int x0] (SH n, I, L, R, nc, ns, nx)) := g_cv (idx := 100) (t := 7) [.int x0] (by decide +kernel) ow95 ms_7_100 mt_7_100 cy75_7 rfl rfl mL75 rfl rfl (by decide) hcat
theorem e95_5 : rf d 95 5 [some (.ref a), l1, l2, l3, l4] s h = rf d 95 6 [some (.ref a), l1, l2, l3, l4] (.ref a :: s) h := rf_pure (i := .aload_n 0) (len := 1) (okD_ok (by decide +kernel)) rfl
theorem e95_6 (hR : LYR R) : rf d 95 6 ls (.ref 2 :: s) (SH n, I, L, R, nc, ns, nx) = rf d 95 9 ls (.ref 23 :: s) (SH n, I, L, R, nc, ns, nx) := g_R (idx := 36) (by decide +kernel) ow95 f_7_36 rfl rfl (by decide) (ly_2_5 hR)
theorem e95_9 : rf d 95 9 [some (.ref a), l1, l2, l3, l4] s h = rf d 95 10 [some (.ref a), l1, l2, l3, l4] (.ref a :: s) h := rf_pure (i := .aload_n 0) (len := 1) (okD_ok (by decide +kernel)) rfl
theorem e95_10 : rf d 95 10 ls (.ref 2 :: s) (SH n, I, L, R, nc, ns, nx) = rf d 95 13 ls (.int (I 2 7) :: s) (SH n, I, L, R, nc, ns, nx) := g_I (idx := 43) (by decide +kernel) ow95 f_7_43 rfl rfl (by decide)
theorem e95_13 (hR : LYR R) (q : inb j 40) : rf d 95 13 ls (.int j :: .ref 23 :: s) (SH n, I, L, R, nc, ns, nx) = rf d 95 14 ls (.ref (nd j) :: s) (SH n, I, L, R, nc, ns, nx) := g_aal (by decide +kernel) hR q
theorem e95_14 (hn : ip_nl l1 = true) : rf d 95 14 [l0, l1, l2, l3, l4] (.ref a :: s) h = rf d 95 15 [l0, l1, some (.ref a), l3, l4] s h := g_sta (i := .astore_n 2) (len := 1) (q := 1) (p := 1) (by decide +kernel) rfl rfl hn
theorem e95_15 : rf d 95 15 ls s h = rf d 95 16 ls (.int 1 :: s) h := rf_pure (i := .iconst (1)) (len := 1) (okD_ok (by decide +kernel)) rfl
theorem e95_16 : rf d 95 16 [l0, some (.int x), l2, l3, l4] s h = rf d 95 17 [l0, some (.int x), l2, l3, l4] (.int x :: s) h := rf_pure (i := .iload_n 1) (len := 1) (okD_ok (by decide +kernel)) rfl
theorem e95_17 : rf d 95 17 ls (.int y :: .int x :: s) h = rf d 95 18 ls (.int (x <<< (y &&& 31)) :: s) h := rf_pure (i := .ishl) (len := 1) (okD_ok (by decide +kernel)) rfl
theorem e95_18 (hn : ip_nl l2 = true) : rf d 95 18 [l0, l1, l2, l3, l4] (.int x :: s) h = rf d 95 19 [l0, l1, l2, some (.int x), l4] s h := g_sti (i := .istore_n 3) (len := 1) (q := 2) (p := 1) (by decide +kernel) rfl rfl hn
theorem e95_19 : rf d 95 19 [l0, l1, some (.ref a), l3, l4] s h = rf d 95 20 [l0, l1, some (.ref a), l3, l4] (.ref a :: s) h := rf_pure (i := .aload_n 2) (len := 1) (okD_ok (by decide +kernel)) rfl
theorem e95_20 (ha : isN a) : rf d 95 20 ls (.ref a :: s) (SH n, I, L, R, nc, ns, nx) = rf d 95 23 ls (.int (I a 0) :: s) (SH n, I, L, R, nc, ns, nx) := g_I (idx := 138) (by decide +kernel) ow95 f_7_138 rfl (kdN0 ha) (geN ha)
theorem e95_23 : rf d 95 23 ls (.int x :: s) h = if ¬ x = 0 then rf d 95 35 ls s h else rf d 95 26 ls s h := g_if (c := .ne) (off := 12) _ (by decide +kernel) rfl cmp_d
theorem e95_26 : rf d 95 26 [l0, l1, some (.ref a), l3, l4] s h = rf d 95 27 [l0, l1, some (.ref a), l3, l4] (.ref a :: s) h := rf_pure (i := .aload_n 2) (len := 1) (okD_ok (by decide +kernel)) rfl
theorem e95_27 (ha : isN a) : rf d 95 27 ls (.ref a :: s) (SH n, I, L, R, nc, ns, nx) = rf d 95 30 ls (.int (I a 7) :: s) (SH n, I, L, R, nc, ns, nx) := g_I (idx := 174) (by decide +kernel) ow95 f_7_174 rfl (kdN0 ha) (geN ha)
theorem e95_30 : rf d 95 30 [l0, l1, l2, some (.int x), l4] s h = rf d 95 31 [l0, l1, l2, some (.int x), l4] (.int x :: s) h := rf_pure (i := .iload_n 3) (len := 1) (okD_ok (by decide +kernel)) rfl
theorem e95_31 : rf d 95 31 ls (.int y :: .int x :: s) h = rf d 95 32 ls (.int (x &&& y) :: s) h := rf_pure (i := .iand) (len := 1) (okD_ok (by decide +kernel)) rfl
theorem e95_32 : rf d 95 32 ls (.int x :: s) h = if ¬ x = 0 then rf d 95 45 ls s h else rf d 95 35 ls s h := g_if (c := .ne) (off := 13) _ (by decide +kernel) rfl cmp_d
theorem e95_35 : rf d 95 35 ls [] h = some (.inr "java/lang/IllegalStateException", ip_hx h) := g_thr (idx := 147) (by decide +kernel) ow95 (by decide +kernel) (by decide +kernel)
theorem e95_45 : rf d 95 45 [l0, l1, some (.ref a), l3, l4] s h = rf d 95 46 [l0, l1, some (.ref a), l3, l4] (.ref a :: s) h := rf_pure (i := .aload_n 2) (len := 1) (okD_ok (by decide +kernel)) rfl
theorem e95_46 (ha : isN a) : rf d 95 46 ls (.ref a :: s) (SH n, I, L, R, nc, ns, nx) = rf d 95 49 ls (.int (I a 8) :: s) (SH n, I, L, R, nc, ns, nx) := g_I (idx := 179) (by decide +kernel) ow95 f_7_179 rfl (kdN0 ha) (geN ha)
theorem e95_49 : rf d 95 49 [l0, l1, l2, some (.int x), l4] s h = rf d 95 50 [l0, l1, l2, some (.int x), l4] (.int x :: s) h := rf_pure (i := .iload_n 3) (len := 1) (okD_ok (by decide +kernel)) rfl
theorem e95_50 : rf d 95 50 ls (.int y :: .int x :: s) h = rf d 95 51 ls (.int (x &&& y) :: s) h := rf_pure (i := .iand) (len := 1) (okD_ok (by decide +kernel)) rfl
theorem e95_51 : rf d 95 51 ls (.int x :: s) h = if ¬ x = 0 then rf d 95 58 ls s h else rf d 95 54 ls s h := g_if (c := .ne) (off := 7) _ (by decide +kernel) rfl cmp_d
theorem e95_54 : rf d 95 54 ls s h = rf d 95 55 ls (.int 1 :: s) h := rf_pure (i := .iconst (1)) (len := 1) (okD_ok (by decide +kernel)) rfl
theorem e95_55 : rf d 95 55 ls s h = rf d 95 59 ls s h := rf_goto ⟨okD_ok (i := .goto (4)) (len := 3) (by decide +kernel), rfl⟩
theorem e95_58 : rf d 95 58 ls s h = rf d 95 59 ls (.int 0 :: s) h := rf_pure (i := .iconst (0)) (len := 1) (okD_ok (by decide +kernel)) rfl
theorem e95_59 (hn : ip_nl l3 = true) : rf d 95 59 [l0, l1, l2, l3, l4] (.int x :: s) h = rf d 95 61 [l0, l1, l2, l3, some (.int x)] s h := g_sti (i := .istore 4) (len := 2) (q := 3) (p := 2) (by decide +kernel) rfl rfl hn
theorem e95_61 : rf d 95 61 [l0, l1, some (.ref a), l3, l4] s h = rf d 95 62 [l0, l1, some (.ref a), l3, l4] (.ref a :: s) h := rf_pure (i := .aload_n 2) (len := 1) (okD_ok (by decide +kernel)) rfl
theorem e95_62 : rf d 95 62 ls (.int x :: s) h = rf d 95 63 ls (.int x :: .int x :: s) h := rf_pure (i := .dup) (len := 1) (okD_ok (by decide +kernel)) rfl
theorem e95_62r : rf d 95 62 ls (.ref a :: s) h = rf d 95 63 ls (.ref a :: .ref a :: s) h := rf_pure (i := .dup) (len := 1) (okD_ok (by decide +kernel)) rfl
theorem e95_63 (ha : isN a) : rf d 95 63 ls (.ref a :: s) (SH n, I, L, R, nc, ns, nx) = rf d 95 66 ls (.int (I a 8) :: s) (SH n, I, L, R, nc, ns, nx) := g_I (idx := 179) (by decide +kernel) ow95 f_7_179 rfl (kdN0 ha) (geN ha)
theorem e95_66 : rf d 95 66 [l0, l1, l2, some (.int x), l4] s h = rf d 95 67 [l0, l1, l2, some (.int x), l4] (.int x :: s) h := rf_pure (i := .iload_n 3) (len := 1) (okD_ok (by decide +kernel)) rfl
theorem e95_67 : rf d 95 67 ls (.int y :: .int x :: s) h = rf d 95 68 ls (.int (x ||| y) :: s) h := rf_pure (i := .ior) (len := 1) (okD_ok (by decide +kernel)) rfl
theorem e95_68 (ha : isN a) : rf d 95 68 ls (.int x :: .ref a :: s) (SH n, I, L, R, nc, ns, nx) = rf d 95 71 ls s (SH n, ip_up I a 8 x, L, R, nc, ns, nx) := g_pI (idx := 179) (by decide +kernel) ow95 f_7_179 rfl (by decide +kernel) (kdN0 ha) (geN ha)
theorem e95_71 : rf d 95 71 [l0, l1, l2, l3, some (.int x)] s h = rf d 95 73 [l0, l1, l2, l3, some (.int x)] (.int x :: s) h := rf_pure (i := .iload 4) (len := 2) (okD_ok (by decide +kernel)) rfl
theorem e95_73 (hx : x = 0 ∨ x = 1) : rf d 95 73 ls [.int x] h = some (.inl (some (.int x)), h) := g_rz (by decide +kernel) rt95 hx
theorem en96 : cf d 96 [.ref a0, .int x1, .int x2, .ref a3] h = rf d 96 0 [some (.ref a0), some (.int x1), some (.int x2), some (.ref a3), none] [] h := rfl
theorem e96_0 : rf d 96 0 [l0, l1, l2, some (.ref a), l4] s h = rf d 96 1 [l0, l1, l2, some (.ref a), l4] (.ref a :: s) h := rf_pure (i := .aload_n 3) (len := 1) (okD_ok (by decide +kernel)) rfl
theorem e96_1 : rf d 96 1 ls s h = rf d 96 2 ls (.int 0 :: s) h := rf_pure (i := .iconst (0)) (len := 1) (okD_ok (by decide +kernel)) rfl
theorem e96_2 : rf d 96 2 [some (.ref a), l1, l2, l3, l4] s h = rf d 96 3 [some (.ref a), l1, l2, l3, l4] (.ref a :: s) h := rf_pure (i := .aload_n 0) (len := 1) (okD_ok (by decide +kernel)) rfl
theorem e96_3 : rf d 96 3 [l0, some (.int x), l2, l3, l4] s h = rf d 96 4 [l0, some (.int x), l2, l3, l4] (.int x :: s) h := rf_pure (i := .iload_n 1) (len := 1) (okD_ok (by decide +kernel)) rfl
theorem e96_4 : rf d 96 4 [l0, l1, some (.int x), l3, l4] s h = rf d 96 5 [l0, l1, some (.int x), l3, l4] (.int x :: s) h := rf_pure (i := .iload_n 2) (len := 1) (okD_ok (by decide +kernel)) rfl
theorem e96_5 (hcat : ip_cat s ≤ 8) : rf (d + 1) 96 5 ls (.int x1 :: .int x0 :: .ref 2 :: s) (SH n, I, L, R, nc, ns, nx) = rf_k (d + 1) 96 5 ls s (cf d 97 [.ref 2, .int x0, .int x1] (SH n, I, L, R, nc, ns, nx)) := g_cv (idx := 46) (t := 7) [.int x1, .int x0] (by decide +kernel) ow96 ms_9_46 mt_9_46 cy97_7 rfl rfl mL97 rfl rfl (by decide) hcat
theorem e96_8 : rf d 96 8 ls (.int x :: s) h = rf d 96 9 ls (.long x.toInt64 :: s) h := rf_pure (i := .i2l) (len := 1) (okD_ok (by decide +kernel)) rfl
theorem e96_9 (q : la n a j) : rf d 96 9 ls (.long u :: .int j :: .ref a :: s) (SH n, I, L, R, nc, ns, nx) = rf d 96 10 ls s (SH n, I, ip_up L a j.toNatClampNeg u, R, nc, ns, nx) := g_las (by decide +kernel) q
theorem e96_10 : rf d 96 10 ls s h = rf d 96 21 ls s h := rf_goto ⟨okD_ok (i := .goto (11)) (len := 3) (by decide +kernel), rfl⟩
theorem e96_21 : rf d 96 21 ls s h = rf d 96 22 ls (.int 0 :: s) h := rf_pure (i := .iconst (0)) (len := 1) (okD_ok (by decide +kernel)) rfl
theorem e96_22 : rf d 96 22 ls [.int x] h = some (.inl (some (.int x)), h) := g_ri (by decide +kernel) rt96
theorem en97 : cf d 97 [.ref a, .int x0, .int x1] h = rf d 97 0 [some (.ref a), some (.int x0), some (.int x1)] [] h := rfl
theorem e97_0 : rf d 97 0 [some (.ref a), l1, l2] s h = rf d 97 1 [some (.ref a), l1, l2] (.ref a :: s) h := rf_pure (i := .aload_n 0) (len := 1) (okD_ok (by decide +kernel)) rfl
theorem e97_1 : rf d 97 1 [l0, some (.int x), l2] s h = rf d 97 2 [l0, some (.int x), l2] (.int x :: s) h := rf_pure (i := .iload_n 1) (len := 1) (okD_ok (by decide +kernel)) rfl
theorem e97_2 (hcat : ip_cat s ≤ 8) : rf (d + 1) 97 2 ls (.int x0 :: .ref 2 :: s) (SH n, I, L, R, nc, ns, nx) = rf_k (d + 1) 97 2 ls s (cf d 98 [.ref 2, .int x0] (SH n, I, L, R, nc, ns, nx)) := g_cv (idx := 182) (t := 7) [.int x0] (by decide +kernel) ow97 ms_7_182 mt_7_182 cy98_7 rfl rfl mL98 rfl rfl (by decide) hcat
theorem e97_5 : rf d 97 5 [some (.ref a), l1, l2] s h = rf d 97 6 [some (.ref a), l1, l2] (.ref a :: s) h := rf_pure (i := .aload_n 0) (len := 1) (okD_ok (by decide +kernel)) rfl
theorem e97_6 : rf d 97 6 [l0, l1, some (.int x)] s h = rf d 97 7 [l0, l1, some (.int x)] (.int x :: s) h := rf_pure (i := .iload_n 2) (len := 1) (okD_ok (by decide +kernel)) rfl
theorem e97_7 (hcat : ip_cat s ≤ 8) : rf (d + 1) 97 7 ls (.int x0 :: .ref 2 :: s) (SH n, I, L, R, nc, ns, nx) = rf_k (d + 1) 97 7 ls s (cf d 98 [.ref 2, .int x0] (SH n, I, L, R, nc, ns, nx)) := g_cv (idx := 182) (t := 7) [.int x0] (by decide +kernel) ow97 ms_7_182 mt_7_182 cy98_7 rfl rfl mL98 rfl rfl (by decide) hcat
theorem e97_10 : rf d 97 10 [some (.ref a), l1, l2] s h = rf d 97 11 [some (.ref a), l1, l2] (.ref a :: s) h := rf_pure (i := .aload_n 0) (len := 1) (okD_ok (by decide +kernel)) rfl
theorem e97_11 (hcat : ip_cat s ≤ 8) : rf (d + 1) 97 11 ls (.ref 2 :: s) (SH n, I, L, R, nc, ns, nx) = rf_k (d + 1) 97 11 ls s (cf d 99 [.ref 2] (SH n, I, L, R, nc, ns, nx)) := g_cv (idx := 185) (t := 7) [] (by decide +kernel) ow97 ms_7_185 mt_7_185 cy99_7 rfl rfl mL99 rfl rfl (by decide) hcat
theorem e97_14 : rf d 97 14 [some (.ref a), l1, l2] s h = rf d 97 15 [some (.ref a), l1, l2] (.ref a :: s) h := rf_pure (i := .aload_n 0) (len := 1) (okD_ok (by decide +kernel)) rfl
theorem e97_15 (hcat : ip_cat s ≤ 8) : rf (d + 1) 97 15 ls (.ref 2 :: s) (SH n, I, L, R, nc, ns, nx) = rf_k (d + 1) 97 15 ls s (cf d 107 [.ref 2] (SH n, I, L, R, nc, ns, nx)) := g_cv (idx := 188) (t := 7) [] (by decide +kernel) ow97 ms_7_188 mt_7_188 cy107_7 rfl rfl mL107 rfl rfl (by decide) hcat
theorem e97_18 : rf d 97 18 [some (.ref a), l1, l2] s h = rf d 97 19 [some (.ref a), l1, l2] (.ref a :: s) h := rf_pure (i := .aload_n 0) (len := 1) (okD_ok (by decide +kernel)) rfl
theorem e97_19 (hR : LYR R) : rf d 97 19 ls (.ref 2 :: s) (SH n, I, L, R, nc, ns, nx) = rf d 97 22 ls (.ref 24 :: s) (SH n, I, L, R, nc, ns, nx) := g_R (idx := 49) (by decide +kernel) ow97 f_7_49 rfl rfl (by decide) (ly_2_8 hR)
theorem e97_22 : rf d 97 22 [l0, some (.int x), l2] s h = rf d 97 23 [l0, some (.int x), l2] (.int x :: s) h := rf_pure (i := .iload_n 1) (len := 1) (okD_ok (by decide +kernel)) rfl
theorem e97_23 : rf d 97 23 [l0, l1, some (.int x)] s h = rf d 97 24 [l0, l1, some (.int x)] (.int x :: s) h := rf_pure (i := .iload_n 2) (len := 1) (okD_ok (by decide +kernel)) rfl
theorem e97_24 (hb : isC b) (hcat : ip_cat s ≤ 8) : rf (d + 1) 97 24 ls (.int x1 :: .int x0 :: .ref b :: s) (SH n, I, L, R, nc, ns, nx) = rf_k (d + 1) 97 24 ls s (cf d 108 [.ref b, .int x0, .int x1] (SH n, I, L, R, nc, ns, nx)) := g_cv (idx := 191) (t := 0) [.int x1, .int x0] (by decide +kernel) ow97 ms_7_191 mt_7_191 cy108_0 rfl rfl mL108 rfl (kdC0 hb) (geC hb) hcat
theorem e97_27 : rf d 97 27 [some (.ref a), l1, l2] s h = rf d 97 28 [some (.ref a), l1, l2] (.ref a :: s) h := rf_pure (i := .aload_n 0) (len := 1) (okD_ok (by decide +kernel)) rfl
theorem e97_28 (hR : LYR R) : rf d 97 28 ls (.ref 2 :: s) (SH n, I, L, R, nc, ns, nx) = rf d 97 31 ls (.ref 24 :: s) (SH n, I, L, R, nc, ns, nx) := g_R (idx := 49) (by decide +kernel) ow97 f_7_49 rfl rfl (by decide) (ly_2_8 hR)
theorem e97_31 : rf d 97 31 [some (.ref a), l1, l2] s h = rf d 97 32 [some (.ref a), l1, l2] (.ref a :: s) h := rf_pure (i := .aload_n 0) (len := 1) (okD_ok (by decide +kernel)) rfl
theorem e97_32 (hR : LYR R) : rf d 97 32 ls (.ref 2 :: s) (SH n, I, L, R, nc, ns, nx) = rf d 97 35 ls (.ref 23 :: s) (SH n, I, L, R, nc, ns, nx) := g_R (idx := 36) (by decide +kernel) ow97 f_7_36 rfl rfl (by decide) (ly_2_5 hR)
theorem e97_35 : rf d 97 35 [some (.ref a), l1, l2] s h = rf d 97 36 [some (.ref a), l1, l2] (.ref a :: s) h := rf_pure (i := .aload_n 0) (len := 1) (okD_ok (by decide +kernel)) rfl
theorem e97_36 : rf d 97 36 ls (.ref 2 :: s) (SH n, I, L, R, nc, ns, nx) = rf d 97 39 ls (.int (I 2 6) :: s) (SH n, I, L, R, nc, ns, nx) := g_I (idx := 40) (by decide +kernel) ow97 f_7_40 rfl rfl (by decide)
theorem e97_39 (hR : LYR R) (q : inb j 40) : rf d 97 39 ls (.int j :: .ref 23 :: s) (SH n, I, L, R, nc, ns, nx) = rf d 97 40 ls (.ref (nd j) :: s) (SH n, I, L, R, nc, ns, nx) := g_aal (by decide +kernel) hR q
theorem e97_40 : rf d 97 40 [some (.ref a), l1, l2] s h = rf d 97 41 [some (.ref a), l1, l2] (.ref a :: s) h := rf_pure (i := .aload_n 0) (len := 1) (okD_ok (by decide +kernel)) rfl
theorem e97_41 : rf d 97 41 ls (.ref 2 :: s) (SH n, I, L, R, nc, ns, nx) = rf d 97 44 ls (.int (I 2 7) :: s) (SH n, I, L, R, nc, ns, nx) := g_I (idx := 43) (by decide +kernel) ow97 f_7_43 rfl rfl (by decide)
theorem e97_44 : rf d 97 44 [some (.ref a), l1, l2] s h = rf d 97 45 [some (.ref a), l1, l2] (.ref a :: s) h := rf_pure (i := .aload_n 0) (len := 1) (okD_ok (by decide +kernel)) rfl
theorem e97_45 : rf d 97 45 ls (.ref 2 :: s) (SH n, I, L, R, nc, ns, nx) = rf d 97 48 ls (.int (I 2 6) :: s) (SH n, I, L, R, nc, ns, nx) := g_I (idx := 40) (by decide +kernel) ow97 f_7_40 rfl rfl (by decide)
theorem e97_48 (hb : isC b) (hcat : ip_cat s ≤ 8) : rf (d + 1) 97 48 ls (.int x2 :: .int x1 :: .ref a0 :: .ref b :: s) (SH n, I, L, R, nc, ns, nx) = rf_k (d + 1) 97 48 ls s (cf d 114 [.ref b, .ref a0, .int x1, .int x2] (SH n, I, L, R, nc, ns, nx)) := g_cv (idx := 194) (t := 0) [.int x2, .int x1, .ref a0] (by decide +kernel) ow97 ms_7_194 mt_7_194 cy114_0 rfl rfl mL114 rfl (kdC0 hb) (geC hb) hcat
theorem e97_51 : rf d 97 51 [some (.ref a), l1, l2] s h = rf d 97 52 [some (.ref a), l1, l2] (.ref a :: s) h := rf_pure (i := .aload_n 0) (len := 1) (okD_ok (by decide +kernel)) rfl
theorem e97_52 (hcat : ip_cat s ≤ 8) : rf (d + 1) 97 52 ls (.ref 2 :: s) (SH n, I, L, R, nc, ns, nx) = rf_k (d + 1) 97 52 ls s (cf d 118 [.ref 2] (SH n, I, L, R, nc, ns, nx)) := g_cv (idx := 198) (t := 7) [] (by decide +kernel) ow97 ms_7_198 mt_7_198 cy118_7 rfl rfl mL118 rfl rfl (by decide) hcat
theorem e97_55 : rf d 97 55 ls [.int x] h = some (.inl (some (.int x)), h) := g_ri (by decide +kernel) rt97
theorem en98 : cf d 98 [.ref a, .int x0] h = rf d 98 0 [some (.ref a), some (.int x0)] [] h := rfl
theorem e98_0 : rf d 98 0 [l0, some (.int x)] s h = rf d 98 1 [l0, some (.int x)] (.int x :: s) h := rf_pure (i := .iload_n 1) (len := 1) (okD_ok (by decide +kernel)) rfl
theorem e98_1 : rf d 98 1 [some (.ref a), l1] s h = rf d 98 2 [some (.ref a), l1] (.ref a :: s) h := rf_pure (i := .aload_n 0) (len := 1) (okD_ok (by decide +kernel)) rfl
theorem e98_2 : rf d 98 2 ls (.ref 2 :: s) (SH n, I, L, R, nc, ns, nx) = rf d 98 5 ls (ip_rf (R 2 4) :: s) (SH n, I, L, R, nc, ns, nx) := g_R (idx := 30) (by decide +kernel) ow98 f_7_30 rfl rfl (by decide) rfl
theorem e98_5 (hb : isT b) (hcat : ip_cat s ≤ 8) : rf (d + 1) 98 5 ls (.ref b :: s) (SH n, I, L, R, nc, ns, nx) = rf_k (d + 1) 98 5 ls s (cf d 10 [.ref b] (SH n, I, L, R, nc, ns, nx)) := g_cv (idx := 71) (t := 6) [] (by decide +kernel) ow98 ms_7_71 mt_7_71 cy10_6 rfl rfl mL10 rfl (kdT0 hb) (geT hb) hcat
theorem e98_8 : rf d 98 8 ls s h = rf d 98 9 ls (.int (-1) :: s) h := rf_pure (i := .iconst (-1)) (len := 1) (okD_ok (by decide +kernel)) rfl
theorem e98_9 : rf d 98 9 ls (.int y :: .int x :: s) h = rf d 98 10 ls (.int (x ^^^ y) :: s) h := rf_pure (i := .ixor) (len := 1) (okD_ok (by decide +kernel)) rfl
theorem e98_10 : rf d 98 10 ls (.int y :: .int x :: s) h = rf d 98 11 ls (.int (x &&& y) :: s) h := rf_pure (i := .iand) (len := 1) (okD_ok (by decide +kernel)) rfl
theorem e98_11 : rf d 98 11 ls (.int x :: s) h = if x = 0 then rf d 98 25 ls s h else rf d 98 14 ls s h := g_if (c := .eq) (off := 14) _ (by decide +kernel) rfl cmp_d
theorem e98_14 : rf d 98 14 ls [] h = some (.inr "java/lang/IllegalArgumentException", ip_hx h) := g_thr (idx := 86) (by decide +kernel) ow98 (by decide +kernel) (by decide +kernel)
theorem e98_25 : rf d 98 25 ls [] h = some (.inl none, h) := g_rv (by decide +kernel) rt98
theorem en99 : cf d 99 [.ref a] h = rf d 99 0 [some (.ref a), none, none] [] h := rfl
theorem e99_0 : rf d 99 0 [some (.ref a), l1, l2] s h = rf d 99 1 [some (.ref a), l1, l2] (.ref a :: s) h := rf_pure (i := .aload_n 0) (len := 1) (okD_ok (by decide +kernel)) rfl
theorem e99_1 (hR : LYR R) : rf d 99 1 ls (.ref 2 :: s) (SH n, I, L, R, nc, ns, nx) = rf d 99 4 ls (.ref 23 :: s) (SH n, I, L, R, nc, ns, nx) := g_R (idx := 36) (by decide +kernel) ow99 f_7_36 rfl rfl (by decide) (ly_2_5 hR)
theorem e99_4 : rf d 99 4 [some (.ref a), l1, l2] s h = rf d 99 5 [some (.ref a), l1, l2] (.ref a :: s) h := rf_pure (i := .aload_n 0) (len := 1) (okD_ok (by decide +kernel)) rfl
theorem e99_5 : rf d 99 5 ls (.ref 2 :: s) (SH n, I, L, R, nc, ns, nx) = rf d 99 8 ls (.int (I 2 7) :: s) (SH n, I, L, R, nc, ns, nx) := g_I (idx := 43) (by decide +kernel) ow99 f_7_43 rfl rfl (by decide)
theorem e99_8 (hR : LYR R) (q : inb j 40) : rf d 99 8 ls (.int j :: .ref 23 :: s) (SH n, I, L, R, nc, ns, nx) = rf d 99 9 ls (.ref (nd j) :: s) (SH n, I, L, R, nc, ns, nx) := g_aal (by decide +kernel) hR q
theorem e99_9 (hn : ip_nl l0 = true) : rf d 99 9 [l0, l1, l2] (.ref a :: s) h = rf d 99 10 [l0, some (.ref a), l2] s h := g_sta (i := .astore_n 1) (len := 1) (q := 0) (p := 1) (by decide +kernel) rfl rfl hn
theorem e99_10 : rf d 99 10 [l0, some (.ref a), l2] s h = rf d 99 11 [l0, some (.ref a), l2] (.ref a :: s) h := rf_pure (i := .aload_n 1) (len := 1) (okD_ok (by decide +kernel)) rfl
theorem e99_11 (ha : isN a) : rf d 99 11 ls (.ref a :: s) (SH n, I, L, R, nc, ns, nx) = rf d 99 14 ls (.int (I a 1) :: s) (SH n, I, L, R, nc, ns, nx) := g_I (idx := 279) (by decide +kernel) ow99 f_7_279 rfl (kdN0 ha) (geN ha)
theorem e99_14 : rf d 99 14 ls s h = rf d 99 15 ls (.int (-1) :: s) h := rf_pure (i := .iconst (-1)) (len := 1) (okD_ok (by decide +kernel)) rfl
theorem e99_15 : rf d 99 15 ls (.int y :: .int x :: s) h = if ¬ x = y then rf d 99 22 ls s h else rf d 99 18 ls s h := g_ic (c := .ne) (off := 7) _ (by decide +kernel) rfl cmp_d
theorem e99_18 : rf d 99 18 [l0, some (.ref a), l2] s h = rf d 99 19 [l0, some (.ref a), l2] (.ref a :: s) h := rf_pure (i := .aload_n 1) (len := 1) (okD_ok (by decide +kernel)) rfl
theorem e99_19 : rf d 99 19 ls s h = rf d 99 31 ls s h := rf_goto ⟨okD_ok (i := .goto (12)) (len := 3) (by decide +kernel), rfl⟩
theorem e99_22 : rf d 99 22 [some (.ref a), l1, l2] s h = rf d 99 23 [some (.ref a), l1, l2] (.ref a :: s) h := rf_pure (i := .aload_n 0) (len := 1) (okD_ok (by decide +kernel)) rfl
theorem e99_23 (hR : LYR R) : rf d 99 23 ls (.ref 2 :: s) (SH n, I, L, R, nc, ns, nx) = rf d 99 26 ls (.ref 23 :: s) (SH n, I, L, R, nc, ns, nx) := g_R (idx := 36) (by decide +kernel) ow99 f_7_36 rfl rfl (by decide) (ly_2_5 hR)
theorem e99_26 : rf d 99 26 [l0, some (.ref a), l2] s h = rf d 99 27 [l0, some (.ref a), l2] (.ref a :: s) h := rf_pure (i := .aload_n 1) (len := 1) (okD_ok (by decide +kernel)) rfl
theorem e99_27 (ha : isN a) : rf d 99 27 ls (.ref a :: s) (SH n, I, L, R, nc, ns, nx) = rf d 99 30 ls (.int (I a 1) :: s) (SH n, I, L, R, nc, ns, nx) := g_I (idx := 279) (by decide +kernel) ow99 f_7_279 rfl (kdN0 ha) (geN ha)
theorem e99_30 (hR : LYR R) (q : inb j 40) : rf d 99 30 ls (.int j :: .ref 23 :: s) (SH n, I, L, R, nc, ns, nx) = rf d 99 31 ls (.ref (nd j) :: s) (SH n, I, L, R, nc, ns, nx) := g_aal (by decide +kernel) hR q
theorem e99_31 (hn : ip_nl l1 = true) : rf d 99 31 [l0, l1, l2] (.ref a :: s) h = rf d 99 32 [l0, l1, some (.ref a)] s h := g_sta (i := .astore_n 2) (len := 1) (q := 1) (p := 1) (by decide +kernel) rfl rfl hn
theorem e99_32 : rf d 99 32 [some (.ref a), l1, l2] s h = rf d 99 33 [some (.ref a), l1, l2] (.ref a :: s) h := rf_pure (i := .aload_n 0) (len := 1) (okD_ok (by decide +kernel)) rfl
theorem e99_33 (hR : LYR R) : rf d 99 33 ls (.ref 2 :: s) (SH n, I, L, R, nc, ns, nx) = rf d 99 36 ls (.ref 24 :: s) (SH n, I, L, R, nc, ns, nx) := g_R (idx := 49) (by decide +kernel) ow99 f_7_49 rfl rfl (by decide) (ly_2_8 hR)
theorem e99_36 : rf d 99 36 [some (.ref a), l1, l2] s h = rf d 99 37 [some (.ref a), l1, l2] (.ref a :: s) h := rf_pure (i := .aload_n 0) (len := 1) (okD_ok (by decide +kernel)) rfl
theorem e99_37 : rf d 99 37 ls (.ref 2 :: s) (SH n, I, L, R, nc, ns, nx) = rf d 99 40 ls (ip_rf (R 2 4) :: s) (SH n, I, L, R, nc, ns, nx) := g_R (idx := 30) (by decide +kernel) ow99 f_7_30 rfl rfl (by decide) rfl
theorem e99_40 : rf d 99 40 [l0, some (.ref a), l2] s h = rf d 99 41 [l0, some (.ref a), l2] (.ref a :: s) h := rf_pure (i := .aload_n 1) (len := 1) (okD_ok (by decide +kernel)) rfl
theorem e99_41 : rf d 99 41 [l0, l1, some (.ref a)] s h = rf d 99 42 [l0, l1, some (.ref a)] (.ref a :: s) h := rf_pure (i := .aload_n 2) (len := 1) (okD_ok (by decide +kernel)) rfl
theorem e99_42 (hb : isC b) (hcat : ip_cat s ≤ 8) : rf (d + 1) 99 42 ls (.ref a2 :: .ref a1 :: .ref a0 :: .ref b :: s) (SH n, I, L, R, nc, ns, nx) = rf_k (d + 1) 99 42 ls s (cf d 100 [.ref b, .ref a0, .ref a1, .ref a2] (SH n, I, L, R, nc, ns, nx)) := g_cv (idx := 404) (t := 0) [.ref a2, .ref a1, .ref a0] (by decide +kernel) ow99 ms_7_404 mt_7_404 cy100_0 rfl rfl mL100 rfl (kdC0 hb) (geC hb) hcat
theorem e99_45 : rf d 99 45 ls (.int x :: s) h = if ¬ x = 0 then rf d 99 59 ls s h else rf d 99 48 ls s h := g_if (c := .ne) (off := 14) _ (by decide +kernel) rfl cmp_d
theorem e99_48 : rf d 99 48 ls [] h = some (.inr "java/lang/IllegalStateException", ip_hx h) := g_thr (idx := 147) (by decide +kernel) ow99 (by decide +kernel) (by decide +kernel)
theorem e99_59 : rf d 99 59 ls [] h = some (.inl none, h) := g_rv (by decide +kernel) rt99
theorem en100 : cf d 100 [.ref a, .ref a0, .ref a1, .ref a2] h = rf d 100 0 [some (.ref a), some (.ref a0), some (.ref a1), some (.ref a2), none, none] [] h := rfl
theorem e100_0 : rf d 100 0 [some (.ref a), l1, l2, l3, l4, l5] s h = rf d 100 1 [some (.ref a), l1, l2, l3, l4, l5] (.ref a :: s) h := rf_pure (i := .aload_n 0) (len := 1) (okD_ok (by decide +kernel)) rfl
theorem e100_1 : rf d 100 1 [l0, some (.ref a), l2, l3, l4, l5] s h = rf d 100 2 [l0, some (.ref a), l2, l3, l4, l5] (.ref a :: s) h := rf_pure (i := .aload_n 1) (len := 1) (okD_ok (by decide +kernel)) rfl
theorem e100_2 (ha : isC a) : rf d 100 2 ls (.ref b :: .ref a :: s) (SH n, I, L, R, nc, ns, nx) = rf d 100 5 ls s (SH n, I, L, ip_up R a 0 (some b), nc, ns, nx) := g_pR (idx := 12) (by decide +kernel) ow100 f_0_12 rfl (by decide +kernel) (kdC0 ha) (geC ha)
theorem e100_5 : rf d 100 5 [some (.ref a), l1, l2, l3, l4, l5] s h = rf d 100 6 [some (.ref a), l1, l2, l3, l4, l5] (.ref a :: s) h := rf_pure (i := .aload_n 0) (len := 1) (okD_ok (by decide +kernel)) rfl
theorem e100_6 : rf d 100 6 [l0, l1, some (.ref a), l3, l4, l5] s h = rf d 100 7 [l0, l1, some (.ref a), l3, l4, l5] (.ref a :: s) h := rf_pure (i := .aload_n 2) (len := 1) (okD_ok (by decide +kernel)) rfl
theorem e100_7 (ha : isC a) : rf d 100 7 ls (.ref b :: .ref a :: s) (SH n, I, L, R, nc, ns, nx) = rf d 100 10 ls s (SH n, I, L, ip_up R a 1 (some b), nc, ns, nx) := g_pR (idx := 21) (by decide +kernel) ow100 f_0_21 rfl (by decide +kernel) (kdC0 ha) (geC ha)
theorem e100_10 : rf d 100 10 [some (.ref a), l1, l2, l3, l4, l5] s h = rf d 100 11 [some (.ref a), l1, l2, l3, l4, l5] (.ref a :: s) h := rf_pure (i := .aload_n 0) (len := 1) (okD_ok (by decide +kernel)) rfl
theorem e100_11 : rf d 100 11 [l0, l1, l2, some (.ref a), l4, l5] s h = rf d 100 12 [l0, l1, l2, some (.ref a), l4, l5] (.ref a :: s) h := rf_pure (i := .aload_n 3) (len := 1) (okD_ok (by decide +kernel)) rfl
theorem e100_12 (ha : isC a) : rf d 100 12 ls (.ref b :: .ref a :: s) (SH n, I, L, R, nc, ns, nx) = rf d 100 15 ls s (SH n, I, L, ip_up R a 2 (some b), nc, ns, nx) := g_pR (idx := 25) (by decide +kernel) ow100 f_0_25 rfl (by decide +kernel) (kdC0 ha) (geC ha)
theorem e100_15 : rf d 100 15 [l0, l1, some (.ref a), l3, l4, l5] s h = rf d 100 16 [l0, l1, some (.ref a), l3, l4, l5] (.ref a :: s) h := rf_pure (i := .aload_n 2) (len := 1) (okD_ok (by decide +kernel)) rfl
theorem e100_16 (hcat : ip_cat s ≤ 8) : rf (d + 1) 100 16 ls (.ref a0 :: s) h = rf_k (d + 1) 100 16 ls s (cf d 101 [.ref a0] h) := g_cs (idx := 48) [.ref a0] (by decide +kernel) ow100 ms_0_48 mt_0_48 (by decide) rfl mL101 rfl hcat
theorem e100_19 (hn : ip_nl l3 = true) : rf d 100 19 [l0, l1, l2, l3, l4, l5] (.int x :: s) h = rf d 100 21 [l0, l1, l2, l3, some (.int x), l5] s h := g_sti (i := .istore 4) (len := 2) (q := 3) (p := 2) (by decide +kernel) rfl rfl hn
theorem e100_21 : rf d 100 21 [some (.ref a), l1, l2, l3, l4, l5] s h = rf d 100 22 [some (.ref a), l1, l2, l3, l4, l5] (.ref a :: s) h := rf_pure (i := .aload_n 0) (len := 1) (okD_ok (by decide +kernel)) rfl
theorem e100_22 (ha : isC a) : rf d 100 22 ls (.ref a :: s) (SH n, I, L, R, nc, ns, nx) = rf d 100 25 ls (ip_rf (R a 0) :: s) (SH n, I, L, R, nc, ns, nx) := g_R (idx := 12) (by decide +kernel) ow100 f_0_12 rfl (kdC0 ha) (geC ha) rfl
theorem e100_25 : rf d 100 25 [some (.ref a), l1, l2, l3, l4, l5] s h = rf d 100 26 [some (.ref a), l1, l2, l3, l4, l5] (.ref a :: s) h := rf_pure (i := .aload_n 0) (len := 1) (okD_ok (by decide +kernel)) rfl
theorem e100_26 (ha : isC a) : rf d 100 26 ls (.ref a :: s) (SH n, I, L, R, nc, ns, nx) = rf d 100 29 ls (ip_rf (R a 1) :: s) (SH n, I, L, R, nc, ns, nx) := g_R (idx := 21) (by decide +kernel) ow100 f_0_21 rfl (kdC0 ha) (geC ha) rfl
theorem e100_29 (ha : isN a) : rf d 100 29 ls (.ref a :: s) (SH n, I, L, R, nc, ns, nx) = rf d 100 32 ls (.int (I a 4) :: s) (SH n, I, L, R, nc, ns, nx) := g_I (idx := 52) (by decide +kernel) ow100 f_0_52 rfl (kdN0 ha) (geN ha)
theorem e100_32 : rf d 100 32 [some (.ref a), l1, l2, l3, l4, l5] s h = rf d 100 33 [some (.ref a), l1, l2, l3, l4, l5] (.ref a :: s) h := rf_pure (i := .aload_n 0) (len := 1) (okD_ok (by decide +kernel)) rfl
theorem e100_33 (ha : isC a) : rf d 100 33 ls (.ref a :: s) (SH n, I, L, R, nc, ns, nx) = rf d 100 36 ls (ip_rf (R a 1) :: s) (SH n, I, L, R, nc, ns, nx) := g_R (idx := 21) (by decide +kernel) ow100 f_0_21 rfl (kdC0 ha) (geC ha) rfl
theorem e100_36 (ha : isN a) : rf d 100 36 ls (.ref a :: s) (SH n, I, L, R, nc, ns, nx) = rf d 100 39 ls (.int (I a 6) :: s) (SH n, I, L, R, nc, ns, nx) := g_I (idx := 55) (by decide +kernel) ow100 f_0_55 rfl (kdN0 ha) (geN ha)
theorem e100_39 (hb : isT b) (hcat : ip_cat s ≤ 8) : rf (d + 1) 100 39 ls (.int x1 :: .int x0 :: .ref b :: s) (SH n, I, L, R, nc, ns, nx) = rf_k (d + 1) 100 39 ls s (cf d 18 [.ref b, .int x0, .int x1] (SH n, I, L, R, nc, ns, nx)) := g_cv (idx := 58) (t := 6) [.int x1, .int x0] (by decide +kernel) ow100 ms_0_58 mt_0_58 cy18_6 rfl rfl mL18 rfl (kdT0 hb) (geT hb) hcat
theorem e100_42 (hn : ip_nl l4 = true) : rf d 100 42 [l0, l1, l2, l3, l4, l5] (.int x :: s) h = rf d 100 44 [l0, l1, l2, l3, l4, some (.int x)] s h := g_sti (i := .istore 5) (len := 2) (q := 4) (p := 2) (by decide +kernel) rfl rfl hn
theorem e100_44 : rf d 100 44 [l0, l1, l2, l3, some (.int x), l5] s h = rf d 100 46 [l0, l1, l2, l3, some (.int x), l5] (.int x :: s) h := rf_pure (i := .iload 4) (len := 2) (okD_ok (by decide +kernel)) rfl
theorem e100_46 : rf d 100 46 ls s h = rf d 100 47 ls (.int (-1) :: s) h := rf_pure (i := .iconst (-1)) (len := 1) (okD_ok (by decide +kernel)) rfl
theorem e100_47 : rf d 100 47 ls (.int y :: .int x :: s) h = if x = y then rf d 100 56 ls s h else rf d 100 50 ls s h := g_ic (c := .eq) (off := 9) _ (by decide +kernel) rfl cmp_d
theorem e100_50 : rf d 100 50 [l0, l1, l2, l3, l4, some (.int x)] s h = rf d 100 52 [l0, l1, l2, l3, l4, some (.int x)] (.int x :: s) h := rf_pure (i := .iload 5) (len := 2) (okD_ok (by decide +kernel)) rfl
theorem e100_52 : rf d 100 52 ls s h = rf d 100 53 ls (.int (-1) :: s) h := rf_pure (i := .iconst (-1)) (len := 1) (okD_ok (by decide +kernel)) rfl
theorem e100_53 : rf d 100 53 ls (.int y :: .int x :: s) h = if ¬ x = y then rf d 100 58 ls s h else rf d 100 56 ls s h := g_ic (c := .ne) (off := 5) _ (by decide +kernel) rfl cmp_d
theorem e100_56 : rf d 100 56 ls s h = rf d 100 57 ls (.int 0 :: s) h := rf_pure (i := .iconst (0)) (len := 1) (okD_ok (by decide +kernel)) rfl
theorem e100_57 (hx : x = 0 ∨ x = 1) : rf d 100 57 ls [.int x] h = some (.inl (some (.int x)), h) := g_rz (by decide +kernel) rt100 hx
theorem e100_58 : rf d 100 58 [some (.ref a), l1, l2, l3, l4, l5] s h = rf d 100 59 [some (.ref a), l1, l2, l3, l4, l5] (.ref a :: s) h := rf_pure (i := .aload_n 0) (len := 1) (okD_ok (by decide +kernel)) rfl
theorem e100_59 : rf d 100 59 [l0, l1, l2, l3, some (.int x), l5] s h = rf d 100 61 [l0, l1, l2, l3, some (.int x), l5] (.int x :: s) h := rf_pure (i := .iload 4) (len := 2) (okD_ok (by decide +kernel)) rfl
theorem e100_61 (ha : isC a) : rf d 100 61 ls (.int x :: .ref a :: s) (SH n, I, L, R, nc, ns, nx) = rf d 100 64 ls s (SH n, ip_up I a 3 x, L, R, nc, ns, nx) := g_pI (idx := 28) (by decide +kernel) ow100 f_0_28 rfl (by decide +kernel) (kdC0 ha) (geC ha)
theorem e100_64 : rf d 100 64 [some (.ref a), l1, l2, l3, l4, l5] s h = rf d 100 65 [some (.ref a), l1, l2, l3, l4, l5] (.ref a :: s) h := rf_pure (i := .aload_n 0) (len := 1) (okD_ok (by decide +kernel)) rfl
theorem e100_65 : rf d 100 65 [l0, l1, l2, l3, l4, some (.int x)] s h = rf d 100 67 [l0, l1, l2, l3, l4, some (.int x)] (.int x :: s) h := rf_pure (i := .iload 5) (len := 2) (okD_ok (by decide +kernel)) rfl
theorem e100_67 (ha : isC a) : rf d 100 67 ls (.int x :: .ref a :: s) (SH n, I, L, R, nc, ns, nx) = rf d 100 70 ls s (SH n, ip_up I a 4 x, L, R, nc, ns, nx) := g_pI (idx := 32) (by decide +kernel) ow100 f_0_32 rfl (by decide +kernel) (kdC0 ha) (geC ha)
theorem e100_70 : rf d 100 70 [some (.ref a), l1, l2, l3, l4, l5] s h = rf d 100 71 [some (.ref a), l1, l2, l3, l4, l5] (.ref a :: s) h := rf_pure (i := .aload_n 0) (len := 1) (okD_ok (by decide +kernel)) rfl
theorem e100_71 : rf d 100 71 [some (.ref a), l1, l2, l3, l4, l5] s h = rf d 100 72 [some (.ref a), l1, l2, l3, l4, l5] (.ref a :: s) h := rf_pure (i := .aload_n 0) (len := 1) (okD_ok (by decide +kernel)) rfl
theorem e100_72 (ha : isC a) : rf d 100 72 ls (.ref a :: s) (SH n, I, L, R, nc, ns, nx) = rf d 100 75 ls (ip_rf (R a 0) :: s) (SH n, I, L, R, nc, ns, nx) := g_R (idx := 12) (by decide +kernel) ow100 f_0_12 rfl (kdC0 ha) (geC ha) rfl
theorem e100_75 : rf d 100 75 ls s h = rf d 100 76 ls (.int 0 :: s) h := rf_pure (i := .iconst (0)) (len := 1) (okD_ok (by decide +kernel)) rfl
theorem e100_76 (hb : isT b) (hcat : ip_cat s ≤ 8) : rf (d + 1) 100 76 ls (.int x0 :: .ref b :: s) (SH n, I, L, R, nc, ns, nx) = rf_k (d + 1) 100 76 ls s (cf d 102 [.ref b, .int x0] (SH n, I, L, R, nc, ns, nx)) := g_cv (idx := 62) (t := 6) [.int x0] (by decide +kernel) ow100 ms_0_62 mt_0_62 cy102_6 rfl rfl mL102 rfl (kdT0 hb) (geT hb) hcat
theorem e100_79 (ha : isC a) : rf d 100 79 ls (.int x :: .ref a :: s) (SH n, I, L, R, nc, ns, nx) = rf d 100 82 ls s (SH n, ip_up I a 5 x, L, R, nc, ns, nx) := g_pI (idx := 35) (by decide +kernel) ow100 f_0_35 rfl (by decide +kernel) (kdC0 ha) (geC ha)
theorem e100_82 : rf d 100 82 [some (.ref a), l1, l2, l3, l4, l5] s h = rf d 100 83 [some (.ref a), l1, l2, l3, l4, l5] (.ref a :: s) h := rf_pure (i := .aload_n 0) (len := 1) (okD_ok (by decide +kernel)) rfl
theorem e100_83 : rf d 100 83 ls s h = rf d 100 84 ls (.int 0 :: s) h := rf_pure (i := .iconst (0)) (len := 1) (okD_ok (by decide +kernel)) rfl
theorem e100_84 (hb : isC b) (hcat : ip_cat s ≤ 8) : rf (d + 1) 100 84 ls (.int x0 :: .ref b :: s) (SH n, I, L, R, nc, ns, nx) = rf_k (d + 1) 100 84 ls s (cf d 103 [.ref b, .int x0] (SH n, I, L, R, nc, ns, nx)) := g_cv (idx := 66) (t := 0) [.int x0] (by decide +kernel) ow100 ms_0_66 mt_0_66 cy103_0 rfl rfl mL103 rfl (kdC0 hb) (geC hb) hcat
theorem e100_87 : rf d 100 87 [some (.ref a), l1, l2, l3, l4, l5] s h = rf d 100 88 [some (.ref a), l1, l2, l3, l4, l5] (.ref a :: s) h := rf_pure (i := .aload_n 0) (len := 1) (okD_ok (by decide +kernel)) rfl
theorem e100_88 : rf d 100 88 ls s h = rf d 100 89 ls (.int 1 :: s) h := rf_pure (i := .iconst (1)) (len := 1) (okD_ok (by decide +kernel)) rfl
theorem e100_89 (hb : isC b) (hcat : ip_cat s ≤ 8) : rf (d + 1) 100 89 ls (.int x0 :: .ref b :: s) (SH n, I, L, R, nc, ns, nx) = rf_k (d + 1) 100 89 ls s (cf d 103 [.ref b, .int x0] (SH n, I, L, R, nc, ns, nx)) := g_cv (idx := 66) (t := 0) [.int x0] (by decide +kernel) ow100 ms_0_66 mt_0_66 cy103_0 rfl rfl mL103 rfl (kdC0 hb) (geC hb) hcat
theorem e100_92 : rf d 100 92 ls s h = rf d 100 93 ls (.int 1 :: s) h := rf_pure (i := .iconst (1)) (len := 1) (okD_ok (by decide +kernel)) rfl
theorem e100_93 (hx : x = 0 ∨ x = 1) : rf d 100 93 ls [.int x] h = some (.inl (some (.int x)), h) := g_rz (by decide +kernel) rt100 hx
theorem en101 : cf d 101 [.ref a0] h = rf d 101 0 [some (.ref a0)] [] h := rfl
theorem e101_0 : rf d 101 0 [some (.ref a)] s h = rf d 101 1 [some (.ref a)] (.ref a :: s) h := rf_pure (i := .aload_n 0) (len := 1) (okD_ok (by decide +kernel)) rfl
theorem e101_1 (ha : isN a) : rf d 101 1 ls (.ref a :: s) (SH n, I, L, R, nc, ns, nx) = rf d 101 4 ls (.int (I a 0) :: s) (SH n, I, L, R, nc, ns, nx) := g_I (idx := 70) (by decide +kernel) ow101 f_0_70 rfl (kdN0 ha) (geN ha)
theorem e101_4 : rf d 101 4 ls (.int x :: s) h = if ¬ x = 0 then rf d 101 25 ls s h else rf d 101 7 ls s h := g_if (c := .ne) (off := 21) _ (by decide +kernel) rfl cmp_d
theorem e101_7 : rf d 101 7 [some (.ref a)] s h = rf d 101 8 [some (.ref a)] (.ref a :: s) h := rf_pure (i := .aload_n 0) (len := 1) (okD_ok (by decide +kernel)) rfl
theorem e101_8 (ha : isN a) : rf d 101 8 ls (.ref a :: s) (SH n, I, L, R, nc, ns, nx) = rf d 101 11 ls (.int (I a 3) :: s) (SH n, I, L, R, nc, ns, nx) := g_I (idx := 71) (by decide +kernel) ow101 f_0_71 rfl (kdN0 ha) (geN ha)
theorem e101_11 : rf d 101 11 [some (.ref a)] s h = rf d 101 12 [some (.ref a)] (.ref a :: s) h := rf_pure (i := .aload_n 0) (len := 1) (okD_ok (by decide +kernel)) rfl
theorem e101_12 (ha : isN a) : rf d 101 12 ls (.ref a :: s) (SH n, I, L, R, nc, ns, nx) = rf d 101 15 ls (.int (I a 6) :: s) (SH n, I, L, R, nc, ns, nx) := g_I (idx := 55) (by decide +kernel) ow101 f_0_55 rfl (kdN0 ha) (geN ha)
theorem e101_15 : rf d 101 15 ls (.int y :: .int x :: s) h = rf d 101 16 ls (.int (x &&& y) :: s) h := rf_pure (i := .iand) (len := 1) (okD_ok (by decide +kernel)) rfl
theorem e101_16 : rf d 101 16 ls (.int x :: s) h = if ¬ x = 0 then rf d 101 23 ls s h else rf d 101 19 ls s h := g_if (c := .ne) (off := 7) _ (by decide +kernel) rfl cmp_d
theorem e101_19 : rf d 101 19 ls s h = rf d 101 20 ls (.int 1 :: s) h := rf_pure (i := .iconst (1)) (len := 1) (okD_ok (by decide +kernel)) rfl
theorem e101_20 : rf d 101 20 ls s h = rf d 101 24 ls s h := rf_goto ⟨okD_ok (i := .goto (4)) (len := 3) (by decide +kernel), rfl⟩
theorem e101_23 : rf d 101 23 ls s h = rf d 101 24 ls (.int (-1) :: s) h := rf_pure (i := .iconst (-1)) (len := 1) (okD_ok (by decide +kernel)) rfl
theorem e101_24 : rf d 101 24 ls [.int x] h = some (.inl (some (.int x)), h) := g_ri (by decide +kernel) rt101
theorem e101_25 : rf d 101 25 [some (.ref a)] s h = rf d 101 26 [some (.ref a)] (.ref a :: s) h := rf_pure (i := .aload_n 0) (len := 1) (okD_ok (by decide +kernel)) rfl
theorem e101_26 (ha : isN a) : rf d 101 26 ls (.ref a :: s) (SH n, I, L, R, nc, ns, nx) = rf d 101 29 ls (.int (I a 0) :: s) (SH n, I, L, R, nc, ns, nx) := g_I (idx := 70) (by decide +kernel) ow101 f_0_70 rfl (kdN0 ha) (geN ha)
theorem e101_29 : rf d 101 29 ls s h = rf d 101 30 ls (.int 1 :: s) h := rf_pure (i := .iconst (1)) (len := 1) (okD_ok (by decide +kernel)) rfl
theorem e101_30 : rf d 101 30 ls (.int y :: .int x :: s) h = if ¬ x = y then rf d 101 45 ls s h else rf d 101 33 ls s h := g_ic (c := .ne) (off := 15) _ (by decide +kernel) rfl cmp_d
theorem e101_33 : rf d 101 33 [some (.ref a)] s h = rf d 101 34 [some (.ref a)] (.ref a :: s) h := rf_pure (i := .aload_n 0) (len := 1) (okD_ok (by decide +kernel)) rfl
theorem e101_34 (ha : isN a) : rf d 101 34 ls (.ref a :: s) (SH n, I, L, R, nc, ns, nx) = rf d 101 37 ls (.int (I a 2) :: s) (SH n, I, L, R, nc, ns, nx) := g_I (idx := 74) (by decide +kernel) ow101 f_0_74 rfl (kdN0 ha) (geN ha)
theorem e101_37 : rf d 101 37 ls s h = rf d 101 38 ls (.int 3 :: s) h := rf_pure (i := .iconst (3)) (len := 1) (okD_ok (by decide +kernel)) rfl
theorem e101_38 : rf d 101 38 ls (.int y :: .int x :: s) h = if x = y then rf d 101 45 ls s h else rf d 101 41 ls s h := g_ic (c := .eq) (off := 7) _ (by decide +kernel) rfl cmp_d
theorem e101_41 : rf d 101 41 ls s h = rf d 101 42 ls (.int 2 :: s) h := rf_pure (i := .iconst (2)) (len := 1) (okD_ok (by decide +kernel)) rfl
theorem e101_42 : rf d 101 42 ls s h = rf d 101 46 ls s h := rf_goto ⟨okD_ok (i := .goto (4)) (len := 3) (by decide +kernel), rfl⟩
theorem e101_45 : rf d 101 45 ls s h = rf d 101 46 ls (.int (-1) :: s) h := rf_pure (i := .iconst (-1)) (len := 1) (okD_ok (by decide +kernel)) rfl
theorem e101_46 : rf d 101 46 ls [.int x] h = some (.inl (some (.int x)), h) := g_ri (by decide +kernel) rt101
theorem en102 : cf d 102 [.ref a, .int x0] h = rf d 102 0 [some (.ref a), some (.int x0), none, none] [] h := rfl
theorem e102_0 : rf d 102 0 ls s h = rf d 102 1 ls (.int 0 :: s) h := rf_pure (i := .iconst (0)) (len := 1) (okD_ok (by decide +kernel)) rfl
theorem e102_1 (hn : ip_nl l1 = true) : rf d 102 1 [l0, l1, l2, l3] (.int x :: s) h = rf d 102 2 [l0, l1, some (.int x), l3] s h := g_sti (i := .istore_n 2) (len := 1) (q := 1) (p := 1) (by decide +kernel) rfl rfl hn
theorem e102_2 : rf d 102 2 ls s h = rf d 102 3 ls (.int 0 :: s) h := rf_pure (i := .iconst (0)) (len := 1) (okD_ok (by decide +kernel)) rfl
theorem e102_3 (hn : ip_nl l2 = true) : rf d 102 3 [l0, l1, l2, l3] (.int x :: s) h = rf d 102 4 [l0, l1, l2, some (.int x)] s h := g_sti (i := .istore_n 3) (len := 1) (q := 2) (p := 1) (by decide +kernel) rfl rfl hn
theorem e102_4 : rf d 102 4 [l0, l1, l2, some (.int x)] s h = rf d 102 5 [l0, l1, l2, some (.int x)] (.int x :: s) h := rf_pure (i := .iload_n 3) (len := 1) (okD_ok (by decide +kernel)) rfl
theorem e102_5 : rf d 102 5 [some (.ref a), l1, l2, l3] s h = rf d 102 6 [some (.ref a), l1, l2, l3] (.ref a :: s) h := rf_pure (i := .aload_n 0) (len := 1) (okD_ok (by decide +kernel)) rfl
theorem e102_6 (ha : isT a) : rf d 102 6 ls (.ref a :: s) (SH n, I, L, R, nc, ns, nx) = rf d 102 9 ls (.int (I a 6) :: s) (SH n, I, L, R, nc, ns, nx) := g_I (idx := 36) (by decide +kernel) ow102 f_6_36 rfl (kdT0 ha) (geT ha)
theorem e102_9 : rf d 102 9 ls (.int y :: .int x :: s) h = if y ≤ x then rf d 102 34 ls s h else rf d 102 12 ls s h := g_ic (c := .ge) (off := 25) _ (by decide +kernel) rfl cmp_d
theorem e102_12 : rf d 102 12 [some (.ref a), l1, l2, l3] s h = rf d 102 13 [some (.ref a), l1, l2, l3] (.ref a :: s) h := rf_pure (i := .aload_n 0) (len := 1) (okD_ok (by decide +kernel)) rfl
theorem e102_13 (hR : LYR R) (ha : isT a) : rf d 102 13 ls (.ref a :: s) (SH n, I, L, R, nc, ns, nx) = rf d 102 16 ls (.ref (a + 2) :: s) (SH n, I, L, R, nc, ns, nx) := g_R (idx := 15) (by decide +kernel) ow102 f_6_15 rfl (kdT0 ha) (geT ha) (lyT1 hR ha)
theorem e102_16 : rf d 102 16 [l0, l1, l2, some (.int x)] s h = rf d 102 17 [l0, l1, l2, some (.int x)] (.int x :: s) h := rf_pure (i := .iload_n 3) (len := 1) (okD_ok (by decide +kernel)) rfl
theorem e102_17 (q : ia n a j) : rf d 102 17 ls (.int j :: .ref a :: s) (SH n, I, L, R, nc, ns, nx) = rf d 102 18 ls (.int (I a j.toNatClampNeg) :: s) (SH n, I, L, R, nc, ns, nx) := g_ial (by decide +kernel) q
theorem e102_18 : rf d 102 18 [l0, some (.int x), l2, l3] s h = rf d 102 19 [l0, some (.int x), l2, l3] (.int x :: s) h := rf_pure (i := .iload_n 1) (len := 1) (okD_ok (by decide +kernel)) rfl
theorem e102_19 : rf d 102 19 ls (.int y :: .int x :: s) h = if ¬ x = y then rf d 102 28 ls s h else rf d 102 22 ls s h := g_ic (c := .ne) (off := 9) _ (by decide +kernel) rfl cmp_d
theorem e102_22 : rf d 102 22 [l0, l1, some (.int x), l3] s h = rf d 102 23 [l0, l1, some (.int x), l3] (.int x :: s) h := rf_pure (i := .iload_n 2) (len := 1) (okD_ok (by decide +kernel)) rfl
theorem e102_23 : rf d 102 23 ls s h = rf d 102 24 ls (.int 1 :: s) h := rf_pure (i := .iconst (1)) (len := 1) (okD_ok (by decide +kernel)) rfl
theorem e102_24 : rf d 102 24 [l0, l1, l2, some (.int x)] s h = rf d 102 25 [l0, l1, l2, some (.int x)] (.int x :: s) h := rf_pure (i := .iload_n 3) (len := 1) (okD_ok (by decide +kernel)) rfl
theorem e102_25 : rf d 102 25 ls (.int y :: .int x :: s) h = rf d 102 26 ls (.int (x <<< (y &&& 31)) :: s) h := rf_pure (i := .ishl) (len := 1) (okD_ok (by decide +kernel)) rfl
theorem e102_26 : rf d 102 26 ls (.int y :: .int x :: s) h = rf d 102 27 ls (.int (x ||| y) :: s) h := rf_pure (i := .ior) (len := 1) (okD_ok (by decide +kernel)) rfl
theorem e102_27 (hn : ip_nl l1 = true) : rf d 102 27 [l0, l1, l2, l3] (.int x :: s) h = rf d 102 28 [l0, l1, some (.int x), l3] s h := g_sti (i := .istore_n 2) (len := 1) (q := 1) (p := 1) (by decide +kernel) rfl rfl hn
theorem e102_28 (hn : ip_nl l2 = true) : rf d 102 28 [l0, l1, l2, some (.int x)] s h = rf d 102 31 [l0, l1, l2, some (.int (x + 1))] s h := g_inc (q := 2) (z := 1) (w := 1) (x := x) (by decide) (by decide +kernel) rfl rfl hn
theorem e102_31 : rf d 102 31 ls s h = rf d 102 4 ls s h := rf_goto ⟨okD_ok (i := .goto (-27)) (len := 3) (by decide +kernel), rfl⟩
theorem e102_34 : rf d 102 34 [l0, l1, some (.int x), l3] s h = rf d 102 35 [l0, l1, some (.int x), l3] (.int x :: s) h := rf_pure (i := .iload_n 2) (len := 1) (okD_ok (by decide +kernel)) rfl
theorem e102_35 : rf d 102 35 ls [.int x] h = some (.inl (some (.int x)), h) := g_ri (by decide +kernel) rt102
theorem en103 : cf d 103 [.ref a, .int x0] h = rf d 103 0 [some (.ref a), some (.int x0), none] [] h := rfl
theorem e103_0 : rf d 103 0 [some (.ref a), l1, l2] s h = rf d 103 1 [some (.ref a), l1, l2] (.ref a :: s) h := rf_pure (i := .aload_n 0) (len := 1) (okD_ok (by decide +kernel)) rfl
theorem e103_1 (hR : LYR R) (ha : isC a) : rf d 103 1 ls (.ref a :: s) (SH n, I, L, R, nc, ns, nx) = rf d 103 4 ls (.ref (a + 13) :: s) (SH n, I, L, R, nc, ns, nx) := g_R (idx := 38) (by decide +kernel) ow103 f_0_38 rfl (kdC0 ha) (geC ha) (lyC6 hR ha)
theorem e103_4 : rf d 103 4 [l0, some (.int x), l2] s h = rf d 103 5 [l0, some (.int x), l2] (.int x :: s) h := rf_pure (i := .iload_n 1) (len := 1) (okD_ok (by decide +kernel)) rfl
theorem e103_5 : rf d 103 5 ls s h = rf d 103 6 ls (.int 0 :: s) h := rf_pure (i := .iconst (0)) (len := 1) (okD_ok (by decide +kernel)) rfl
theorem e103_6 (q : ia n a j) : rf d 103 6 ls (.int x :: .int j :: .ref a :: s) (SH n, I, L, R, nc, ns, nx) = rf d 103 7 ls s (SH n, ip_up I a j.toNatClampNeg x, L, R, nc, ns, nx) := g_ias (by decide +kernel) q
theorem e103_7 : rf d 103 7 [some (.ref a), l1, l2] s h = rf d 103 8 [some (.ref a), l1, l2] (.ref a :: s) h := rf_pure (i := .aload_n 0) (len := 1) (okD_ok (by decide +kernel)) rfl
theorem e103_8 (hR : LYR R) (ha : isC a) : rf d 103 8 ls (.ref a :: s) (SH n, I, L, R, nc, ns, nx) = rf d 103 11 ls (.ref (a + 14) :: s) (SH n, I, L, R, nc, ns, nx) := g_R (idx := 42) (by decide +kernel) ow103 f_0_42 rfl (kdC0 ha) (geC ha) (lyC7 hR ha)
theorem e103_11 : rf d 103 11 [l0, some (.int x), l2] s h = rf d 103 12 [l0, some (.int x), l2] (.int x :: s) h := rf_pure (i := .iload_n 1) (len := 1) (okD_ok (by decide +kernel)) rfl
theorem e103_12 : rf d 103 12 ls s h = rf d 103 13 ls (.int 0 :: s) h := rf_pure (i := .iconst (0)) (len := 1) (okD_ok (by decide +kernel)) rfl
theorem e103_13 (q : ia n a j) : rf d 103 13 ls (.int x :: .int j :: .ref a :: s) (SH n, I, L, R, nc, ns, nx) = rf d 103 14 ls s (SH n, ip_up I a j.toNatClampNeg x, L, R, nc, ns, nx) := g_ias (by decide +kernel) q
theorem e103_14 : rf d 103 14 ls s h = rf d 103 15 ls (.int 0 :: s) h := rf_pure (i := .iconst (0)) (len := 1) (okD_ok (by decide +kernel)) rfl
theorem e103_15 (hn : ip_nl l1 = true) : rf d 103 15 [l0, l1, l2] (.int x :: s) h = rf d 103 16 [l0, l1, some (.int x)] s h := g_sti (i := .istore_n 2) (len := 1) (q := 1) (p := 1) (by decide +kernel) rfl rfl hn
theorem e103_16 : rf d 103 16 [l0, l1, some (.int x)] s h = rf d 103 17 [l0, l1, some (.int x)] (.int x :: s) h := rf_pure (i := .iload_n 2) (len := 1) (okD_ok (by decide +kernel)) rfl
theorem e103_17 : rf d 103 17 [some (.ref a), l1, l2] s h = rf d 103 18 [some (.ref a), l1, l2] (.ref a :: s) h := rf_pure (i := .aload_n 0) (len := 1) (okD_ok (by decide +kernel)) rfl
theorem e103_18 (ha : isC a) : rf d 103 18 ls (.ref a :: s) (SH n, I, L, R, nc, ns, nx) = rf d 103 21 ls (ip_rf (R a 0) :: s) (SH n, I, L, R, nc, ns, nx) := g_R (idx := 12) (by decide +kernel) ow103 f_0_12 rfl (kdC0 ha) (geC ha) rfl
theorem e103_21 (ha : isT a) : rf d 103 21 ls (.ref a :: s) (SH n, I, L, R, nc, ns, nx) = rf d 103 24 ls (.int (I a 6) :: s) (SH n, I, L, R, nc, ns, nx) := g_I (idx := 77) (by decide +kernel) ow103 f_0_77 rfl (kdT0 ha) (geT ha)
theorem e103_24 : rf d 103 24 ls (.int y :: .int x :: s) h = if y ≤ x then rf d 103 102 ls s h else rf d 103 27 ls s h := g_ic (c := .ge) (off := 78) _ (by decide +kernel) rfl cmp_d
theorem e103_27 : rf d 103 27 [some (.ref a), l1, l2] s h = rf d 103 28 [some (.ref a), l1, l2] (.ref a :: s) h := rf_pure (i := .aload_n 0) (len := 1) (okD_ok (by decide +kernel)) rfl
theorem e103_28 : rf d 103 28 [l0, l1, some (.int x)] s h = rf d 103 29 [l0, l1, some (.int x)] (.int x :: s) h := rf_pure (i := .iload_n 2) (len := 1) (okD_ok (by decide +kernel)) rfl
theorem e103_29 : rf d 103 29 [l0, some (.int x), l2] s h = rf d 103 30 [l0, some (.int x), l2] (.int x :: s) h := rf_pure (i := .iload_n 1) (len := 1) (okD_ok (by decide +kernel)) rfl
theorem e103_30 (hb : isC b) (hcat : ip_cat s ≤ 8) : rf (d + 1) 103 30 ls (.int x1 :: .int x0 :: .ref b :: s) (SH n, I, L, R, nc, ns, nx) = rf_k (d + 1) 103 30 ls s (cf d 104 [.ref b, .int x0, .int x1] (SH n, I, L, R, nc, ns, nx)) := g_cv (idx := 80) (t := 0) [.int x1, .int x0] (by decide +kernel) ow103 ms_0_80 mt_0_80 cy104_0 rfl rfl mL104 rfl (kdC0 hb) (geC hb) hcat
theorem e103_33 : rf d 103 33 ls (.int x :: s) h = if ¬ x = 0 then rf d 103 96 ls s h else rf d 103 36 ls s h := g_if (c := .ne) (off := 63) _ (by decide +kernel) rfl cmp_d
theorem e103_36 : rf d 103 36 [some (.ref a), l1, l2] s h = rf d 103 37 [some (.ref a), l1, l2] (.ref a :: s) h := rf_pure (i := .aload_n 0) (len := 1) (okD_ok (by decide +kernel)) rfl
theorem e103_37 (hR : LYR R) (ha : isC a) : rf d 103 37 ls (.ref a :: s) (SH n, I, L, R, nc, ns, nx) = rf d 103 40 ls (.ref (a + 13) :: s) (SH n, I, L, R, nc, ns, nx) := g_R (idx := 38) (by decide +kernel) ow103 f_0_38 rfl (kdC0 ha) (geC ha) (lyC6 hR ha)
theorem e103_40 : rf d 103 40 [l0, some (.int x), l2] s h = rf d 103 41 [l0, some (.int x), l2] (.int x :: s) h := rf_pure (i := .iload_n 1) (len := 1) (okD_ok (by decide +kernel)) rfl
theorem e103_41 : rf d 103 41 ls (.int j :: .ref a :: s) h = rf d 103 42 ls (.int j :: .ref a :: .int j :: .ref a :: s) h := rf_pure (i := .dup2) (len := 1) (okD_ok (by decide +kernel)) rfl
theorem e103_42 (q : ia n a j) : rf d 103 42 ls (.int j :: .ref a :: s) (SH n, I, L, R, nc, ns, nx) = rf d 103 43 ls (.int (I a j.toNatClampNeg) :: s) (SH n, I, L, R, nc, ns, nx) := g_ial (by decide +kernel) q
theorem e103_43 : rf d 103 43 ls s h = rf d 103 44 ls (.int 1 :: s) h := rf_pure (i := .iconst (1)) (len := 1) (okD_ok (by decide +kernel)) rfl
theorem e103_44 : rf d 103 44 [l0, l1, some (.int x)] s h = rf d 103 45 [l0, l1, some (.int x)] (.int x :: s) h := rf_pure (i := .iload_n 2) (len := 1) (okD_ok (by decide +kernel)) rfl
theorem e103_45 : rf d 103 45 ls (.int y :: .int x :: s) h = rf d 103 46 ls (.int (x <<< (y &&& 31)) :: s) h := rf_pure (i := .ishl) (len := 1) (okD_ok (by decide +kernel)) rfl
theorem e103_46 : rf d 103 46 ls (.int y :: .int x :: s) h = rf d 103 47 ls (.int (x ||| y) :: s) h := rf_pure (i := .ior) (len := 1) (okD_ok (by decide +kernel)) rfl
theorem e103_47 (q : ia n a j) : rf d 103 47 ls (.int x :: .int j :: .ref a :: s) (SH n, I, L, R, nc, ns, nx) = rf d 103 48 ls s (SH n, ip_up I a j.toNatClampNeg x, L, R, nc, ns, nx) := g_ias (by decide +kernel) q
theorem e103_48 : rf d 103 48 [some (.ref a), l1, l2] s h = rf d 103 49 [some (.ref a), l1, l2] (.ref a :: s) h := rf_pure (i := .aload_n 0) (len := 1) (okD_ok (by decide +kernel)) rfl
theorem e103_49 (ha : isC a) : rf d 103 49 ls (.ref a :: s) (SH n, I, L, R, nc, ns, nx) = rf d 103 52 ls (ip_rf (R a 1) :: s) (SH n, I, L, R, nc, ns, nx) := g_R (idx := 21) (by decide +kernel) ow103 f_0_21 rfl (kdC0 ha) (geC ha) rfl
theorem e103_52 (hR : LYR R) (ha : isN a) : rf d 103 52 ls (.ref a :: s) (SH n, I, L, R, nc, ns, nx) = rf d 103 55 ls (.ref (a + 3) :: s) (SH n, I, L, R, nc, ns, nx) := g_R (idx := 83) (by decide +kernel) ow103 f_0_83 rfl (kdN0 ha) (geN ha) (lyN14 hR ha)
theorem e103_55 : rf d 103 55 [l0, l1, some (.int x)] s h = rf d 103 56 [l0, l1, some (.int x)] (.int x :: s) h := rf_pure (i := .iload_n 2) (len := 1) (okD_ok (by decide +kernel)) rfl
theorem e103_56 (q : ia n a j) : rf d 103 56 ls (.int j :: .ref a :: s) (SH n, I, L, R, nc, ns, nx) = rf d 103 57 ls (.int (I a j.toNatClampNeg) :: s) (SH n, I, L, R, nc, ns, nx) := g_ial (by decide +kernel) q
theorem e103_57 : rf d 103 57 [some (.ref a), l1, l2] s h = rf d 103 58 [some (.ref a), l1, l2] (.ref a :: s) h := rf_pure (i := .aload_n 0) (len := 1) (okD_ok (by decide +kernel)) rfl
theorem e103_58 (ha : isC a) : rf d 103 58 ls (.ref a :: s) (SH n, I, L, R, nc, ns, nx) = rf d 103 61 ls (ip_rf (R a 0) :: s) (SH n, I, L, R, nc, ns, nx) := g_R (idx := 12) (by decide +kernel) ow103 f_0_12 rfl (kdC0 ha) (geC ha) rfl
theorem e103_61 (hR : LYR R) (ha : isT a) : rf d 103 61 ls (.ref a :: s) (SH n, I, L, R, nc, ns, nx) = rf d 103 64 ls (.ref (a + 5) :: s) (SH n, I, L, R, nc, ns, nx) := g_R (idx := 86) (by decide +kernel) ow103 f_0_86 rfl (kdT0 ha) (geT ha) (lyT4 hR ha)
theorem e103_64 : rf d 103 64 [some (.ref a), l1, l2] s h = rf d 103 65 [some (.ref a), l1, l2] (.ref a :: s) h := rf_pure (i := .aload_n 0) (len := 1) (okD_ok (by decide +kernel)) rfl
theorem e103_65 (ha : isC a) : rf d 103 65 ls (.ref a :: s) (SH n, I, L, R, nc, ns, nx) = rf d 103 68 ls (.int (I a 3) :: s) (SH n, I, L, R, nc, ns, nx) := g_I (idx := 28) (by decide +kernel) ow103 f_0_28 rfl (kdC0 ha) (geC ha)
theorem e103_68 : rf d 103 68 [some (.ref a), l1, l2] s h = rf d 103 69 [some (.ref a), l1, l2] (.ref a :: s) h := rf_pure (i := .aload_n 0) (len := 1) (okD_ok (by decide +kernel)) rfl
theorem e103_69 (ha : isC a) : rf d 103 69 ls (.ref a :: s) (SH n, I, L, R, nc, ns, nx) = rf d 103 72 ls (ip_rf (R a 0) :: s) (SH n, I, L, R, nc, ns, nx) := g_R (idx := 12) (by decide +kernel) ow103 f_0_12 rfl (kdC0 ha) (geC ha) rfl
theorem e103_72 (hR : LYR R) (ha : isT a) : rf d 103 72 ls (.ref a :: s) (SH n, I, L, R, nc, ns, nx) = rf d 103 75 ls (.ref (a + 2) :: s) (SH n, I, L, R, nc, ns, nx) := g_R (idx := 89) (by decide +kernel) ow103 f_0_89 rfl (kdT0 ha) (geT ha) (lyT1 hR ha)
theorem e103_75 : rf d 103 75 [l0, l1, some (.int x)] s h = rf d 103 76 [l0, l1, some (.int x)] (.int x :: s) h := rf_pure (i := .iload_n 2) (len := 1) (okD_ok (by decide +kernel)) rfl
theorem e103_76 (q : ia n a j) : rf d 103 76 ls (.int j :: .ref a :: s) (SH n, I, L, R, nc, ns, nx) = rf d 103 77 ls (.int (I a j.toNatClampNeg) :: s) (SH n, I, L, R, nc, ns, nx) := g_ial (by decide +kernel) q
theorem e103_77 (hcat : ip_cat s ≤ 8) : rf (d + 1) 103 77 ls (.int x1 :: .int x0 :: s) h = rf_k (d + 1) 103 77 ls s (cf d 81 [.int x0, .int x1] h) := g_cs (idx := 92) [.int x1, .int x0] (by decide +kernel) ow103 ms_0_92 mt_0_92 (by decide) rfl mL81 rfl hcat
theorem e103_80 (q : ia n a j) : rf d 103 80 ls (.int j :: .ref a :: s) (SH n, I, L, R, nc, ns, nx) = rf d 103 81 ls (.int (I a j.toNatClampNeg) :: s) (SH n, I, L, R, nc, ns, nx) := g_ial (by decide +kernel) q
theorem e103_81 : rf d 103 81 ls (.int y :: .int x :: s) h = if x < y then rf d 103 96 ls s h else rf d 103 84 ls s h := g_ic (c := .lt) (off := 15) _ (by decide +kernel) rfl cmp_d
theorem e103_84 : rf d 103 84 [some (.ref a), l1, l2] s h = rf d 103 85 [some (.ref a), l1, l2] (.ref a :: s) h := rf_pure (i := .aload_n 0) (len := 1) (okD_ok (by decide +kernel)) rfl
theorem e103_85 (hR : LYR R) (ha : isC a) : rf d 103 85 ls (.ref a :: s) (SH n, I, L, R, nc, ns, nx) = rf d 103 88 ls (.ref (a + 14) :: s) (SH n, I, L, R, nc, ns, nx) := g_R (idx := 42) (by decide +kernel) ow103 f_0_42 rfl (kdC0 ha) (geC ha) (lyC7 hR ha)
theorem e103_88 : rf d 103 88 [l0, some (.int x), l2] s h = rf d 103 89 [l0, some (.int x), l2] (.int x :: s) h := rf_pure (i := .iload_n 1) (len := 1) (okD_ok (by decide +kernel)) rfl
theorem e103_89 : rf d 103 89 ls (.int j :: .ref a :: s) h = rf d 103 90 ls (.int j :: .ref a :: .int j :: .ref a :: s) h := rf_pure (i := .dup2) (len := 1) (okD_ok (by decide +kernel)) rfl
theorem e103_90 (q : ia n a j) : rf d 103 90 ls (.int j :: .ref a :: s) (SH n, I, L, R, nc, ns, nx) = rf d 103 91 ls (.int (I a j.toNatClampNeg) :: s) (SH n, I, L, R, nc, ns, nx) := g_ial (by decide +kernel) q
theorem e103_91 : rf d 103 91 ls s h = rf d 103 92 ls (.int 1 :: s) h := rf_pure (i := .iconst (1)) (len := 1) (okD_ok (by decide +kernel)) rfl
theorem e103_92 : rf d 103 92 [l0, l1, some (.int x)] s h = rf d 103 93 [l0, l1, some (.int x)] (.int x :: s) h := rf_pure (i := .iload_n 2) (len := 1) (okD_ok (by decide +kernel)) rfl
theorem e103_93 : rf d 103 93 ls (.int y :: .int x :: s) h = rf d 103 94 ls (.int (x <<< (y &&& 31)) :: s) h := rf_pure (i := .ishl) (len := 1) (okD_ok (by decide +kernel)) rfl
theorem e103_94 : rf d 103 94 ls (.int y :: .int x :: s) h = rf d 103 95 ls (.int (x ||| y) :: s) h := rf_pure (i := .ior) (len := 1) (okD_ok (by decide +kernel)) rfl
theorem e103_95 (q : ia n a j) : rf d 103 95 ls (.int x :: .int j :: .ref a :: s) (SH n, I, L, R, nc, ns, nx) = rf d 103 96 ls s (SH n, ip_up I a j.toNatClampNeg x, L, R, nc, ns, nx) := g_ias (by decide +kernel) q
theorem e103_96 (hn : ip_nl l1 = true) : rf d 103 96 [l0, l1, some (.int x)] s h = rf d 103 99 [l0, l1, some (.int (x + 1))] s h := g_inc (q := 1) (z := 1) (w := 1) (x := x) (by decide) (by decide +kernel) rfl rfl hn
theorem e103_99 : rf d 103 99 ls s h = rf d 103 16 ls s h := rf_goto ⟨okD_ok (i := .goto (-83)) (len := 3) (by decide +kernel), rfl⟩
theorem e103_102 : rf d 103 102 ls [] h = some (.inl none, h) := g_rv (by decide +kernel) rt103
theorem en104 : cf d 104 [.ref a, .int x0, .int x1] h = rf d 104 0 [some (.ref a), some (.int x0), some (.int x1), none, none, none, none] [] h := rfl
theorem e104_0 : rf d 104 0 ls s h = rf d 104 1 ls (.int 1 :: s) h := rf_pure (i := .iconst (1)) (len := 1) (okD_ok (by decide +kernel)) rfl
theorem e104_1 : rf d 104 1 [l0, some (.int x), l2, l3, l4, l5, l6] s h = rf d 104 2 [l0, some (.int x), l2, l3, l4, l5, l6] (.int x :: s) h := rf_pure (i := .iload_n 1) (len := 1) (okD_ok (by decide +kernel)) rfl
theorem e104_2 : rf d 104 2 ls (.int y :: .int x :: s) h = rf d 104 3 ls (.int (x <<< (y &&& 31)) :: s) h := rf_pure (i := .ishl) (len := 1) (okD_ok (by decide +kernel)) rfl
theorem e104_3 (hn : ip_nl l2 = true) : rf d 104 3 [l0, l1, l2, l3, l4, l5, l6] (.int x :: s) h = rf d 104 4 [l0, l1, l2, some (.int x), l4, l5, l6] s h := g_sti (i := .istore_n 3) (len := 1) (q := 2) (p := 1) (by decide +kernel) rfl rfl hn
theorem e104_4 : rf d 104 4 [some (.ref a), l1, l2, l3, l4, l5, l6] s h = rf d 104 5 [some (.ref a), l1, l2, l3, l4, l5, l6] (.ref a :: s) h := rf_pure (i := .aload_n 0) (len := 1) (okD_ok (by decide +kernel)) rfl
theorem e104_5 (ha : isC a) : rf d 104 5 ls (.ref a :: s) (SH n, I, L, R, nc, ns, nx) = rf d 104 8 ls (ip_rf (R a 1) :: s) (SH n, I, L, R, nc, ns, nx) := g_R (idx := 21) (by decide +kernel) ow104 f_0_21 rfl (kdC0 ha) (geC ha) rfl
theorem e104_8 (hR : LYR R) (ha : isN a) : rf d 104 8 ls (.ref a :: s) (SH n, I, L, R, nc, ns, nx) = rf d 104 11 ls (.ref (a + 3) :: s) (SH n, I, L, R, nc, ns, nx) := g_R (idx := 83) (by decide +kernel) ow104 f_0_83 rfl (kdN0 ha) (geN ha) (lyN14 hR ha)
theorem e104_11 : rf d 104 11 [l0, some (.int x), l2, l3, l4, l5, l6] s h = rf d 104 12 [l0, some (.int x), l2, l3, l4, l5, l6] (.int x :: s) h := rf_pure (i := .iload_n 1) (len := 1) (okD_ok (by decide +kernel)) rfl
theorem e104_12 (q : ia n a j) : rf d 104 12 ls (.int j :: .ref a :: s) (SH n, I, L, R, nc, ns, nx) = rf d 104 13 ls (.int (I a j.toNatClampNeg) :: s) (SH n, I, L, R, nc, ns, nx) := g_ial (by decide +kernel) q
theorem e104_13 (hn : ip_nl l3 = true) : rf d 104 13 [l0, l1, l2, l3, l4, l5, l6] (.int x :: s) h = rf d 104 15 [l0, l1, l2, l3, some (.int x), l5, l6] s h := g_sti (i := .istore 4) (len := 2) (q := 3) (p := 2) (by decide +kernel) rfl rfl hn
theorem e104_15 : rf d 104 15 [some (.ref a), l1, l2, l3, l4, l5, l6] s h = rf d 104 16 [some (.ref a), l1, l2, l3, l4, l5, l6] (.ref a :: s) h := rf_pure (i := .aload_n 0) (len := 1) (okD_ok (by decide +kernel)) rfl
theorem e104_16 (ha : isC a) : rf d 104 16 ls (.ref a :: s) (SH n, I, L, R, nc, ns, nx) = rf d 104 19 ls (ip_rf (R a 1) :: s) (SH n, I, L, R, nc, ns, nx) := g_R (idx := 21) (by decide +kernel) ow104 f_0_21 rfl (kdC0 ha) (geC ha) rfl
theorem e104_19 : rf d 104 19 ls s h = rf d 104 20 ls (.int 1 :: s) h := rf_pure (i := .iconst (1)) (len := 1) (okD_ok (by decide +kernel)) rfl
theorem e104_20 : rf d 104 20 [l0, l1, some (.int x), l3, l4, l5, l6] s h = rf d 104 21 [l0, l1, some (.int x), l3, l4, l5, l6] (.int x :: s) h := rf_pure (i := .iload_n 2) (len := 1) (okD_ok (by decide +kernel)) rfl
theorem e104_21 : rf d 104 21 ls (.int y :: .int x :: s) h = rf d 104 22 ls (.int (x - y) :: s) h := rf_pure (i := .isub) (len := 1) (okD_ok (by decide +kernel)) rfl
theorem e104_22 (hb : isN b) (hcat : ip_cat s ≤ 8) : rf (d + 1) 104 22 ls (.int x0 :: .ref b :: s) (SH n, I, L, R, nc, ns, nx) = rf_k (d + 1) 104 22 ls s (cf d 92 [.ref b, .int x0] (SH n, I, L, R, nc, ns, nx)) := g_cv (idx := 95) (t := 1) [.int x0] (by decide +kernel) ow104 ms_0_95 mt_0_95 cy92_1 rfl rfl mL92 rfl (kdN0 hb) (geN hb) hcat
theorem e104_25 : rf d 104 25 [l0, l1, l2, some (.int x), l4, l5, l6] s h = rf d 104 26 [l0, l1, l2, some (.int x), l4, l5, l6] (.int x :: s) h := rf_pure (i := .iload_n 3) (len := 1) (okD_ok (by decide +kernel)) rfl
theorem e104_26 : rf d 104 26 ls (.int y :: .int x :: s) h = rf d 104 27 ls (.int (x &&& y) :: s) h := rf_pure (i := .iand) (len := 1) (okD_ok (by decide +kernel)) rfl
theorem e104_27 : rf d 104 27 ls (.int x :: s) h = if ¬ x = 0 then rf d 104 32 ls s h else rf d 104 30 ls s h := g_if (c := .ne) (off := 5) _ (by decide +kernel) rfl cmp_d
theorem e104_30 : rf d 104 30 ls s h = rf d 104 31 ls (.int 1 :: s) h := rf_pure (i := .iconst (1)) (len := 1) (okD_ok (by decide +kernel)) rfl
theorem e104_31 : rf d 104 31 ls [.int x] h = some (.inl (some (.int x)), h) := g_ri (by decide +kernel) rt104
theorem e104_32 : rf d 104 32 [some (.ref a), l1, l2, l3, l4, l5, l6] s h = rf d 104 33 [some (.ref a), l1, l2, l3, l4, l5, l6] (.ref a :: s) h := rf_pure (i := .aload_n 0) (len := 1) (okD_ok (by decide +kernel)) rfl
theorem e104_33 (ha : isC a) : rf d 104 33 ls (.ref a :: s) (SH n, I, L, R, nc, ns, nx) = rf d 104 36 ls (.int (I a 3) :: s) (SH n, I, L, R, nc, ns, nx) := g_I (idx := 28) (by decide +kernel) ow104 f_0_28 rfl (kdC0 ha) (geC ha)
theorem e104_36 : rf d 104 36 ls s h = rf d 104 37 ls (.int 1 :: s) h := rf_pure (i := .iconst (1)) (len := 1) (okD_ok (by decide +kernel)) rfl
theorem e104_37 : rf d 104 37 ls (.int y :: .int x :: s) h = if ¬ x = y then rf d 104 50 ls s h else rf d 104 40 ls s h := g_ic (c := .ne) (off := 13) _ (by decide +kernel) rfl cmp_d
theorem e104_40 : rf d 104 40 [some (.ref a), l1, l2, l3, l4, l5, l6] s h = rf d 104 41 [some (.ref a), l1, l2, l3, l4, l5, l6] (.ref a :: s) h := rf_pure (i := .aload_n 0) (len := 1) (okD_ok (by decide +kernel)) rfl
theorem e104_41 (ha : isC a) : rf d 104 41 ls (.ref a :: s) (SH n, I, L, R, nc, ns, nx) = rf d 104 44 ls (ip_rf (R a 1) :: s) (SH n, I, L, R, nc, ns, nx) := g_R (idx := 21) (by decide +kernel) ow104 f_0_21 rfl (kdC0 ha) (geC ha) rfl
theorem e104_44 (ha : isN a) : rf d 104 44 ls (.ref a :: s) (SH n, I, L, R, nc, ns, nx) = rf d 104 47 ls (.int (I a 7) :: s) (SH n, I, L, R, nc, ns, nx) := g_I (idx := 98) (by decide +kernel) ow104 f_0_98 rfl (kdN0 ha) (geN ha)
theorem e104_47 : rf d 104 47 ls s h = rf d 104 57 ls s h := rf_goto ⟨okD_ok (i := .goto (10)) (len := 3) (by decide +kernel), rfl⟩
theorem e104_50 : rf d 104 50 [some (.ref a), l1, l2, l3, l4, l5, l6] s h = rf d 104 51 [some (.ref a), l1, l2, l3, l4, l5, l6] (.ref a :: s) h := rf_pure (i := .aload_n 0) (len := 1) (okD_ok (by decide +kernel)) rfl
theorem e104_51 (ha : isC a) : rf d 104 51 ls (.ref a :: s) (SH n, I, L, R, nc, ns, nx) = rf d 104 54 ls (ip_rf (R a 2) :: s) (SH n, I, L, R, nc, ns, nx) := g_R (idx := 25) (by decide +kernel) ow104 f_0_25 rfl (kdC0 ha) (geC ha) rfl
theorem e104_54 (ha : isN a) : rf d 104 54 ls (.ref a :: s) (SH n, I, L, R, nc, ns, nx) = rf d 104 57 ls (.int (I a 7) :: s) (SH n, I, L, R, nc, ns, nx) := g_I (idx := 98) (by decide +kernel) ow104 f_0_98 rfl (kdN0 ha) (geN ha)
theorem e104_57 (hn : ip_nl l4 = true) : rf d 104 57 [l0, l1, l2, l3, l4, l5, l6] (.int x :: s) h = rf d 104 59 [l0, l1, l2, l3, l4, some (.int x), l6] s h := g_sti (i := .istore 5) (len := 2) (q := 4) (p := 2) (by decide +kernel) rfl rfl hn
theorem e104_59 : rf d 104 59 [l0, l1, l2, l3, l4, some (.int x), l6] s h = rf d 104 61 [l0, l1, l2, l3, l4, some (.int x), l6] (.int x :: s) h := rf_pure (i := .iload 5) (len := 2) (okD_ok (by decide +kernel)) rfl
theorem e104_61 : rf d 104 61 [some (.ref a), l1, l2, l3, l4, l5, l6] s h = rf d 104 62 [some (.ref a), l1, l2, l3, l4, l5, l6] (.ref a :: s) h := rf_pure (i := .aload_n 0) (len := 1) (okD_ok (by decide +kernel)) rfl
theorem e104_62 (ha : isC a) : rf d 104 62 ls (.ref a :: s) (SH n, I, L, R, nc, ns, nx) = rf d 104 65 ls (ip_rf (R a 1) :: s) (SH n, I, L, R, nc, ns, nx) := g_R (idx := 21) (by decide +kernel) ow104 f_0_21 rfl (kdC0 ha) (geC ha) rfl
theorem e104_65 (ha : isN a) : rf d 104 65 ls (.ref a :: s) (SH n, I, L, R, nc, ns, nx) = rf d 104 68 ls (.int (I a 8) :: s) (SH n, I, L, R, nc, ns, nx) := g_I (idx := 101) (by decide +kernel) ow104 f_0_101 rfl (kdN0 ha) (geN ha)
theorem e104_68 : rf d 104 68 ls s h = rf d 104 69 ls (.int (-1) :: s) h := rf_pure (i := .iconst (-1)) (len := 1) (okD_ok (by decide +kernel)) rfl
theorem e104_69 : rf d 104 69 ls (.int y :: .int x :: s) h = rf d 104 70 ls (.int (x ^^^ y) :: s) h := rf_pure (i := .ixor) (len := 1) (okD_ok (by decide +kernel)) rfl
theorem e104_70 : rf d 104 70 ls (.int y :: .int x :: s) h = rf d 104 71 ls (.int (x &&& y) :: s) h := rf_pure (i := .iand) (len := 1) (okD_ok (by decide +kernel)) rfl
theorem e104_71 : rf d 104 71 [l0, l1, l2, some (.int x), l4, l5, l6] s h = rf d 104 72 [l0, l1, l2, some (.int x), l4, l5, l6] (.int x :: s) h := rf_pure (i := .iload_n 3) (len := 1) (okD_ok (by decide +kernel)) rfl
theorem e104_72 : rf d 104 72 ls (.int y :: .int x :: s) h = rf d 104 73 ls (.int (x &&& y) :: s) h := rf_pure (i := .iand) (len := 1) (okD_ok (by decide +kernel)) rfl
theorem e104_73 : rf d 104 73 ls (.int x :: s) h = if x = 0 then rf d 104 85 ls s h else rf d 104 76 ls s h := g_if (c := .eq) (off := 12) _ (by decide +kernel) rfl cmp_d
theorem e104_76 : rf d 104 76 [l0, l1, l2, l3, some (.int x), l5, l6] s h = rf d 104 78 [l0, l1, l2, l3, some (.int x), l5, l6] (.int x :: s) h := rf_pure (i := .iload 4) (len := 2) (okD_ok (by decide +kernel)) rfl
theorem e104_78 : rf d 104 78 ls s h = rf d 104 80 ls (.int 9 :: s) h := rf_pure (i := .bipush (9)) (len := 2) (okD_ok (by decide +kernel)) rfl
theorem e104_80 : rf d 104 80 ls (.int y :: .int x :: s) h = if x = y then rf d 104 85 ls s h else rf d 104 83 ls s h := g_ic (c := .eq) (off := 5) _ (by decide +kernel) rfl cmp_d
theorem e104_83 : rf d 104 83 ls s h = rf d 104 84 ls (.int 2 :: s) h := rf_pure (i := .iconst (2)) (len := 1) (okD_ok (by decide +kernel)) rfl
theorem e104_84 : rf d 104 84 ls [.int x] h = some (.inl (some (.int x)), h) := g_ri (by decide +kernel) rt104
theorem e104_85 : rf d 104 85 [some (.ref a), l1, l2, l3, l4, l5, l6] s h = rf d 104 86 [some (.ref a), l1, l2, l3, l4, l5, l6] (.ref a :: s) h := rf_pure (i := .aload_n 0) (len := 1) (okD_ok (by decide +kernel)) rfl
theorem e104_86 (ha : isC a) : rf d 104 86 ls (.ref a :: s) (SH n, I, L, R, nc, ns, nx) = rf d 104 89 ls (ip_rf (R a 1) :: s) (SH n, I, L, R, nc, ns, nx) := g_R (idx := 21) (by decide +kernel) ow104 f_0_21 rfl (kdC0 ha) (geC ha) rfl
theorem e104_89 : rf d 104 89 [l0, l1, some (.int x), l3, l4, l5, l6] s h = rf d 104 90 [l0, l1, some (.int x), l3, l4, l5, l6] (.int x :: s) h := rf_pure (i := .iload_n 2) (len := 1) (okD_ok (by decide +kernel)) rfl
theorem e104_90 (hb : isN b) (hcat : ip_cat s ≤ 8) : rf (d + 1) 104 90 ls (.int x0 :: .ref b :: s) (SH n, I, L, R, nc, ns, nx) = rf_k (d + 1) 104 90 ls s (cf d 105 [.ref b, .int x0] (SH n, I, L, R, nc, ns, nx)) := g_cv (idx := 104) (t := 1) [.int x0] (by decide +kernel) ow104 ms_0_104 mt_0_104 cy105_1 rfl rfl mL105 rfl (kdN0 hb) (geN hb) hcat
theorem e104_93 (hn : ip_nl l5 = true) : rf d 104 93 [l0, l1, l2, l3, l4, l5, l6] (.int x :: s) h = rf d 104 95 [l0, l1, l2, l3, l4, l5, some (.int x)] s h := g_sti (i := .istore 6) (len := 2) (q := 5) (p := 2) (by decide +kernel) rfl rfl hn
theorem e104_95 : rf d 104 95 [some (.ref a), l1, l2, l3, l4, l5, l6] s h = rf d 104 96 [some (.ref a), l1, l2, l3, l4, l5, l6] (.ref a :: s) h := rf_pure (i := .aload_n 0) (len := 1) (okD_ok (by decide +kernel)) rfl
theorem e104_96 (ha : isC a) : rf d 104 96 ls (.ref a :: s) (SH n, I, L, R, nc, ns, nx) = rf d 104 99 ls (.int (I a 3) :: s) (SH n, I, L, R, nc, ns, nx) := g_I (idx := 28) (by decide +kernel) ow104 f_0_28 rfl (kdC0 ha) (geC ha)
theorem e104_99 : rf d 104 99 ls s h = rf d 104 100 ls (.int 2 :: s) h := rf_pure (i := .iconst (2)) (len := 1) (okD_ok (by decide +kernel)) rfl
theorem e104_100 : rf d 104 100 ls (.int y :: .int x :: s) h = if ¬ x = y then rf d 104 124 ls s h else rf d 104 103 ls s h := g_ic (c := .ne) (off := 24) _ (by decide +kernel) rfl cmp_d
theorem e104_103 : rf d 104 103 [l0, l1, l2, l3, l4, l5, some (.int x)] s h = rf d 104 105 [l0, l1, l2, l3, l4, l5, some (.int x)] (.int x :: s) h := rf_pure (i := .iload 6) (len := 2) (okD_ok (by decide +kernel)) rfl
theorem e104_105 : rf d 104 105 [some (.ref a), l1, l2, l3, l4, l5, l6] s h = rf d 104 106 [some (.ref a), l1, l2, l3, l4, l5, l6] (.ref a :: s) h := rf_pure (i := .aload_n 0) (len := 1) (okD_ok (by decide +kernel)) rfl
theorem e104_106 (ha : isC a) : rf d 104 106 ls (.ref a :: s) (SH n, I, L, R, nc, ns, nx) = rf d 104 109 ls (ip_rf (R a 1) :: s) (SH n, I, L, R, nc, ns, nx) := g_R (idx := 21) (by decide +kernel) ow104 f_0_21 rfl (kdC0 ha) (geC ha) rfl
theorem e104_109 : rf d 104 109 [l0, l1, some (.int x), l3, l4, l5, l6] s h = rf d 104 110 [l0, l1, some (.int x), l3, l4, l5, l6] (.int x :: s) h := rf_pure (i := .iload_n 2) (len := 1) (okD_ok (by decide +kernel)) rfl
theorem e104_110 (hb : isN b) (hcat : ip_cat s ≤ 8) : rf (d + 1) 104 110 ls (.int x0 :: .ref b :: s) (SH n, I, L, R, nc, ns, nx) = rf_k (d + 1) 104 110 ls s (cf d 106 [.ref b, .int x0] (SH n, I, L, R, nc, ns, nx)) := g_cv (idx := 107) (t := 1) [.int x0] (by decide +kernel) ow104 ms_0_107 mt_0_107 cy106_1 rfl rfl mL106 rfl (kdN0 hb) (geN hb) hcat
theorem e104_113 : rf d 104 113 ls (.int y :: .int x :: s) h = rf d 104 114 ls (.int (x &&& y) :: s) h := rf_pure (i := .iand) (len := 1) (okD_ok (by decide +kernel)) rfl
theorem e104_114 : rf d 104 114 [some (.ref a), l1, l2, l3, l4, l5, l6] s h = rf d 104 115 [some (.ref a), l1, l2, l3, l4, l5, l6] (.ref a :: s) h := rf_pure (i := .aload_n 0) (len := 1) (okD_ok (by decide +kernel)) rfl
theorem e104_115 (ha : isC a) : rf d 104 115 ls (.ref a :: s) (SH n, I, L, R, nc, ns, nx) = rf d 104 118 ls (ip_rf (R a 1) :: s) (SH n, I, L, R, nc, ns, nx) := g_R (idx := 21) (by decide +kernel) ow104 f_0_21 rfl (kdC0 ha) (geC ha) rfl
theorem e104_118 (ha : isN a) : rf d 104 118 ls (.ref a :: s) (SH n, I, L, R, nc, ns, nx) = rf d 104 121 ls (.int (I a 10) :: s) (SH n, I, L, R, nc, ns, nx) := g_I (idx := 110) (by decide +kernel) ow104 f_0_110 rfl (kdN0 ha) (geN ha)
theorem e104_121 : rf d 104 121 ls (.int y :: .int x :: s) h = rf d 104 122 ls (.int (x ||| y) :: s) h := rf_pure (i := .ior) (len := 1) (okD_ok (by decide +kernel)) rfl
theorem e104_122 (hn : ip_nl l5 = true) : rf d 104 122 [l0, l1, l2, l3, l4, l5, l6] (.int x :: s) h = rf d 104 124 [l0, l1, l2, l3, l4, l5, some (.int x)] s h := g_sti (i := .istore 6) (len := 2) (q := 5) (p := 2) (by decide +kernel) rfl rfl hn
theorem e104_124 : rf d 104 124 [l0, l1, l2, l3, l4, l5, some (.int x)] s h = rf d 104 126 [l0, l1, l2, l3, l4, l5, some (.int x)] (.int x :: s) h := rf_pure (i := .iload 6) (len := 2) (okD_ok (by decide +kernel)) rfl
theorem e104_126 : rf d 104 126 [l0, l1, l2, some (.int x), l4, l5, l6] s h = rf d 104 127 [l0, l1, l2, some (.int x), l4, l5, l6] (.int x :: s) h := rf_pure (i := .iload_n 3) (len := 1) (okD_ok (by decide +kernel)) rfl
theorem e104_127 : rf d 104 127 ls (.int y :: .int x :: s) h = rf d 104 128 ls (.int (x &&& y) :: s) h := rf_pure (i := .iand) (len := 1) (okD_ok (by decide +kernel)) rfl
theorem e104_128 : rf d 104 128 ls (.int x :: s) h = if ¬ x = 0 then rf d 104 142 ls s h else rf d 104 131 ls s h := g_if (c := .ne) (off := 14) _ (by decide +kernel) rfl cmp_d
theorem e104_131 : rf d 104 131 [l0, l1, l2, l3, some (.int x), l5, l6] s h = rf d 104 133 [l0, l1, l2, l3, some (.int x), l5, l6] (.int x :: s) h := rf_pure (i := .iload 4) (len := 2) (okD_ok (by decide +kernel)) rfl
theorem e104_133 : rf d 104 133 ls s h = rf d 104 135 ls (.int 8 :: s) h := rf_pure (i := .bipush (8)) (len := 2) (okD_ok (by decide +kernel)) rfl
theorem e104_135 : rf d 104 135 ls (.int y :: .int x :: s) h = if y ≤ x then rf d 104 142 ls s h else rf d 104 138 ls s h := g_ic (c := .ge) (off := 7) _ (by decide +kernel) rfl cmp_d
theorem e104_138 : rf d 104 138 ls s h = rf d 104 139 ls (.int 3 :: s) h := rf_pure (i := .iconst (3)) (len := 1) (okD_ok (by decide +kernel)) rfl
theorem e104_139 : rf d 104 139 ls s h = rf d 104 143 ls s h := rf_goto ⟨okD_ok (i := .goto (4)) (len := 3) (by decide +kernel), rfl⟩
theorem e104_142 : rf d 104 142 ls s h = rf d 104 143 ls (.int 0 :: s) h := rf_pure (i := .iconst (0)) (len := 1) (okD_ok (by decide +kernel)) rfl
theorem e104_143 : rf d 104 143 ls [.int x] h = some (.inl (some (.int x)), h) := g_ri (by decide +kernel) rt104
end S02
