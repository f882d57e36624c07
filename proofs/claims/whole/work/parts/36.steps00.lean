/-! STEPS, 0 (printed by wip/whole/gen_steps.py) -/
section S00
variable {n d a b t : Nat} {l0 l1 l2 l3 l4 l5 l6 l7 l8 l9 l10 l11 l12 l13 : Option Value} {ls : List (Option Value)} {s : List Value} {h : ip_H} {I : Nat → Nat → Int32} {L : Nat → Nat → Int64} {R : Nat → Nat → Option Nat} {nc ns : Nat} {nx : Bool} {x y j z sp dp x0 x1 x2 x3 x4 x5 : Int32} {u v u0 u1 u2 u3 : Int64} {a0 a1 a2 a3 a4 : Nat}
theorem en4 : cf d 4 [.ref a] h = rf d 4 0 [some (.ref a), none] [] h := rfl
theorem e4_0 : rf d 4 0 ls s h = rf d 4 1 ls (.int 0 :: s) h := rf_pure (i := .iconst (0)) (len := 1) (okD_ok (by decide +kernel)) rfl
theorem e4_1 (hn : ip_nl l0 = true) : rf d 4 1 [l0, l1] (.int x :: s) h = rf d 4 2 [l0, some (.int x)] s h := g_sti (i := .istore_n 1) (len := 1) (q := 0) (p := 1) (by decide +kernel) rfl rfl hn
theorem e4_2 : rf d 4 2 [l0, some (.int x)] s h = rf d 4 3 [l0, some (.int x)] (.int x :: s) h := rf_pure (i := .iload_n 1) (len := 1) (okD_ok (by decide +kernel)) rfl
theorem e4_3 : rf d 4 3 ls s h = rf d 4 5 ls (.int 48 :: s) h := rf_pure (i := .bipush (48)) (len := 2) (okD_ok (by decide +kernel)) rfl
theorem e4_5 : rf d 4 5 ls (.int y :: .int x :: s) h = if y ≤ x then rf d 4 21 ls s h else rf d 4 8 ls s h := g_ic (c := .ge) (off := 16) _ (by decide +kernel) rfl cmp_d
theorem e4_8 : rf d 4 8 [some (.ref a), l1] s h = rf d 4 9 [some (.ref a), l1] (.ref a :: s) h := rf_pure (i := .aload_n 0) (len := 1) (okD_ok (by decide +kernel)) rfl
theorem e4_9 (hR : LYR R) (ha : isT a) : rf d 4 9 ls (.ref a :: s) (SH n, I, L, R, nc, ns, nx) = rf d 4 12 ls (.ref (a + 1) :: s) (SH n, I, L, R, nc, ns, nx) := g_R (idx := 9) (by decide +kernel) ow4 f_6_9 rfl (kdT0 ha) (geT ha) (lyT0 hR ha)
theorem e4_12 : rf d 4 12 [l0, some (.int x)] s h = rf d 4 13 [l0, some (.int x)] (.int x :: s) h := rf_pure (i := .iload_n 1) (len := 1) (okD_ok (by decide +kernel)) rfl
theorem e4_13 : rf d 4 13 ls s h = rf d 4 14 ls (.int 0 :: s) h := rf_pure (i := .iconst (0)) (len := 1) (okD_ok (by decide +kernel)) rfl
theorem e4_14 (q : ia n a j) : rf d 4 14 ls (.int x :: .int j :: .ref a :: s) (SH n, I, L, R, nc, ns, nx) = rf d 4 15 ls s (SH n, ip_up I a j.toNatClampNeg x, L, R, nc, ns, nx) := g_ias (by decide +kernel) q
theorem e4_15 (hn : ip_nl l0 = true) : rf d 4 15 [l0, some (.int x)] s h = rf d 4 18 [l0, some (.int (x + 1))] s h := g_inc (q := 0) (z := 1) (w := 1) (x := x) (by decide) (by decide +kernel) rfl rfl hn
theorem e4_18 : rf d 4 18 ls s h = rf d 4 2 ls s h := rf_goto ⟨okD_ok (i := .goto (-16)) (len := 3) (by decide +kernel), rfl⟩
theorem e4_21 : rf d 4 21 ls s h = rf d 4 22 ls (.int 0 :: s) h := rf_pure (i := .iconst (0)) (len := 1) (okD_ok (by decide +kernel)) rfl
theorem e4_22 (hn : ip_nl l0 = true) : rf d 4 22 [l0, l1] (.int x :: s) h = rf d 4 23 [l0, some (.int x)] s h := g_sti (i := .istore_n 1) (len := 1) (q := 0) (p := 1) (by decide +kernel) rfl rfl hn
theorem e4_23 : rf d 4 23 [l0, some (.int x)] s h = rf d 4 24 [l0, some (.int x)] (.int x :: s) h := rf_pure (i := .iload_n 1) (len := 1) (okD_ok (by decide +kernel)) rfl
theorem e4_24 : rf d 4 24 ls s h = rf d 4 26 ls (.int 6 :: s) h := rf_pure (i := .bipush (6)) (len := 2) (okD_ok (by decide +kernel)) rfl
theorem e4_26 : rf d 4 26 ls (.int y :: .int x :: s) h = if y ≤ x then rf d 4 48 ls s h else rf d 4 29 ls s h := g_ic (c := .ge) (off := 22) _ (by decide +kernel) rfl cmp_d
theorem e4_29 : rf d 4 29 [some (.ref a), l1] s h = rf d 4 30 [some (.ref a), l1] (.ref a :: s) h := rf_pure (i := .aload_n 0) (len := 1) (okD_ok (by decide +kernel)) rfl
theorem e4_30 (hR : LYR R) (ha : isT a) : rf d 4 30 ls (.ref a :: s) (SH n, I, L, R, nc, ns, nx) = rf d 4 33 ls (.ref (a + 5) :: s) (SH n, I, L, R, nc, ns, nx) := g_R (idx := 24) (by decide +kernel) ow4 f_6_24 rfl (kdT0 ha) (geT ha) (lyT4 hR ha)
theorem e4_33 : rf d 4 33 [l0, some (.int x)] s h = rf d 4 34 [l0, some (.int x)] (.int x :: s) h := rf_pure (i := .iload_n 1) (len := 1) (okD_ok (by decide +kernel)) rfl
theorem e4_34 : rf d 4 34 ls s h = rf d 4 35 ls (.int 1 :: s) h := rf_pure (i := .iconst (1)) (len := 1) (okD_ok (by decide +kernel)) rfl
theorem e4_35 : rf d 4 35 [l0, some (.int x)] s h = rf d 4 36 [l0, some (.int x)] (.int x :: s) h := rf_pure (i := .iload_n 1) (len := 1) (okD_ok (by decide +kernel)) rfl
theorem e4_36 : rf d 4 36 ls s h = rf d 4 37 ls (.int 3 :: s) h := rf_pure (i := .iconst (3)) (len := 1) (okD_ok (by decide +kernel)) rfl
theorem e4_37 (hy : ¬ y = 0) : rf d 4 37 ls (.int y :: .int x :: s) h = rf d 4 38 ls (.int (x - x / y * y) :: s) h := g_iz (i := .irem) (len := 1) (f := fun x y => x - x / y * y) (by decide +kernel) rfl hy
theorem e4_38 : rf d 4 38 ls s h = rf d 4 39 ls (.int 3 :: s) h := rf_pure (i := .iconst (3)) (len := 1) (okD_ok (by decide +kernel)) rfl
theorem e4_39 : rf d 4 39 ls (.int y :: .int x :: s) h = rf d 4 40 ls (.int (x * y) :: s) h := rf_pure (i := .imul) (len := 1) (okD_ok (by decide +kernel)) rfl
theorem e4_40 : rf d 4 40 ls (.int y :: .int x :: s) h = rf d 4 41 ls (.int (x + y) :: s) h := rf_pure (i := .iadd) (len := 1) (okD_ok (by decide +kernel)) rfl
theorem e4_41 (q : ia n a j) : rf d 4 41 ls (.int x :: .int j :: .ref a :: s) (SH n, I, L, R, nc, ns, nx) = rf d 4 42 ls s (SH n, ip_up I a j.toNatClampNeg x, L, R, nc, ns, nx) := g_ias (by decide +kernel) q
theorem e4_42 (hn : ip_nl l0 = true) : rf d 4 42 [l0, some (.int x)] s h = rf d 4 45 [l0, some (.int (x + 1))] s h := g_inc (q := 0) (z := 1) (w := 1) (x := x) (by decide) (by decide +kernel) rfl rfl hn
theorem e4_45 : rf d 4 45 ls s h = rf d 4 23 ls s h := rf_goto ⟨okD_ok (i := .goto (-22)) (len := 3) (by decide +kernel), rfl⟩
theorem e4_48 : rf d 4 48 ls s h = rf d 4 49 ls (.int 0 :: s) h := rf_pure (i := .iconst (0)) (len := 1) (okD_ok (by decide +kernel)) rfl
theorem e4_49 (hn : ip_nl l0 = true) : rf d 4 49 [l0, l1] (.int x :: s) h = rf d 4 50 [l0, some (.int x)] s h := g_sti (i := .istore_n 1) (len := 1) (q := 0) (p := 1) (by decide +kernel) rfl rfl hn
theorem e4_50 : rf d 4 50 [l0, some (.int x)] s h = rf d 4 51 [l0, some (.int x)] (.int x :: s) h := rf_pure (i := .iload_n 1) (len := 1) (okD_ok (by decide +kernel)) rfl
theorem e4_51 : rf d 4 51 ls s h = rf d 4 52 ls (.int 4 :: s) h := rf_pure (i := .iconst (4)) (len := 1) (okD_ok (by decide +kernel)) rfl
theorem e4_52 : rf d 4 52 ls (.int y :: .int x :: s) h = if y ≤ x then rf d 4 68 ls s h else rf d 4 55 ls s h := g_ic (c := .ge) (off := 16) _ (by decide +kernel) rfl cmp_d
theorem e4_55 : rf d 4 55 [some (.ref a), l1] s h = rf d 4 56 [some (.ref a), l1] (.ref a :: s) h := rf_pure (i := .aload_n 0) (len := 1) (okD_ok (by decide +kernel)) rfl
theorem e4_56 (hR : LYR R) (ha : isT a) : rf d 4 56 ls (.ref a :: s) (SH n, I, L, R, nc, ns, nx) = rf d 4 59 ls (.ref (a + 6) :: s) (SH n, I, L, R, nc, ns, nx) := g_R (idx := 29) (by decide +kernel) ow4 f_6_29 rfl (kdT0 ha) (geT ha) (lyT5 hR ha)
theorem e4_59 : rf d 4 59 [l0, some (.int x)] s h = rf d 4 60 [l0, some (.int x)] (.int x :: s) h := rf_pure (i := .iload_n 1) (len := 1) (okD_ok (by decide +kernel)) rfl
theorem e4_60 : rf d 4 60 ls s h = rf d 4 61 ls (.long 0 :: s) h := rf_pure (i := .lconst 0) (len := 1) (okD_ok (by decide +kernel)) rfl
theorem e4_61 (q : la n a j) : rf d 4 61 ls (.long u :: .int j :: .ref a :: s) (SH n, I, L, R, nc, ns, nx) = rf d 4 62 ls s (SH n, I, ip_up L a j.toNatClampNeg u, R, nc, ns, nx) := g_las (by decide +kernel) q
theorem e4_62 (hn : ip_nl l0 = true) : rf d 4 62 [l0, some (.int x)] s h = rf d 4 65 [l0, some (.int (x + 1))] s h := g_inc (q := 0) (z := 1) (w := 1) (x := x) (by decide) (by decide +kernel) rfl rfl hn
theorem e4_65 : rf d 4 65 ls s h = rf d 4 50 ls s h := rf_goto ⟨okD_ok (i := .goto (-15)) (len := 3) (by decide +kernel), rfl⟩
theorem e4_68 : rf d 4 68 [some (.ref a), l1] s h = rf d 4 69 [some (.ref a), l1] (.ref a :: s) h := rf_pure (i := .aload_n 0) (len := 1) (okD_ok (by decide +kernel)) rfl
theorem e4_69 : rf d 4 69 ls s h = rf d 4 70 ls (.int 0 :: s) h := rf_pure (i := .iconst (0)) (len := 1) (okD_ok (by decide +kernel)) rfl
theorem e4_70 (ha : isT a) : rf d 4 70 ls (.int x :: .ref a :: s) (SH n, I, L, R, nc, ns, nx) = rf d 4 73 ls s (SH n, ip_up I a 6 x, L, R, nc, ns, nx) := g_pI (idx := 36) (by decide +kernel) ow4 f_6_36 rfl (by decide +kernel) (kdT0 ha) (geT ha)
theorem e4_73 : rf d 4 73 [some (.ref a), l1] s h = rf d 4 74 [some (.ref a), l1] (.ref a :: s) h := rf_pure (i := .aload_n 0) (len := 1) (okD_ok (by decide +kernel)) rfl
theorem e4_74 : rf d 4 74 ls s h = rf d 4 75 ls (.int 0 :: s) h := rf_pure (i := .iconst (0)) (len := 1) (okD_ok (by decide +kernel)) rfl
theorem e4_75 (ha : isT a) : rf d 4 75 ls (.int x :: .ref a :: s) (SH n, I, L, R, nc, ns, nx) = rf d 4 78 ls s (SH n, ip_up I a 7 x, L, R, nc, ns, nx) := g_pI (idx := 40) (by decide +kernel) ow4 f_6_40 rfl (by decide +kernel) (kdT0 ha) (geT ha)
theorem e4_78 : rf d 4 78 [some (.ref a), l1] s h = rf d 4 79 [some (.ref a), l1] (.ref a :: s) h := rf_pure (i := .aload_n 0) (len := 1) (okD_ok (by decide +kernel)) rfl
theorem e4_79 : rf d 4 79 ls s h = rf d 4 80 ls (.int 0 :: s) h := rf_pure (i := .iconst (0)) (len := 1) (okD_ok (by decide +kernel)) rfl
theorem e4_80 (ha : isT a) (hx : x = 0 ∨ x = 1) : rf d 4 80 ls (.int x :: .ref a :: s) (SH n, I, L, R, nc, ns, nx) = rf d 4 83 ls s (SH n, ip_up I a 8 x, L, R, nc, ns, nx) := g_pZ (idx := 43) (by decide +kernel) ow4 f_6_43 rfl (by decide +kernel) (kdT0 ha) (geT ha) hx
theorem e4_83 : rf d 4 83 ls [] h = some (.inl none, h) := g_rv (by decide +kernel) rt4
theorem en9 : cf d 9 [.ref a] h = rf d 9 0 [some (.ref a)] [] h := rfl
theorem e9_0 : rf d 9 0 [some (.ref a)] s h = rf d 9 1 [some (.ref a)] (.ref a :: s) h := rf_pure (i := .aload_n 0) (len := 1) (okD_ok (by decide +kernel)) rfl
theorem e9_1 (hR : LYR R) : rf d 9 1 ls (.ref 2 :: s) (SH n, I, L, R, nc, ns, nx) = rf d 9 4 ls (.ref 23 :: s) (SH n, I, L, R, nc, ns, nx) := g_R (idx := 36) (by decide +kernel) ow9 f_7_36 rfl rfl (by decide) (ly_2_5 hR)
theorem e9_4 : rf d 9 4 ls s h = rf d 9 5 ls (.int 0 :: s) h := rf_pure (i := .iconst (0)) (len := 1) (okD_ok (by decide +kernel)) rfl
theorem e9_5 (hR : LYR R) (q : inb j 40) : rf d 9 5 ls (.int j :: .ref 23 :: s) (SH n, I, L, R, nc, ns, nx) = rf d 9 6 ls (.ref (nd j) :: s) (SH n, I, L, R, nc, ns, nx) := g_aal (by decide +kernel) hR q
theorem e9_6 : rf d 9 6 [some (.ref a)] s h = rf d 9 7 [some (.ref a)] (.ref a :: s) h := rf_pure (i := .aload_n 0) (len := 1) (okD_ok (by decide +kernel)) rfl
theorem e9_7 : rf d 9 7 ls (.ref 2 :: s) (SH n, I, L, R, nc, ns, nx) = rf d 9 10 ls (ip_rf (R 2 4) :: s) (SH n, I, L, R, nc, ns, nx) := g_R (idx := 30) (by decide +kernel) ow9 f_7_30 rfl rfl (by decide) rfl
theorem e9_10 (hb : isT b) (hcat : ip_cat s ≤ 8) : rf (d + 1) 9 10 ls (.ref b :: s) (SH n, I, L, R, nc, ns, nx) = rf_k (d + 1) 9 10 ls s (cf d 10 [.ref b] (SH n, I, L, R, nc, ns, nx)) := g_cv (idx := 71) (t := 6) [] (by decide +kernel) ow9 ms_7_71 mt_7_71 cy10_6 rfl rfl mL10 rfl (kdT0 hb) (geT hb) hcat
theorem e9_13 (hb : isN b) (hcat : ip_cat s ≤ 8) : rf (d + 1) 9 13 ls (.int x0 :: .ref b :: s) (SH n, I, L, R, nc, ns, nx) = rf_k (d + 1) 9 13 ls s (cf d 11 [.ref b, .int x0] (SH n, I, L, R, nc, ns, nx)) := g_cv (idx := 75) (t := 1) [.int x0] (by decide +kernel) ow9 ms_7_75 mt_7_75 cy11_1 rfl rfl mL11 rfl (kdN0 hb) (geN hb) hcat
theorem e9_16 : rf d 9 16 [some (.ref a)] s h = rf d 9 17 [some (.ref a)] (.ref a :: s) h := rf_pure (i := .aload_n 0) (len := 1) (okD_ok (by decide +kernel)) rfl
theorem e9_17 : rf d 9 17 ls s h = rf d 9 18 ls (.int 1 :: s) h := rf_pure (i := .iconst (1)) (len := 1) (okD_ok (by decide +kernel)) rfl
theorem e9_18 : rf d 9 18 ls (.int x :: .ref 2 :: s) (SH n, I, L, R, nc, ns, nx) = rf d 9 21 ls s (SH n, ip_up I 2 6 x, L, R, nc, ns, nx) := g_pI (idx := 40) (by decide +kernel) ow9 f_7_40 rfl (by decide +kernel) rfl (by decide)
theorem e9_21 : rf d 9 21 [some (.ref a)] s h = rf d 9 22 [some (.ref a)] (.ref a :: s) h := rf_pure (i := .aload_n 0) (len := 1) (okD_ok (by decide +kernel)) rfl
theorem e9_22 : rf d 9 22 ls s h = rf d 9 23 ls (.int 0 :: s) h := rf_pure (i := .iconst (0)) (len := 1) (okD_ok (by decide +kernel)) rfl
theorem e9_23 : rf d 9 23 ls (.int x :: .ref 2 :: s) (SH n, I, L, R, nc, ns, nx) = rf d 9 26 ls s (SH n, ip_up I 2 7 x, L, R, nc, ns, nx) := g_pI (idx := 43) (by decide +kernel) ow9 f_7_43 rfl (by decide +kernel) rfl (by decide)
theorem e9_26 : rf d 9 26 ls [] h = some (.inl none, h) := g_rv (by decide +kernel) rt9
theorem en10 : cf d 10 [.ref a] h = rf d 10 0 [some (.ref a)] [] h := rfl
theorem e10_0 : rf d 10 0 ls s h = rf d 10 1 ls (.int 1 :: s) h := rf_pure (i := .iconst (1)) (len := 1) (okD_ok (by decide +kernel)) rfl
theorem e10_1 : rf d 10 1 [some (.ref a)] s h = rf d 10 2 [some (.ref a)] (.ref a :: s) h := rf_pure (i := .aload_n 0) (len := 1) (okD_ok (by decide +kernel)) rfl
theorem e10_2 (ha : isT a) : rf d 10 2 ls (.ref a :: s) (SH n, I, L, R, nc, ns, nx) = rf d 10 5 ls (.int (I a 6) :: s) (SH n, I, L, R, nc, ns, nx) := g_I (idx := 36) (by decide +kernel) ow10 f_6_36 rfl (kdT0 ha) (geT ha)
theorem e10_5 : rf d 10 5 ls (.int y :: .int x :: s) h = rf d 10 6 ls (.int (x <<< (y &&& 31)) :: s) h := rf_pure (i := .ishl) (len := 1) (okD_ok (by decide +kernel)) rfl
theorem e10_6 : rf d 10 6 ls s h = rf d 10 7 ls (.int 1 :: s) h := rf_pure (i := .iconst (1)) (len := 1) (okD_ok (by decide +kernel)) rfl
theorem e10_7 : rf d 10 7 ls (.int y :: .int x :: s) h = rf d 10 8 ls (.int (x - y) :: s) h := rf_pure (i := .isub) (len := 1) (okD_ok (by decide +kernel)) rfl
theorem e10_8 : rf d 10 8 ls [.int x] h = some (.inl (some (.int x)), h) := g_ri (by decide +kernel) rt10
theorem en11 : cf d 11 [.ref a, .int x0] h = rf d 11 0 [some (.ref a), some (.int x0)] [] h := rfl
theorem e11_0 : rf d 11 0 [some (.ref a), l1] s h = rf d 11 1 [some (.ref a), l1] (.ref a :: s) h := rf_pure (i := .aload_n 0) (len := 1) (okD_ok (by decide +kernel)) rfl
theorem e11_1 : rf d 11 1 ls s h = rf d 11 2 ls (.int (-1) :: s) h := rf_pure (i := .iconst (-1)) (len := 1) (okD_ok (by decide +kernel)) rfl
theorem e11_2 : rf d 11 2 [l0, some (.int x)] s h = rf d 11 3 [l0, some (.int x)] (.int x :: s) h := rf_pure (i := .iload_n 1) (len := 1) (okD_ok (by decide +kernel)) rfl
theorem e11_3 (hb : isN b) (hcat : ip_cat s ≤ 8) : rf (d + 1) 11 3 ls (.int x1 :: .int x0 :: .ref b :: s) (SH n, I, L, R, nc, ns, nx) = rf_k (d + 1) 11 3 ls s (cf d 12 [.ref b, .int x0, .int x1] (SH n, I, L, R, nc, ns, nx)) := g_cv (idx := 24) (t := 1) [.int x1, .int x0] (by decide +kernel) ow11 ms_1_24 mt_1_24 cy12_1 rfl rfl mL12 rfl (kdN0 hb) (geN hb) hcat
theorem e11_6 : rf d 11 6 [some (.ref a), l1] s h = rf d 11 7 [some (.ref a), l1] (.ref a :: s) h := rf_pure (i := .aload_n 0) (len := 1) (okD_ok (by decide +kernel)) rfl
theorem e11_7 : rf d 11 7 ls s h = rf d 11 8 ls (.int 0 :: s) h := rf_pure (i := .iconst (0)) (len := 1) (okD_ok (by decide +kernel)) rfl
theorem e11_8 (ha : isN a) : rf d 11 8 ls (.int x :: .ref a :: s) (SH n, I, L, R, nc, ns, nx) = rf d 11 11 ls s (SH n, ip_up I a 4 x, L, R, nc, ns, nx) := g_pI (idx := 28) (by decide +kernel) ow11 f_1_28 rfl (by decide +kernel) (kdN0 ha) (geN ha)
theorem e11_11 : rf d 11 11 [some (.ref a), l1] s h = rf d 11 12 [some (.ref a), l1] (.ref a :: s) h := rf_pure (i := .aload_n 0) (len := 1) (okD_ok (by decide +kernel)) rfl
theorem e11_12 : rf d 11 12 ls s h = rf d 11 13 ls (.int 0 :: s) h := rf_pure (i := .iconst (0)) (len := 1) (okD_ok (by decide +kernel)) rfl
theorem e11_13 (ha : isN a) : rf d 11 13 ls (.int x :: .ref a :: s) (SH n, I, L, R, nc, ns, nx) = rf d 11 16 ls s (SH n, ip_up I a 5 x, L, R, nc, ns, nx) := g_pI (idx := 32) (by decide +kernel) ow11 f_1_32 rfl (by decide +kernel) (kdN0 ha) (geN ha)
theorem e11_16 : rf d 11 16 [some (.ref a), l1] s h = rf d 11 17 [some (.ref a), l1] (.ref a :: s) h := rf_pure (i := .aload_n 0) (len := 1) (okD_ok (by decide +kernel)) rfl
theorem e11_17 : rf d 11 17 [l0, some (.int x)] s h = rf d 11 18 [l0, some (.int x)] (.int x :: s) h := rf_pure (i := .iload_n 1) (len := 1) (okD_ok (by decide +kernel)) rfl
theorem e11_18 (ha : isN a) : rf d 11 18 ls (.int x :: .ref a :: s) (SH n, I, L, R, nc, ns, nx) = rf d 11 21 ls s (SH n, ip_up I a 6 x, L, R, nc, ns, nx) := g_pI (idx := 35) (by decide +kernel) ow11 f_1_35 rfl (by decide +kernel) (kdN0 ha) (geN ha)
theorem e11_21 : rf d 11 21 [some (.ref a), l1] s h = rf d 11 22 [some (.ref a), l1] (.ref a :: s) h := rf_pure (i := .aload_n 0) (len := 1) (okD_ok (by decide +kernel)) rfl
theorem e11_22 : rf d 11 22 ls s h = rf d 11 23 ls (.int 0 :: s) h := rf_pure (i := .iconst (0)) (len := 1) (okD_ok (by decide +kernel)) rfl
theorem e11_23 (ha : isN a) : rf d 11 23 ls (.int x :: .ref a :: s) (SH n, I, L, R, nc, ns, nx) = rf d 11 26 ls s (SH n, ip_up I a 7 x, L, R, nc, ns, nx) := g_pI (idx := 38) (by decide +kernel) ow11 f_1_38 rfl (by decide +kernel) (kdN0 ha) (geN ha)
theorem e11_26 : rf d 11 26 [some (.ref a), l1] s h = rf d 11 27 [some (.ref a), l1] (.ref a :: s) h := rf_pure (i := .aload_n 0) (len := 1) (okD_ok (by decide +kernel)) rfl
theorem e11_27 : rf d 11 27 ls s h = rf d 11 28 ls (.int 0 :: s) h := rf_pure (i := .iconst (0)) (len := 1) (okD_ok (by decide +kernel)) rfl
theorem e11_28 (ha : isN a) : rf d 11 28 ls (.int x :: .ref a :: s) (SH n, I, L, R, nc, ns, nx) = rf d 11 31 ls s (SH n, ip_up I a 8 x, L, R, nc, ns, nx) := g_pI (idx := 41) (by decide +kernel) ow11 f_1_41 rfl (by decide +kernel) (kdN0 ha) (geN ha)
theorem e11_31 : rf d 11 31 [some (.ref a), l1] s h = rf d 11 32 [some (.ref a), l1] (.ref a :: s) h := rf_pure (i := .aload_n 0) (len := 1) (okD_ok (by decide +kernel)) rfl
theorem e11_32 (hR : LYR R) (ha : isN a) : rf d 11 32 ls (.ref a :: s) (SH n, I, L, R, nc, ns, nx) = rf d 11 35 ls (.ref (a + 2) :: s) (SH n, I, L, R, nc, ns, nx) := g_R (idx := 15) (by decide +kernel) ow11 f_1_15 rfl (kdN0 ha) (geN ha) (lyN13 hR ha)
theorem e11_35 : rf d 11 35 ls s h = rf d 11 36 ls (.int 0 :: s) h := rf_pure (i := .iconst (0)) (len := 1) (okD_ok (by decide +kernel)) rfl
theorem e11_36 : rf d 11 36 ls s h = rf d 11 37 ls (.int 0 :: s) h := rf_pure (i := .iconst (0)) (len := 1) (okD_ok (by decide +kernel)) rfl
theorem e11_37 (q : ia n a j) : rf d 11 37 ls (.int x :: .int j :: .ref a :: s) (SH n, I, L, R, nc, ns, nx) = rf d 11 38 ls s (SH n, ip_up I a j.toNatClampNeg x, L, R, nc, ns, nx) := g_ias (by decide +kernel) q
theorem e11_38 : rf d 11 38 [some (.ref a), l1] s h = rf d 11 39 [some (.ref a), l1] (.ref a :: s) h := rf_pure (i := .aload_n 0) (len := 1) (okD_ok (by decide +kernel)) rfl
theorem e11_39 (hR : LYR R) (ha : isN a) : rf d 11 39 ls (.ref a :: s) (SH n, I, L, R, nc, ns, nx) = rf d 11 42 ls (.ref (a + 2) :: s) (SH n, I, L, R, nc, ns, nx) := g_R (idx := 15) (by decide +kernel) ow11 f_1_15 rfl (kdN0 ha) (geN ha) (lyN13 hR ha)
theorem e11_42 : rf d 11 42 ls s h = rf d 11 43 ls (.int 1 :: s) h := rf_pure (i := .iconst (1)) (len := 1) (okD_ok (by decide +kernel)) rfl
theorem e11_43 : rf d 11 43 ls s h = rf d 11 44 ls (.int 0 :: s) h := rf_pure (i := .iconst (0)) (len := 1) (okD_ok (by decide +kernel)) rfl
theorem e11_44 (q : ia n a j) : rf d 11 44 ls (.int x :: .int j :: .ref a :: s) (SH n, I, L, R, nc, ns, nx) = rf d 11 45 ls s (SH n, ip_up I a j.toNatClampNeg x, L, R, nc, ns, nx) := g_ias (by decide +kernel) q
theorem e11_45 : rf d 11 45 [some (.ref a), l1] s h = rf d 11 46 [some (.ref a), l1] (.ref a :: s) h := rf_pure (i := .aload_n 0) (len := 1) (okD_ok (by decide +kernel)) rfl
theorem e11_46 : rf d 11 46 ls s h = rf d 11 47 ls (.int 1 :: s) h := rf_pure (i := .iconst (1)) (len := 1) (okD_ok (by decide +kernel)) rfl
theorem e11_47 (ha : isN a) : rf d 11 47 ls (.int x :: .ref a :: s) (SH n, I, L, R, nc, ns, nx) = rf d 11 50 ls s (SH n, ip_up I a 11 x, L, R, nc, ns, nx) := g_pI (idx := 44) (by decide +kernel) ow11 f_1_44 rfl (by decide +kernel) (kdN0 ha) (geN ha)
theorem e11_50 : rf d 11 50 ls [] h = some (.inl none, h) := g_rv (by decide +kernel) rt11
theorem en12 : cf d 12 [.ref a, .int x0, .int x1] h = rf d 12 0 [some (.ref a), some (.int x0), some (.int x1)] [] h := rfl
theorem e12_0 : rf d 12 0 [some (.ref a), l1, l2] s h = rf d 12 1 [some (.ref a), l1, l2] (.ref a :: s) h := rf_pure (i := .aload_n 0) (len := 1) (okD_ok (by decide +kernel)) rfl
theorem e12_1 : rf d 12 1 ls s h = rf d 12 2 ls (.int 0 :: s) h := rf_pure (i := .iconst (0)) (len := 1) (okD_ok (by decide +kernel)) rfl
theorem e12_2 (ha : isN a) : rf d 12 2 ls (.int x :: .ref a :: s) (SH n, I, L, R, nc, ns, nx) = rf d 12 5 ls s (SH n, ip_up I a 0 x, L, R, nc, ns, nx) := g_pI (idx := 51) (by decide +kernel) ow12 f_1_51 rfl (by decide +kernel) (kdN0 ha) (geN ha)
theorem e12_5 : rf d 12 5 [some (.ref a), l1, l2] s h = rf d 12 6 [some (.ref a), l1, l2] (.ref a :: s) h := rf_pure (i := .aload_n 0) (len := 1) (okD_ok (by decide +kernel)) rfl
theorem e12_6 : rf d 12 6 [l0, some (.int x), l2] s h = rf d 12 7 [l0, some (.int x), l2] (.int x :: s) h := rf_pure (i := .iload_n 1) (len := 1) (okD_ok (by decide +kernel)) rfl
theorem e12_7 (ha : isN a) : rf d 12 7 ls (.int x :: .ref a :: s) (SH n, I, L, R, nc, ns, nx) = rf d 12 10 ls s (SH n, ip_up I a 1 x, L, R, nc, ns, nx) := g_pI (idx := 54) (by decide +kernel) ow12 f_1_54 rfl (by decide +kernel) (kdN0 ha) (geN ha)
theorem e12_10 : rf d 12 10 [some (.ref a), l1, l2] s h = rf d 12 11 [some (.ref a), l1, l2] (.ref a :: s) h := rf_pure (i := .aload_n 0) (len := 1) (okD_ok (by decide +kernel)) rfl
theorem e12_11 : rf d 12 11 ls s h = rf d 12 12 ls (.int (-1) :: s) h := rf_pure (i := .iconst (-1)) (len := 1) (okD_ok (by decide +kernel)) rfl
theorem e12_12 (ha : isN a) : rf d 12 12 ls (.int x :: .ref a :: s) (SH n, I, L, R, nc, ns, nx) = rf d 12 15 ls s (SH n, ip_up I a 2 x, L, R, nc, ns, nx) := g_pI (idx := 57) (by decide +kernel) ow12 f_1_57 rfl (by decide +kernel) (kdN0 ha) (geN ha)
theorem e12_15 : rf d 12 15 [some (.ref a), l1, l2] s h = rf d 12 16 [some (.ref a), l1, l2] (.ref a :: s) h := rf_pure (i := .aload_n 0) (len := 1) (okD_ok (by decide +kernel)) rfl
theorem e12_16 : rf d 12 16 [l0, l1, some (.int x)] s h = rf d 12 17 [l0, l1, some (.int x)] (.int x :: s) h := rf_pure (i := .iload_n 2) (len := 1) (okD_ok (by decide +kernel)) rfl
theorem e12_17 (ha : isN a) : rf d 12 17 ls (.int x :: .ref a :: s) (SH n, I, L, R, nc, ns, nx) = rf d 12 20 ls s (SH n, ip_up I a 3 x, L, R, nc, ns, nx) := g_pI (idx := 60) (by decide +kernel) ow12 f_1_60 rfl (by decide +kernel) (kdN0 ha) (geN ha)
theorem e12_20 : rf d 12 20 [some (.ref a), l1, l2] s h = rf d 12 21 [some (.ref a), l1, l2] (.ref a :: s) h := rf_pure (i := .aload_n 0) (len := 1) (okD_ok (by decide +kernel)) rfl
theorem e12_21 : rf d 12 21 ls s h = rf d 12 22 ls (.int (-1) :: s) h := rf_pure (i := .iconst (-1)) (len := 1) (okD_ok (by decide +kernel)) rfl
theorem e12_22 (ha : isN a) : rf d 12 22 ls (.int x :: .ref a :: s) (SH n, I, L, R, nc, ns, nx) = rf d 12 25 ls s (SH n, ip_up I a 9 x, L, R, nc, ns, nx) := g_pI (idx := 63) (by decide +kernel) ow12 f_1_63 rfl (by decide +kernel) (kdN0 ha) (geN ha)
theorem e12_25 : rf d 12 25 [some (.ref a), l1, l2] s h = rf d 12 26 [some (.ref a), l1, l2] (.ref a :: s) h := rf_pure (i := .aload_n 0) (len := 1) (okD_ok (by decide +kernel)) rfl
theorem e12_26 : rf d 12 26 ls s h = rf d 12 27 ls (.int 0 :: s) h := rf_pure (i := .iconst (0)) (len := 1) (okD_ok (by decide +kernel)) rfl
theorem e12_27 (ha : isN a) : rf d 12 27 ls (.int x :: .ref a :: s) (SH n, I, L, R, nc, ns, nx) = rf d 12 30 ls s (SH n, ip_up I a 10 x, L, R, nc, ns, nx) := g_pI (idx := 66) (by decide +kernel) ow12 f_1_66 rfl (by decide +kernel) (kdN0 ha) (geN ha)
theorem e12_30 : rf d 12 30 [some (.ref a), l1, l2] s h = rf d 12 31 [some (.ref a), l1, l2] (.ref a :: s) h := rf_pure (i := .aload_n 0) (len := 1) (okD_ok (by decide +kernel)) rfl
theorem e12_31 (hR : LYR R) (ha : isN a) : rf d 12 31 ls (.ref a :: s) (SH n, I, L, R, nc, ns, nx) = rf d 12 34 ls (.ref (a + 1) :: s) (SH n, I, L, R, nc, ns, nx) := g_R (idx := 9) (by decide +kernel) ow12 f_1_9 rfl (kdN0 ha) (geN ha) (lyN12 hR ha)
theorem e12_34 : rf d 12 34 ls s h = rf d 12 35 ls (.int 0 :: s) h := rf_pure (i := .iconst (0)) (len := 1) (okD_ok (by decide +kernel)) rfl
theorem e12_35 : rf d 12 35 ls s h = rf d 12 36 ls (.int 0 :: s) h := rf_pure (i := .iconst (0)) (len := 1) (okD_ok (by decide +kernel)) rfl
theorem e12_36 (q : ia n a j) : rf d 12 36 ls (.int x :: .int j :: .ref a :: s) (SH n, I, L, R, nc, ns, nx) = rf d 12 37 ls s (SH n, ip_up I a j.toNatClampNeg x, L, R, nc, ns, nx) := g_ias (by decide +kernel) q
theorem e12_37 : rf d 12 37 [some (.ref a), l1, l2] s h = rf d 12 38 [some (.ref a), l1, l2] (.ref a :: s) h := rf_pure (i := .aload_n 0) (len := 1) (okD_ok (by decide +kernel)) rfl
theorem e12_38 (hR : LYR R) (ha : isN a) : rf d 12 38 ls (.ref a :: s) (SH n, I, L, R, nc, ns, nx) = rf d 12 41 ls (.ref (a + 1) :: s) (SH n, I, L, R, nc, ns, nx) := g_R (idx := 9) (by decide +kernel) ow12 f_1_9 rfl (kdN0 ha) (geN ha) (lyN12 hR ha)
theorem e12_41 : rf d 12 41 ls s h = rf d 12 42 ls (.int 1 :: s) h := rf_pure (i := .iconst (1)) (len := 1) (okD_ok (by decide +kernel)) rfl
theorem e12_42 : rf d 12 42 ls s h = rf d 12 43 ls (.int 0 :: s) h := rf_pure (i := .iconst (0)) (len := 1) (okD_ok (by decide +kernel)) rfl
theorem e12_43 (q : ia n a j) : rf d 12 43 ls (.int x :: .int j :: .ref a :: s) (SH n, I, L, R, nc, ns, nx) = rf d 12 44 ls s (SH n, ip_up I a j.toNatClampNeg x, L, R, nc, ns, nx) := g_ias (by decide +kernel) q
theorem e12_44 : rf d 12 44 ls [] h = some (.inl none, h) := g_rv (by decide +kernel) rt12
theorem en13 : cf d 13 [.ref a, .int x0, .int x1, .int x2, .int x3, .int x4] h = rf d 13 0 [some (.ref a), some (.int x0), some (.int x1), some (.int x2), some (.int x3), some (.int x4)] [] h := rfl
theorem e13_0 : rf d 13 0 [some (.ref a), l1, l2, l3, l4, l5] s h = rf d 13 1 [some (.ref a), l1, l2, l3, l4, l5] (.ref a :: s) h := rf_pure (i := .aload_n 0) (len := 1) (okD_ok (by decide +kernel)) rfl
theorem e13_1 : rf d 13 1 ls (.ref 2 :: s) (SH n, I, L, R, nc, ns, nx) = rf d 13 4 ls (.int (I 2 1) :: s) (SH n, I, L, R, nc, ns, nx) := g_I (idx := 13) (by decide +kernel) ow13 f_7_13 rfl rfl (by decide)
theorem e13_4 : rf d 13 4 ls s h = rf d 13 6 ls (.int 20 :: s) h := rf_pure (i := .bipush (20)) (len := 2) (okD_ok (by decide +kernel)) rfl
theorem e13_6 : rf d 13 6 ls (.int y :: .int x :: s) h = rf d 13 7 ls (.int (x + y) :: s) h := rf_pure (i := .iadd) (len := 1) (okD_ok (by decide +kernel)) rfl
theorem e13_7 : rf d 13 7 ls s h = rf d 13 10 ls (.int 400 :: s) h := rf_pure (i := .sipush (400)) (len := 3) (okD_ok (by decide +kernel)) rfl
theorem e13_10 : rf d 13 10 ls (.int y :: .int x :: s) h = if x ≤ y then rf d 13 15 ls s h else rf d 13 13 ls s h := g_ic (c := .le) (off := 5) _ (by decide +kernel) rfl cmp_d
theorem e13_13 : rf d 13 13 ls s h = rf d 13 14 ls (.int (-1) :: s) h := rf_pure (i := .iconst (-1)) (len := 1) (okD_ok (by decide +kernel)) rfl
theorem e13_14 : rf d 13 14 ls [.int x] h = some (.inl (some (.int x)), h) := g_ri (by decide +kernel) rt13
theorem e13_15 : rf d 13 15 [some (.ref a), l1, l2, l3, l4, l5] s h = rf d 13 16 [some (.ref a), l1, l2, l3, l4, l5] (.ref a :: s) h := rf_pure (i := .aload_n 0) (len := 1) (okD_ok (by decide +kernel)) rfl
theorem e13_16 : rf d 13 16 [l0, some (.int x), l2, l3, l4, l5] s h = rf d 13 17 [l0, some (.int x), l2, l3, l4, l5] (.int x :: s) h := rf_pure (i := .iload_n 1) (len := 1) (okD_ok (by decide +kernel)) rfl
theorem e13_17 (hcat : ip_cat s ≤ 8) : rf (d + 1) 13 17 ls (.int x0 :: .ref 2 :: s) (SH n, I, L, R, nc, ns, nx) = rf_k (d + 1) 13 17 ls s (cf d 14 [.ref 2, .int x0] (SH n, I, L, R, nc, ns, nx)) := g_cv (idx := 79) (t := 7) [.int x0] (by decide +kernel) ow13 ms_7_79 mt_7_79 cy14_7 rfl rfl mL14 rfl rfl (by decide) hcat
theorem e13_20 : rf d 13 20 [some (.ref a), l1, l2, l3, l4, l5] s h = rf d 13 21 [some (.ref a), l1, l2, l3, l4, l5] (.ref a :: s) h := rf_pure (i := .aload_n 0) (len := 1) (okD_ok (by decide +kernel)) rfl
theorem e13_21 : rf d 13 21 [l0, l1, some (.int x), l3, l4, l5] s h = rf d 13 22 [l0, l1, some (.int x), l3, l4, l5] (.int x :: s) h := rf_pure (i := .iload_n 2) (len := 1) (okD_ok (by decide +kernel)) rfl
theorem e13_22 (hcat : ip_cat s ≤ 8) : rf (d + 1) 13 22 ls (.int x0 :: .ref 2 :: s) (SH n, I, L, R, nc, ns, nx) = rf_k (d + 1) 13 22 ls s (cf d 14 [.ref 2, .int x0] (SH n, I, L, R, nc, ns, nx)) := g_cv (idx := 79) (t := 7) [.int x0] (by decide +kernel) ow13 ms_7_79 mt_7_79 cy14_7 rfl rfl mL14 rfl rfl (by decide) hcat
theorem e13_25 : rf d 13 25 [some (.ref a), l1, l2, l3, l4, l5] s h = rf d 13 26 [some (.ref a), l1, l2, l3, l4, l5] (.ref a :: s) h := rf_pure (i := .aload_n 0) (len := 1) (okD_ok (by decide +kernel)) rfl
theorem e13_26 : rf d 13 26 [l0, l1, l2, some (.int x), l4, l5] s h = rf d 13 27 [l0, l1, l2, some (.int x), l4, l5] (.int x :: s) h := rf_pure (i := .iload_n 3) (len := 1) (okD_ok (by decide +kernel)) rfl
theorem e13_27 (hcat : ip_cat s ≤ 8) : rf (d + 1) 13 27 ls (.int x0 :: .ref 2 :: s) (SH n, I, L, R, nc, ns, nx) = rf_k (d + 1) 13 27 ls s (cf d 14 [.ref 2, .int x0] (SH n, I, L, R, nc, ns, nx)) := g_cv (idx := 79) (t := 7) [.int x0] (by decide +kernel) ow13 ms_7_79 mt_7_79 cy14_7 rfl rfl mL14 rfl rfl (by decide) hcat
theorem e13_30 : rf d 13 30 [some (.ref a), l1, l2, l3, l4, l5] s h = rf d 13 31 [some (.ref a), l1, l2, l3, l4, l5] (.ref a :: s) h := rf_pure (i := .aload_n 0) (len := 1) (okD_ok (by decide +kernel)) rfl
theorem e13_31 : rf d 13 31 [l0, l1, l2, l3, some (.int x), l5] s h = rf d 13 33 [l0, l1, l2, l3, some (.int x), l5] (.int x :: s) h := rf_pure (i := .iload 4) (len := 2) (okD_ok (by decide +kernel)) rfl
theorem e13_33 (hcat : ip_cat s ≤ 8) : rf (d + 1) 13 33 ls (.int x0 :: .ref 2 :: s) (SH n, I, L, R, nc, ns, nx) = rf_k (d + 1) 13 33 ls s (cf d 14 [.ref 2, .int x0] (SH n, I, L, R, nc, ns, nx)) := g_cv (idx := 79) (t := 7) [.int x0] (by decide +kernel) ow13 ms_7_79 mt_7_79 cy14_7 rfl rfl mL14 rfl rfl (by decide) hcat
theorem e13_36 : rf d 13 36 [some (.ref a), l1, l2, l3, l4, l5] s h = rf d 13 37 [some (.ref a), l1, l2, l3, l4, l5] (.ref a :: s) h := rf_pure (i := .aload_n 0) (len := 1) (okD_ok (by decide +kernel)) rfl
theorem e13_37 : rf d 13 37 [l0, l1, l2, l3, l4, some (.int x)] s h = rf d 13 39 [l0, l1, l2, l3, l4, some (.int x)] (.int x :: s) h := rf_pure (i := .iload 5) (len := 2) (okD_ok (by decide +kernel)) rfl
theorem e13_39 (hcat : ip_cat s ≤ 8) : rf (d + 1) 13 39 ls (.int x0 :: .ref 2 :: s) (SH n, I, L, R, nc, ns, nx) = rf_k (d + 1) 13 39 ls s (cf d 14 [.ref 2, .int x0] (SH n, I, L, R, nc, ns, nx)) := g_cv (idx := 79) (t := 7) [.int x0] (by decide +kernel) ow13 ms_7_79 mt_7_79 cy14_7 rfl rfl mL14 rfl rfl (by decide) hcat
theorem e13_42 : rf d 13 42 [some (.ref a), l1, l2, l3, l4, l5] s h = rf d 13 43 [some (.ref a), l1, l2, l3, l4, l5] (.ref a :: s) h := rf_pure (i := .aload_n 0) (len := 1) (okD_ok (by decide +kernel)) rfl
theorem e13_43 : rf d 13 43 ls (.ref 2 :: s) (SH n, I, L, R, nc, ns, nx) = rf d 13 46 ls (.int (I 2 1) :: s) (SH n, I, L, R, nc, ns, nx) := g_I (idx := 13) (by decide +kernel) ow13 f_7_13 rfl rfl (by decide)
theorem e13_46 : rf d 13 46 ls [.int x] h = some (.inl (some (.int x)), h) := g_ri (by decide +kernel) rt13
theorem en14 : cf d 14 [.ref a, .int x0] h = rf d 14 0 [some (.ref a), some (.int x0), none] [] h := rfl
theorem e14_0 : rf d 14 0 ls s h = rf d 14 2 ls (.int 24 :: s) h := rf_pure (i := .bipush (24)) (len := 2) (okD_ok (by decide +kernel)) rfl
theorem e14_2 (hn : ip_nl l1 = true) : rf d 14 2 [l0, l1, l2] (.int x :: s) h = rf d 14 3 [l0, l1, some (.int x)] s h := g_sti (i := .istore_n 2) (len := 1) (q := 1) (p := 1) (by decide +kernel) rfl rfl hn
theorem e14_3 : rf d 14 3 [l0, l1, some (.int x)] s h = rf d 14 4 [l0, l1, some (.int x)] (.int x :: s) h := rf_pure (i := .iload_n 2) (len := 1) (okD_ok (by decide +kernel)) rfl
theorem e14_4 : rf d 14 4 ls (.int x :: s) h = if x < 0 then rf d 14 49 ls s h else rf d 14 7 ls s h := g_if (c := .lt) (off := 45) _ (by decide +kernel) rfl cmp_d
theorem e14_7 : rf d 14 7 [some (.ref a), l1, l2] s h = rf d 14 8 [some (.ref a), l1, l2] (.ref a :: s) h := rf_pure (i := .aload_n 0) (len := 1) (okD_ok (by decide +kernel)) rfl
theorem e14_8 : rf d 14 8 ls (.ref 2 :: s) (SH n, I, L, R, nc, ns, nx) = rf d 14 11 ls (.int (I 2 1) :: s) (SH n, I, L, R, nc, ns, nx) := g_I (idx := 13) (by decide +kernel) ow14 f_7_13 rfl rfl (by decide)
theorem e14_11 : rf d 14 11 ls s h = rf d 14 14 ls (.int 400 :: s) h := rf_pure (i := .sipush (400)) (len := 3) (okD_ok (by decide +kernel)) rfl
theorem e14_14 : rf d 14 14 ls (.int y :: .int x :: s) h = if y ≤ x then rf d 14 49 ls s h else rf d 14 17 ls s h := g_ic (c := .ge) (off := 35) _ (by decide +kernel) rfl cmp_d
theorem e14_17 : rf d 14 17 [some (.ref a), l1, l2] s h = rf d 14 18 [some (.ref a), l1, l2] (.ref a :: s) h := rf_pure (i := .aload_n 0) (len := 1) (okD_ok (by decide +kernel)) rfl
theorem e14_18 (hR : LYR R) : rf d 14 18 ls (.ref 2 :: s) (SH n, I, L, R, nc, ns, nx) = rf d 14 21 ls (.ref 3 :: s) (SH n, I, L, R, nc, ns, nx) := g_R (idx := 9) (by decide +kernel) ow14 f_7_9 rfl rfl (by decide) (ly_2_0 hR)
theorem e14_21 : rf d 14 21 [some (.ref a), l1, l2] s h = rf d 14 22 [some (.ref a), l1, l2] (.ref a :: s) h := rf_pure (i := .aload_n 0) (len := 1) (okD_ok (by decide +kernel)) rfl
theorem e14_22 : rf d 14 22 ls (.ref 2 :: s) (SH n, I, L, R, nc, ns, nx) = rf d 14 25 ls (.int (I 2 1) :: s) (SH n, I, L, R, nc, ns, nx) := g_I (idx := 13) (by decide +kernel) ow14 f_7_13 rfl rfl (by decide)
theorem e14_25 : rf d 14 25 [l0, some (.int x), l2] s h = rf d 14 26 [l0, some (.int x), l2] (.int x :: s) h := rf_pure (i := .iload_n 1) (len := 1) (okD_ok (by decide +kernel)) rfl
theorem e14_26 : rf d 14 26 [l0, l1, some (.int x)] s h = rf d 14 27 [l0, l1, some (.int x)] (.int x :: s) h := rf_pure (i := .iload_n 2) (len := 1) (okD_ok (by decide +kernel)) rfl
theorem e14_27 : rf d 14 27 ls (.int y :: .int x :: s) h = rf d 14 28 ls (.int ((x.toUInt32 >>> (y.toUInt32 &&& Int32.toUInt32 31)).toInt32) :: s) h := rf_pure (i := .iushr) (len := 1) (okD_ok (by decide +kernel)) rfl
theorem e14_28 : rf d 14 28 ls s h = rf d 14 31 ls (.int 255 :: s) h := rf_pure (i := .sipush (255)) (len := 3) (okD_ok (by decide +kernel)) rfl
theorem e14_31 : rf d 14 31 ls (.int y :: .int x :: s) h = rf d 14 32 ls (.int (x &&& y) :: s) h := rf_pure (i := .iand) (len := 1) (okD_ok (by decide +kernel)) rfl
theorem e14_32 (q : ia n a j) : rf d 14 32 ls (.int x :: .int j :: .ref a :: s) (SH n, I, L, R, nc, ns, nx) = rf d 14 33 ls s (SH n, ip_up I a j.toNatClampNeg x, L, R, nc, ns, nx) := g_ias (by decide +kernel) q
theorem e14_33 : rf d 14 33 [some (.ref a), l1, l2] s h = rf d 14 34 [some (.ref a), l1, l2] (.ref a :: s) h := rf_pure (i := .aload_n 0) (len := 1) (okD_ok (by decide +kernel)) rfl
theorem e14_34 : rf d 14 34 ls (.int x :: s) h = rf d 14 35 ls (.int x :: .int x :: s) h := rf_pure (i := .dup) (len := 1) (okD_ok (by decide +kernel)) rfl
theorem e14_34r : rf d 14 34 ls (.ref a :: s) h = rf d 14 35 ls (.ref a :: .ref a :: s) h := rf_pure (i := .dup) (len := 1) (okD_ok (by decide +kernel)) rfl
theorem e14_35 : rf d 14 35 ls (.ref 2 :: s) (SH n, I, L, R, nc, ns, nx) = rf d 14 38 ls (.int (I 2 1) :: s) (SH n, I, L, R, nc, ns, nx) := g_I (idx := 13) (by decide +kernel) ow14 f_7_13 rfl rfl (by decide)
theorem e14_38 : rf d 14 38 ls s h = rf d 14 39 ls (.int 1 :: s) h := rf_pure (i := .iconst (1)) (len := 1) (okD_ok (by decide +kernel)) rfl
theorem e14_39 : rf d 14 39 ls (.int y :: .int x :: s) h = rf d 14 40 ls (.int (x + y) :: s) h := rf_pure (i := .iadd) (len := 1) (okD_ok (by decide +kernel)) rfl
theorem e14_40 : rf d 14 40 ls (.int x :: .ref 2 :: s) (SH n, I, L, R, nc, ns, nx) = rf d 14 43 ls s (SH n, ip_up I 2 1 x, L, R, nc, ns, nx) := g_pI (idx := 13) (by decide +kernel) ow14 f_7_13 rfl (by decide +kernel) rfl (by decide)
theorem e14_43 (hn : ip_nl l1 = true) : rf d 14 43 [l0, l1, some (.int x)] s h = rf d 14 46 [l0, l1, some (.int (x + (-8)))] s h := g_inc (q := 1) (z := -8) (w := (-8)) (x := x) (by decide) (by decide +kernel) rfl rfl hn
theorem e14_46 : rf d 14 46 ls s h = rf d 14 3 ls s h := rf_goto ⟨okD_ok (i := .goto (-43)) (len := 3) (by decide +kernel), rfl⟩
theorem e14_49 : rf d 14 49 ls [] h = some (.inl none, h) := g_rv (by decide +kernel) rt14
theorem en15 : cf d 15 [.ref a, .int x0] h = rf d 15 0 [some (.ref a), some (.int x0)] [] h := rfl
theorem e15_0 : rf d 15 0 [l0, some (.int x)] s h = rf d 15 1 [l0, some (.int x)] (.int x :: s) h := rf_pure (i := .iload_n 1) (len := 1) (okD_ok (by decide +kernel)) rfl
theorem e15_1 : rf d 15 1 ls (.int x :: s) h = if x < 0 then rf d 15 12 ls s h else rf d 15 4 ls s h := g_if (c := .lt) (off := 11) _ (by decide +kernel) rfl cmp_d
theorem e15_4 : rf d 15 4 [l0, some (.int x)] s h = rf d 15 5 [l0, some (.int x)] (.int x :: s) h := rf_pure (i := .iload_n 1) (len := 1) (okD_ok (by decide +kernel)) rfl
theorem e15_5 : rf d 15 5 [some (.ref a), l1] s h = rf d 15 6 [some (.ref a), l1] (.ref a :: s) h := rf_pure (i := .aload_n 0) (len := 1) (okD_ok (by decide +kernel)) rfl
theorem e15_6 : rf d 15 6 ls (.ref 2 :: s) (SH n, I, L, R, nc, ns, nx) = rf d 15 9 ls (.int (I 2 1) :: s) (SH n, I, L, R, nc, ns, nx) := g_I (idx := 13) (by decide +kernel) ow15 f_7_13 rfl rfl (by decide)
theorem e15_9 : rf d 15 9 ls (.int y :: .int x :: s) h = if x ≤ y then rf d 15 14 ls s h else rf d 15 12 ls s h := g_ic (c := .le) (off := 5) _ (by decide +kernel) rfl cmp_d
theorem e15_12 : rf d 15 12 ls s h = rf d 15 13 ls (.int 0 :: s) h := rf_pure (i := .iconst (0)) (len := 1) (okD_ok (by decide +kernel)) rfl
theorem e15_13 (hx : x = 0 ∨ x = 1) : rf d 15 13 ls [.int x] h = some (.inl (some (.int x)), h) := g_rz (by decide +kernel) rt15 hx
theorem e15_14 : rf d 15 14 [some (.ref a), l1] s h = rf d 15 15 [some (.ref a), l1] (.ref a :: s) h := rf_pure (i := .aload_n 0) (len := 1) (okD_ok (by decide +kernel)) rfl
theorem e15_15 : rf d 15 15 [l0, some (.int x)] s h = rf d 15 16 [l0, some (.int x)] (.int x :: s) h := rf_pure (i := .iload_n 1) (len := 1) (okD_ok (by decide +kernel)) rfl
theorem e15_16 : rf d 15 16 ls (.int x :: .ref 2 :: s) (SH n, I, L, R, nc, ns, nx) = rf d 15 19 ls s (SH n, ip_up I 2 1 x, L, R, nc, ns, nx) := g_pI (idx := 13) (by decide +kernel) ow15 f_7_13 rfl (by decide +kernel) rfl (by decide)
theorem e15_19 : rf d 15 19 ls s h = rf d 15 20 ls (.int 1 :: s) h := rf_pure (i := .iconst (1)) (len := 1) (okD_ok (by decide +kernel)) rfl
theorem e15_20 (hx : x = 0 ∨ x = 1) : rf d 15 20 ls [.int x] h = some (.inl (some (.int x)), h) := g_rz (by decide +kernel) rt15 hx
theorem en16 : cf d 16 [.ref a] h = rf d 16 0 [some (.ref a)] [] h := rfl
theorem e16_0 : rf d 16 0 [some (.ref a)] s h = rf d 16 1 [some (.ref a)] (.ref a :: s) h := rf_pure (i := .aload_n 0) (len := 1) (okD_ok (by decide +kernel)) rfl
theorem e16_1 : rf d 16 1 ls (.ref 2 :: s) (SH n, I, L, R, nc, ns, nx) = rf d 16 4 ls (.int (I 2 2) :: s) (SH n, I, L, R, nc, ns, nx) := g_I (idx := 17) (by decide +kernel) ow16 f_7_17 rfl rfl (by decide)
theorem e16_4 : rf d 16 4 ls [.int x] h = some (.inl (some (.int x)), h) := g_ri (by decide +kernel) rt16
theorem en17 : cf d 17 [.ref a, .int x0] h = rf d 17 0 [some (.ref a), some (.int x0), none, none, none, none, none, none, none] [] h := rfl
theorem e17_0 : rf d 17 0 [some (.ref a), l1, l2, l3, l4, l5, l6, l7, l8] s h = rf d 17 1 [some (.ref a), l1, l2, l3, l4, l5, l6, l7, l8] (.ref a :: s) h := rf_pure (i := .aload_n 0) (len := 1) (okD_ok (by decide +kernel)) rfl
theorem e17_1 (hR : LYR R) : rf d 17 1 ls (.ref 2 :: s) (SH n, I, L, R, nc, ns, nx) = rf d 17 4 ls (.ref 23 :: s) (SH n, I, L, R, nc, ns, nx) := g_R (idx := 36) (by decide +kernel) ow17 f_7_36 rfl rfl (by decide) (ly_2_5 hR)
theorem e17_4 : rf d 17 4 [some (.ref a), l1, l2, l3, l4, l5, l6, l7, l8] s h = rf d 17 5 [some (.ref a), l1, l2, l3, l4, l5, l6, l7, l8] (.ref a :: s) h := rf_pure (i := .aload_n 0) (len := 1) (okD_ok (by decide +kernel)) rfl
theorem e17_5 : rf d 17 5 ls (.ref 2 :: s) (SH n, I, L, R, nc, ns, nx) = rf d 17 8 ls (.int (I 2 7) :: s) (SH n, I, L, R, nc, ns, nx) := g_I (idx := 43) (by decide +kernel) ow17 f_7_43 rfl rfl (by decide)
theorem e17_8 (hR : LYR R) (q : inb j 40) : rf d 17 8 ls (.int j :: .ref 23 :: s) (SH n, I, L, R, nc, ns, nx) = rf d 17 9 ls (.ref (nd j) :: s) (SH n, I, L, R, nc, ns, nx) := g_aal (by decide +kernel) hR q
theorem e17_9 (hn : ip_nl l1 = true) : rf d 17 9 [l0, l1, l2, l3, l4, l5, l6, l7, l8] (.ref a :: s) h = rf d 17 10 [l0, l1, some (.ref a), l3, l4, l5, l6, l7, l8] s h := g_sta (i := .astore_n 2) (len := 1) (q := 1) (p := 1) (by decide +kernel) rfl rfl hn
theorem e17_10 : rf d 17 10 [some (.ref a), l1, l2, l3, l4, l5, l6, l7, l8] s h = rf d 17 11 [some (.ref a), l1, l2, l3, l4, l5, l6, l7, l8] (.ref a :: s) h := rf_pure (i := .aload_n 0) (len := 1) (okD_ok (by decide +kernel)) rfl
theorem e17_11 : rf d 17 11 ls (.ref 2 :: s) (SH n, I, L, R, nc, ns, nx) = rf d 17 14 ls (ip_rf (R 2 4) :: s) (SH n, I, L, R, nc, ns, nx) := g_R (idx := 30) (by decide +kernel) ow17 f_7_30 rfl rfl (by decide) rfl
theorem e17_14 : rf d 17 14 [l0, l1, some (.ref a), l3, l4, l5, l6, l7, l8] s h = rf d 17 15 [l0, l1, some (.ref a), l3, l4, l5, l6, l7, l8] (.ref a :: s) h := rf_pure (i := .aload_n 2) (len := 1) (okD_ok (by decide +kernel)) rfl
theorem e17_15 (ha : isN a) : rf d 17 15 ls (.ref a :: s) (SH n, I, L, R, nc, ns, nx) = rf d 17 18 ls (.int (I a 4) :: s) (SH n, I, L, R, nc, ns, nx) := g_I (idx := 265) (by decide +kernel) ow17 f_7_265 rfl (kdN0 ha) (geN ha)
theorem e17_18 : rf d 17 18 [l0, l1, some (.ref a), l3, l4, l5, l6, l7, l8] s h = rf d 17 19 [l0, l1, some (.ref a), l3, l4, l5, l6, l7, l8] (.ref a :: s) h := rf_pure (i := .aload_n 2) (len := 1) (okD_ok (by decide +kernel)) rfl
theorem e17_19 (ha : isN a) : rf d 17 19 ls (.ref a :: s) (SH n, I, L, R, nc, ns, nx) = rf d 17 22 ls (.int (I a 6) :: s) (SH n, I, L, R, nc, ns, nx) := g_I (idx := 144) (by decide +kernel) ow17 f_7_144 rfl (kdN0 ha) (geN ha)
theorem e17_22 (hb : isT b) (hcat : ip_cat s ≤ 8) : rf (d + 1) 17 22 ls (.int x1 :: .int x0 :: .ref b :: s) (SH n, I, L, R, nc, ns, nx) = rf_k (d + 1) 17 22 ls s (cf d 18 [.ref b, .int x0, .int x1] (SH n, I, L, R, nc, ns, nx)) := g_cv (idx := 268) (t := 6) [.int x1, .int x0] (by decide +kernel) ow17 ms_7_268 mt_7_268 cy18_6 rfl rfl mL18 rfl (kdT0 hb) (geT hb) hcat
theorem e17_25 (hn : ip_nl l2 = true) : rf d 17 25 [l0, l1, l2, l3, l4, l5, l6, l7, l8] (.int x :: s) h = rf d 17 26 [l0, l1, l2, some (.int x), l4, l5, l6, l7, l8] s h := g_sti (i := .istore_n 3) (len := 1) (q := 2) (p := 1) (by decide +kernel) rfl rfl hn
theorem e17_26 : rf d 17 26 [l0, l1, l2, some (.int x), l4, l5, l6, l7, l8] s h = rf d 17 27 [l0, l1, l2, some (.int x), l4, l5, l6, l7, l8] (.int x :: s) h := rf_pure (i := .iload_n 3) (len := 1) (okD_ok (by decide +kernel)) rfl
theorem e17_27 : rf d 17 27 ls s h = rf d 17 28 ls (.int (-1) :: s) h := rf_pure (i := .iconst (-1)) (len := 1) (okD_ok (by decide +kernel)) rfl
theorem e17_28 : rf d 17 28 ls (.int y :: .int x :: s) h = if ¬ x = y then rf d 17 33 ls s h else rf d 17 31 ls s h := g_ic (c := .ne) (off := 5) _ (by decide +kernel) rfl cmp_d
theorem e17_31 : rf d 17 31 ls s h = rf d 17 32 ls (.int (-1) :: s) h := rf_pure (i := .iconst (-1)) (len := 1) (okD_ok (by decide +kernel)) rfl
theorem e17_32 : rf d 17 32 ls [.int x] h = some (.inl (some (.int x)), h) := g_ri (by decide +kernel) rt17
theorem e17_33 : rf d 17 33 [some (.ref a), l1, l2, l3, l4, l5, l6, l7, l8] s h = rf d 17 34 [some (.ref a), l1, l2, l3, l4, l5, l6, l7, l8] (.ref a :: s) h := rf_pure (i := .aload_n 0) (len := 1) (okD_ok (by decide +kernel)) rfl
theorem e17_34 : rf d 17 34 ls (.ref 2 :: s) (SH n, I, L, R, nc, ns, nx) = rf d 17 37 ls (ip_rf (R 2 4) :: s) (SH n, I, L, R, nc, ns, nx) := g_R (idx := 30) (by decide +kernel) ow17 f_7_30 rfl rfl (by decide) rfl
theorem e17_37 (hb : isT b) (hcat : ip_cat s ≤ 8) : rf (d + 1) 17 37 ls (.ref b :: s) (SH n, I, L, R, nc, ns, nx) = rf_k (d + 1) 17 37 ls s (cf d 10 [.ref b] (SH n, I, L, R, nc, ns, nx)) := g_cv (idx := 71) (t := 6) [] (by decide +kernel) ow17 ms_7_71 mt_7_71 cy10_6 rfl rfl mL10 rfl (kdT0 hb) (geT hb) hcat
theorem e17_40 : rf d 17 40 [l0, l1, some (.ref a), l3, l4, l5, l6, l7, l8] s h = rf d 17 41 [l0, l1, some (.ref a), l3, l4, l5, l6, l7, l8] (.ref a :: s) h := rf_pure (i := .aload_n 2) (len := 1) (okD_ok (by decide +kernel)) rfl
theorem e17_41 (ha : isN a) : rf d 17 41 ls (.ref a :: s) (SH n, I, L, R, nc, ns, nx) = rf d 17 44 ls (.int (I a 6) :: s) (SH n, I, L, R, nc, ns, nx) := g_I (idx := 144) (by decide +kernel) ow17 f_7_144 rfl (kdN0 ha) (geN ha)
theorem e17_44 : rf d 17 44 ls s h = rf d 17 45 ls (.int (-1) :: s) h := rf_pure (i := .iconst (-1)) (len := 1) (okD_ok (by decide +kernel)) rfl
theorem e17_45 : rf d 17 45 ls (.int y :: .int x :: s) h = rf d 17 46 ls (.int (x ^^^ y) :: s) h := rf_pure (i := .ixor) (len := 1) (okD_ok (by decide +kernel)) rfl
theorem e17_46 : rf d 17 46 ls (.int y :: .int x :: s) h = rf d 17 47 ls (.int (x &&& y) :: s) h := rf_pure (i := .iand) (len := 1) (okD_ok (by decide +kernel)) rfl
theorem e17_47 (hn : ip_nl l3 = true) : rf d 17 47 [l0, l1, l2, l3, l4, l5, l6, l7, l8] (.int x :: s) h = rf d 17 49 [l0, l1, l2, l3, some (.int x), l5, l6, l7, l8] s h := g_sti (i := .istore 4) (len := 2) (q := 3) (p := 2) (by decide +kernel) rfl rfl hn
theorem e17_49 : rf d 17 49 ls s h = rf d 17 50 ls (.int (-1) :: s) h := rf_pure (i := .iconst (-1)) (len := 1) (okD_ok (by decide +kernel)) rfl
theorem e17_50 (hn : ip_nl l4 = true) : rf d 17 50 [l0, l1, l2, l3, l4, l5, l6, l7, l8] (.int x :: s) h = rf d 17 52 [l0, l1, l2, l3, l4, some (.int x), l6, l7, l8] s h := g_sti (i := .istore 5) (len := 2) (q := 4) (p := 2) (by decide +kernel) rfl rfl hn
theorem e17_52 : rf d 17 52 ls s h = rf d 17 53 ls (.int 0 :: s) h := rf_pure (i := .iconst (0)) (len := 1) (okD_ok (by decide +kernel)) rfl
theorem e17_53 (hn : ip_nl l5 = true) : rf d 17 53 [l0, l1, l2, l3, l4, l5, l6, l7, l8] (.int x :: s) h = rf d 17 55 [l0, l1, l2, l3, l4, l5, some (.int x), l7, l8] s h := g_sti (i := .istore 6) (len := 2) (q := 5) (p := 2) (by decide +kernel) rfl rfl hn
theorem e17_55 : rf d 17 55 ls s h = rf d 17 56 ls (.int 0 :: s) h := rf_pure (i := .iconst (0)) (len := 1) (okD_ok (by decide +kernel)) rfl
theorem e17_56 (hn : ip_nl l6 = true) : rf d 17 56 [l0, l1, l2, l3, l4, l5, l6, l7, l8] (.int x :: s) h = rf d 17 58 [l0, l1, l2, l3, l4, l5, l6, some (.int x), l8] s h := g_sti (i := .istore 7) (len := 2) (q := 6) (p := 2) (by decide +kernel) rfl rfl hn
theorem e17_58 : rf d 17 58 [l0, l1, l2, l3, l4, l5, l6, some (.int x), l8] s h = rf d 17 60 [l0, l1, l2, l3, l4, l5, l6, some (.int x), l8] (.int x :: s) h := rf_pure (i := .iload 7) (len := 2) (okD_ok (by decide +kernel)) rfl
theorem e17_60 : rf d 17 60 ls s h = rf d 17 61 ls (.int 1 :: s) h := rf_pure (i := .iconst (1)) (len := 1) (okD_ok (by decide +kernel)) rfl
theorem e17_61 : rf d 17 61 [l0, l1, l2, l3, some (.int x), l5, l6, l7, l8] s h = rf d 17 63 [l0, l1, l2, l3, some (.int x), l5, l6, l7, l8] (.int x :: s) h := rf_pure (i := .iload 4) (len := 2) (okD_ok (by decide +kernel)) rfl
theorem e17_63 (hcat : ip_cat s ≤ 8) : rf (d + 1) 17 63 ls (.int x0 :: s) h = rf_k (d + 1) 17 63 ls s (cf d 19 [.int x0] h) := g_cs (idx := 156) [.int x0] (by decide +kernel) ow17 ms_7_156 mt_7_156 (by decide) rfl mL19 rfl hcat
theorem e17_66 : rf d 17 66 ls (.int y :: .int x :: s) h = rf d 17 67 ls (.int (x <<< (y &&& 31)) :: s) h := rf_pure (i := .ishl) (len := 1) (okD_ok (by decide +kernel)) rfl
theorem e17_67 : rf d 17 67 ls (.int y :: .int x :: s) h = if y ≤ x then rf d 17 144 ls s h else rf d 17 70 ls s h := g_ic (c := .ge) (off := 77) _ (by decide +kernel) rfl cmp_d
theorem e17_70 : rf d 17 70 [some (.ref a), l1, l2, l3, l4, l5, l6, l7, l8] s h = rf d 17 71 [some (.ref a), l1, l2, l3, l4, l5, l6, l7, l8] (.ref a :: s) h := rf_pure (i := .aload_n 0) (len := 1) (okD_ok (by decide +kernel)) rfl
theorem e17_71 : rf d 17 71 ls (.ref 2 :: s) (SH n, I, L, R, nc, ns, nx) = rf d 17 74 ls (ip_rf (R 2 4) :: s) (SH n, I, L, R, nc, ns, nx) := g_R (idx := 30) (by decide +kernel) ow17 f_7_30 rfl rfl (by decide) rfl
theorem e17_74 : rf d 17 74 [l0, l1, some (.ref a), l3, l4, l5, l6, l7, l8] s h = rf d 17 75 [l0, l1, some (.ref a), l3, l4, l5, l6, l7, l8] (.ref a :: s) h := rf_pure (i := .aload_n 2) (len := 1) (okD_ok (by decide +kernel)) rfl
theorem e17_75 (ha : isN a) : rf d 17 75 ls (.ref a :: s) (SH n, I, L, R, nc, ns, nx) = rf d 17 78 ls (.int (I a 4) :: s) (SH n, I, L, R, nc, ns, nx) := g_I (idx := 265) (by decide +kernel) ow17 f_7_265 rfl (kdN0 ha) (geN ha)
theorem e17_78 : rf d 17 78 [l0, l1, l2, l3, l4, l5, some (.int x), l7, l8] s h = rf d 17 80 [l0, l1, l2, l3, l4, l5, some (.int x), l7, l8] (.int x :: s) h := rf_pure (i := .iload 6) (len := 2) (okD_ok (by decide +kernel)) rfl
theorem e17_80 : rf d 17 80 ls (.int y :: .int x :: s) h = rf d 17 81 ls (.int (x ^^^ y) :: s) h := rf_pure (i := .ixor) (len := 1) (okD_ok (by decide +kernel)) rfl
theorem e17_81 : rf d 17 81 [l0, l1, some (.ref a), l3, l4, l5, l6, l7, l8] s h = rf d 17 82 [l0, l1, some (.ref a), l3, l4, l5, l6, l7, l8] (.ref a :: s) h := rf_pure (i := .aload_n 2) (len := 1) (okD_ok (by decide +kernel)) rfl
theorem e17_82 (ha : isN a) : rf d 17 82 ls (.ref a :: s) (SH n, I, L, R, nc, ns, nx) = rf d 17 85 ls (.int (I a 6) :: s) (SH n, I, L, R, nc, ns, nx) := g_I (idx := 144) (by decide +kernel) ow17 f_7_144 rfl (kdN0 ha) (geN ha)
theorem e17_85 (hb : isT b) (hcat : ip_cat s ≤ 8) : rf (d + 1) 17 85 ls (.int x1 :: .int x0 :: .ref b :: s) (SH n, I, L, R, nc, ns, nx) = rf_k (d + 1) 17 85 ls s (cf d 18 [.ref b, .int x0, .int x1] (SH n, I, L, R, nc, ns, nx)) := g_cv (idx := 268) (t := 6) [.int x1, .int x0] (by decide +kernel) ow17 ms_7_268 mt_7_268 cy18_6 rfl rfl mL18 rfl (kdT0 hb) (geT hb) hcat
theorem e17_88 : rf d 17 88 ls s h = rf d 17 89 ls (.int 1 :: s) h := rf_pure (i := .iconst (1)) (len := 1) (okD_ok (by decide +kernel)) rfl
theorem e17_89 : rf d 17 89 [l0, l1, l2, some (.int x), l4, l5, l6, l7, l8] s h = rf d 17 90 [l0, l1, l2, some (.int x), l4, l5, l6, l7, l8] (.int x :: s) h := rf_pure (i := .iload_n 3) (len := 1) (okD_ok (by decide +kernel)) rfl
theorem e17_90 : rf d 17 90 ls (.int y :: .int x :: s) h = rf d 17 91 ls (.int (x - y) :: s) h := rf_pure (i := .isub) (len := 1) (okD_ok (by decide +kernel)) rfl
theorem e17_91 : rf d 17 91 ls (.int y :: .int x :: s) h = if ¬ x = y then rf d 17 98 ls s h else rf d 17 94 ls s h := g_ic (c := .ne) (off := 7) _ (by decide +kernel) rfl cmp_d
theorem e17_94 : rf d 17 94 ls s h = rf d 17 95 ls (.int 1 :: s) h := rf_pure (i := .iconst (1)) (len := 1) (okD_ok (by decide +kernel)) rfl
theorem e17_95 : rf d 17 95 ls s h = rf d 17 99 ls s h := rf_goto ⟨okD_ok (i := .goto (4)) (len := 3) (by decide +kernel), rfl⟩
theorem e17_98 : rf d 17 98 ls s h = rf d 17 99 ls (.int 0 :: s) h := rf_pure (i := .iconst (0)) (len := 1) (okD_ok (by decide +kernel)) rfl
theorem e17_99 (hn : ip_nl l7 = true) : rf d 17 99 [l0, l1, l2, l3, l4, l5, l6, l7, l8] (.int x :: s) h = rf d 17 101 [l0, l1, l2, l3, l4, l5, l6, l7, some (.int x)] s h := g_sti (i := .istore 8) (len := 2) (q := 7) (p := 2) (by decide +kernel) rfl rfl hn
theorem e17_101 : rf d 17 101 [l0, l1, l2, l3, l4, l5, l6, l7, some (.int x)] s h = rf d 17 103 [l0, l1, l2, l3, l4, l5, l6, l7, some (.int x)] (.int x :: s) h := rf_pure (i := .iload 8) (len := 2) (okD_ok (by decide +kernel)) rfl
theorem e17_103 : rf d 17 103 ls (.int x :: s) h = if x = 0 then rf d 17 129 ls s h else rf d 17 106 ls s h := g_if (c := .eq) (off := 26) _ (by decide +kernel) rfl cmp_d
theorem e17_106 : rf d 17 106 [l0, l1, l2, l3, l4, some (.int x), l6, l7, l8] s h = rf d 17 108 [l0, l1, l2, l3, l4, some (.int x), l6, l7, l8] (.int x :: s) h := rf_pure (i := .iload 5) (len := 2) (okD_ok (by decide +kernel)) rfl
theorem e17_108 : rf d 17 108 ls s h = rf d 17 109 ls (.int (-1) :: s) h := rf_pure (i := .iconst (-1)) (len := 1) (okD_ok (by decide +kernel)) rfl
theorem e17_109 : rf d 17 109 ls (.int y :: .int x :: s) h = if x = y then rf d 17 125 ls s h else rf d 17 112 ls s h := g_ic (c := .eq) (off := 16) _ (by decide +kernel) rfl cmp_d
theorem e17_112 : rf d 17 112 [l0, l1, l2, l3, l4, l5, some (.int x), l7, l8] s h = rf d 17 114 [l0, l1, l2, l3, l4, l5, some (.int x), l7, l8] (.int x :: s) h := rf_pure (i := .iload 6) (len := 2) (okD_ok (by decide +kernel)) rfl
theorem e17_114 (hcat : ip_cat s ≤ 8) : rf (d + 1) 17 114 ls (.int x0 :: s) h = rf_k (d + 1) 17 114 ls s (cf d 19 [.int x0] h) := g_cs (idx := 156) [.int x0] (by decide +kernel) ow17 ms_7_156 mt_7_156 (by decide) rfl mL19 rfl hcat
theorem e17_117 : rf d 17 117 [l0, l1, l2, l3, l4, some (.int x), l6, l7, l8] s h = rf d 17 119 [l0, l1, l2, l3, l4, some (.int x), l6, l7, l8] (.int x :: s) h := rf_pure (i := .iload 5) (len := 2) (okD_ok (by decide +kernel)) rfl
theorem e17_119 (hcat : ip_cat s ≤ 8) : rf (d + 1) 17 119 ls (.int x0 :: s) h = rf_k (d + 1) 17 119 ls s (cf d 19 [.int x0] h) := g_cs (idx := 156) [.int x0] (by decide +kernel) ow17 ms_7_156 mt_7_156 (by decide) rfl mL19 rfl hcat
theorem e17_122 : rf d 17 122 ls (.int y :: .int x :: s) h = if y ≤ x then rf d 17 129 ls s h else rf d 17 125 ls s h := g_ic (c := .ge) (off := 7) _ (by decide +kernel) rfl cmp_d
theorem e17_125 : rf d 17 125 [l0, l1, l2, l3, l4, l5, some (.int x), l7, l8] s h = rf d 17 127 [l0, l1, l2, l3, l4, l5, some (.int x), l7, l8] (.int x :: s) h := rf_pure (i := .iload 6) (len := 2) (okD_ok (by decide +kernel)) rfl
theorem e17_127 (hn : ip_nl l4 = true) : rf d 17 127 [l0, l1, l2, l3, l4, l5, l6, l7, l8] (.int x :: s) h = rf d 17 129 [l0, l1, l2, l3, l4, some (.int x), l6, l7, l8] s h := g_sti (i := .istore 5) (len := 2) (q := 4) (p := 2) (by decide +kernel) rfl rfl hn
theorem e17_129 : rf d 17 129 [l0, l1, l2, l3, l4, l5, some (.int x), l7, l8] s h = rf d 17 131 [l0, l1, l2, l3, l4, l5, some (.int x), l7, l8] (.int x :: s) h := rf_pure (i := .iload 6) (len := 2) (okD_ok (by decide +kernel)) rfl
theorem e17_131 : rf d 17 131 [l0, l1, l2, l3, some (.int x), l5, l6, l7, l8] s h = rf d 17 133 [l0, l1, l2, l3, some (.int x), l5, l6, l7, l8] (.int x :: s) h := rf_pure (i := .iload 4) (len := 2) (okD_ok (by decide +kernel)) rfl
theorem e17_133 (hcat : ip_cat s ≤ 8) : rf (d + 1) 17 133 ls (.int x1 :: .int x0 :: s) h = rf_k (d + 1) 17 133 ls s (cf d 20 [.int x0, .int x1] h) := g_cs (idx := 271) [.int x1, .int x0] (by decide +kernel) ow17 ms_7_271 mt_7_271 (by decide) rfl mL20 rfl hcat
theorem e17_136 (hn : ip_nl l5 = true) : rf d 17 136 [l0, l1, l2, l3, l4, l5, l6, l7, l8] (.int x :: s) h = rf d 17 138 [l0, l1, l2, l3, l4, l5, some (.int x), l7, l8] s h := g_sti (i := .istore 6) (len := 2) (q := 5) (p := 2) (by decide +kernel) rfl rfl hn
theorem e17_138 (hn : ip_nl l6 = true) : rf d 17 138 [l0, l1, l2, l3, l4, l5, l6, some (.int x), l8] s h = rf d 17 141 [l0, l1, l2, l3, l4, l5, l6, some (.int (x + 1)), l8] s h := g_inc (q := 6) (z := 1) (w := 1) (x := x) (by decide) (by decide +kernel) rfl rfl hn
theorem e17_141 : rf d 17 141 ls s h = rf d 17 58 ls s h := rf_goto ⟨okD_ok (i := .goto (-83)) (len := 3) (by decide +kernel), rfl⟩
theorem e17_144 : rf d 17 144 [l0, l1, l2, l3, l4, some (.int x), l6, l7, l8] s h = rf d 17 146 [l0, l1, l2, l3, l4, some (.int x), l6, l7, l8] (.int x :: s) h := rf_pure (i := .iload 5) (len := 2) (okD_ok (by decide +kernel)) rfl
theorem e17_146 : rf d 17 146 ls s h = rf d 17 147 ls (.int (-1) :: s) h := rf_pure (i := .iconst (-1)) (len := 1) (okD_ok (by decide +kernel)) rfl
theorem e17_147 : rf d 17 147 ls (.int y :: .int x :: s) h = if x = y then rf d 17 154 ls s h else rf d 17 150 ls s h := g_ic (c := .eq) (off := 7) _ (by decide +kernel) rfl cmp_d
theorem e17_150 : rf d 17 150 [l0, some (.int x), l2, l3, l4, l5, l6, l7, l8] s h = rf d 17 151 [l0, some (.int x), l2, l3, l4, l5, l6, l7, l8] (.int x :: s) h := rf_pure (i := .iload_n 1) (len := 1) (okD_ok (by decide +kernel)) rfl
theorem e17_151 : rf d 17 151 ls (.int x :: s) h = if x = 0 then rf d 17 159 ls s h else rf d 17 154 ls s h := g_if (c := .eq) (off := 8) _ (by decide +kernel) rfl cmp_d
theorem e17_154 : rf d 17 154 [l0, l1, l2, l3, l4, some (.int x), l6, l7, l8] s h = rf d 17 156 [l0, l1, l2, l3, l4, some (.int x), l6, l7, l8] (.int x :: s) h := rf_pure (i := .iload 5) (len := 2) (okD_ok (by decide +kernel)) rfl
theorem e17_156 : rf d 17 156 ls s h = rf d 17 164 ls s h := rf_goto ⟨okD_ok (i := .goto (8)) (len := 3) (by decide +kernel), rfl⟩
theorem e17_159 : rf d 17 159 [l0, l1, l2, l3, l4, some (.int x), l6, l7, l8] s h = rf d 17 161 [l0, l1, l2, l3, l4, some (.int x), l6, l7, l8] (.int x :: s) h := rf_pure (i := .iload 5) (len := 2) (okD_ok (by decide +kernel)) rfl
theorem e17_161 (hcat : ip_cat s ≤ 8) : rf (d + 1) 17 161 ls (.int x0 :: s) h = rf_k (d + 1) 17 161 ls s (cf d 19 [.int x0] h) := g_cs (idx := 156) [.int x0] (by decide +kernel) ow17 ms_7_156 mt_7_156 (by decide) rfl mL19 rfl hcat
theorem e17_164 : rf d 17 164 ls [.int x] h = some (.inl (some (.int x)), h) := g_ri (by decide +kernel) rt17
theorem en18 : cf d 18 [.ref a, .int x0, .int x1] h = rf d 18 0 [some (.ref a), some (.int x0), some (.int x1), none, none, none, none, none, none, none] [] h := rfl
theorem e18_0 : rf d 18 0 [l0, some (.int x), l2, l3, l4, l5, l6, l7, l8, l9] s h = rf d 18 1 [l0, some (.int x), l2, l3, l4, l5, l6, l7, l8, l9] (.int x :: s) h := rf_pure (i := .iload_n 1) (len := 1) (okD_ok (by decide +kernel)) rfl
theorem e18_1 : rf d 18 1 [l0, l1, some (.int x), l3, l4, l5, l6, l7, l8, l9] s h = rf d 18 2 [l0, l1, some (.int x), l3, l4, l5, l6, l7, l8, l9] (.int x :: s) h := rf_pure (i := .iload_n 2) (len := 1) (okD_ok (by decide +kernel)) rfl
theorem e18_2 : rf d 18 2 ls s h = rf d 18 3 ls (.int (-1) :: s) h := rf_pure (i := .iconst (-1)) (len := 1) (okD_ok (by decide +kernel)) rfl
theorem e18_3 : rf d 18 3 ls (.int y :: .int x :: s) h = rf d 18 4 ls (.int (x ^^^ y) :: s) h := rf_pure (i := .ixor) (len := 1) (okD_ok (by decide +kernel)) rfl
theorem e18_4 : rf d 18 4 ls (.int y :: .int x :: s) h = rf d 18 5 ls (.int (x &&& y) :: s) h := rf_pure (i := .iand) (len := 1) (okD_ok (by decide +kernel)) rfl
theorem e18_5 (hn : ip_nl l2 = true) : rf d 18 5 [l0, l1, l2, l3, l4, l5, l6, l7, l8, l9] (.int x :: s) h = rf d 18 6 [l0, l1, l2, some (.int x), l4, l5, l6, l7, l8, l9] s h := g_sti (i := .istore_n 3) (len := 1) (q := 2) (p := 1) (by decide +kernel) rfl rfl hn
theorem e18_6 : rf d 18 6 ls s h = rf d 18 9 ls (.long (-1) :: s) h := g_kl (idx := 53) (by decide +kernel) ow18 kl_6_53
theorem e18_9 (hn : ip_nl l3 = true) : rf d 18 9 [l0, l1, l2, l3, l4, l5, l6, l7, l8, l9] (.long u :: s) h = rf d 18 11 [l0, l1, l2, l3, some (.long u), none, l6, l7, l8, l9] s h := g_stl (i := .lstore 4) (len := 2) (q := 3) (p := 2) (by decide +kernel) rfl rfl hn
theorem e18_11 : rf d 18 11 ls s h = rf d 18 12 ls (.long 0 :: s) h := rf_pure (i := .lconst 0) (len := 1) (okD_ok (by decide +kernel)) rfl
theorem e18_12 (hn : ip_nl l5 = true) : rf d 18 12 [l0, l1, l2, l3, l4, l5, l6, l7, l8, l9] (.long u :: s) h = rf d 18 14 [l0, l1, l2, l3, l4, l5, some (.long u), none, l8, l9] s h := g_stl (i := .lstore 6) (len := 2) (q := 5) (p := 2) (by decide +kernel) rfl rfl hn
theorem e18_14 : rf d 18 14 ls s h = rf d 18 15 ls (.int 0 :: s) h := rf_pure (i := .iconst (0)) (len := 1) (okD_ok (by decide +kernel)) rfl
theorem e18_15 (hn : ip_nl l7 = true) : rf d 18 15 [l0, l1, l2, l3, l4, l5, l6, l7, l8, l9] (.int x :: s) h = rf d 18 17 [l0, l1, l2, l3, l4, l5, l6, l7, some (.int x), l9] s h := g_sti (i := .istore 8) (len := 2) (q := 7) (p := 2) (by decide +kernel) rfl rfl hn
theorem e18_17 : rf d 18 17 [l0, l1, l2, l3, l4, l5, l6, l7, some (.int x), l9] s h = rf d 18 19 [l0, l1, l2, l3, l4, l5, l6, l7, some (.int x), l9] (.int x :: s) h := rf_pure (i := .iload 8) (len := 2) (okD_ok (by decide +kernel)) rfl
theorem e18_19 : rf d 18 19 ls s h = rf d 18 20 ls (.int 4 :: s) h := rf_pure (i := .iconst (4)) (len := 1) (okD_ok (by decide +kernel)) rfl
theorem e18_20 : rf d 18 20 ls (.int y :: .int x :: s) h = if y ≤ x then rf d 18 76 ls s h else rf d 18 23 ls s h := g_ic (c := .ge) (off := 56) _ (by decide +kernel) rfl cmp_d
theorem e18_23 : rf d 18 23 [l0, l1, l2, l3, l4, l5, l6, l7, some (.int x), l9] s h = rf d 18 25 [l0, l1, l2, l3, l4, l5, l6, l7, some (.int x), l9] (.int x :: s) h := rf_pure (i := .iload 8) (len := 2) (okD_ok (by decide +kernel)) rfl
theorem e18_25 : rf d 18 25 ls s h = rf d 18 27 ls (.int 6 :: s) h := rf_pure (i := .bipush (6)) (len := 2) (okD_ok (by decide +kernel)) rfl
theorem e18_27 : rf d 18 27 ls (.int y :: .int x :: s) h = rf d 18 28 ls (.int (x <<< (y &&& 31)) :: s) h := rf_pure (i := .ishl) (len := 1) (okD_ok (by decide +kernel)) rfl
theorem e18_28 : rf d 18 28 [l0, l1, some (.int x), l3, l4, l5, l6, l7, l8, l9] s h = rf d 18 29 [l0, l1, some (.int x), l3, l4, l5, l6, l7, l8, l9] (.int x :: s) h := rf_pure (i := .iload_n 2) (len := 1) (okD_ok (by decide +kernel)) rfl
theorem e18_29 : rf d 18 29 ls s h = rf d 18 30 ls (.int (-1) :: s) h := rf_pure (i := .iconst (-1)) (len := 1) (okD_ok (by decide +kernel)) rfl
theorem e18_30 : rf d 18 30 ls (.int y :: .int x :: s) h = rf d 18 31 ls (.int (x ^^^ y) :: s) h := rf_pure (i := .ixor) (len := 1) (okD_ok (by decide +kernel)) rfl
theorem e18_31 : rf d 18 31 ls (.int y :: .int x :: s) h = rf d 18 32 ls (.int (x &&& y) :: s) h := rf_pure (i := .iand) (len := 1) (okD_ok (by decide +kernel)) rfl
theorem e18_32 (hn : ip_nl l8 = true) : rf d 18 32 [l0, l1, l2, l3, l4, l5, l6, l7, l8, l9] (.int x :: s) h = rf d 18 34 [l0, l1, l2, l3, l4, l5, l6, l7, l8, some (.int x)] s h := g_sti (i := .istore 9) (len := 2) (q := 8) (p := 2) (by decide +kernel) rfl rfl hn
theorem e18_34 : rf d 18 34 [l0, l1, l2, l3, l4, l5, l6, l7, l8, some (.int x)] s h = rf d 18 36 [l0, l1, l2, l3, l4, l5, l6, l7, l8, some (.int x)] (.int x :: s) h := rf_pure (i := .iload 9) (len := 2) (okD_ok (by decide +kernel)) rfl
theorem e18_36 : rf d 18 36 [l0, l1, l2, some (.int x), l4, l5, l6, l7, l8, l9] s h = rf d 18 37 [l0, l1, l2, some (.int x), l4, l5, l6, l7, l8, l9] (.int x :: s) h := rf_pure (i := .iload_n 3) (len := 1) (okD_ok (by decide +kernel)) rfl
theorem e18_37 : rf d 18 37 ls s h = rf d 18 39 ls (.int 6 :: s) h := rf_pure (i := .bipush (6)) (len := 2) (okD_ok (by decide +kernel)) rfl
theorem e18_39 : rf d 18 39 ls (.int y :: .int x :: s) h = rf d 18 40 ls (.int (x >>> (y &&& 31)) :: s) h := rf_pure (i := .ishr) (len := 1) (okD_ok (by decide +kernel)) rfl
theorem e18_40 : rf d 18 40 ls s h = rf d 18 42 ls (.int 6 :: s) h := rf_pure (i := .bipush (6)) (len := 2) (okD_ok (by decide +kernel)) rfl
theorem e18_42 : rf d 18 42 ls (.int y :: .int x :: s) h = rf d 18 43 ls (.int (x <<< (y &&& 31)) :: s) h := rf_pure (i := .ishl) (len := 1) (okD_ok (by decide +kernel)) rfl
theorem e18_43 : rf d 18 43 ls (.int y :: .int x :: s) h = if ¬ x = y then rf d 18 70 ls s h else rf d 18 46 ls s h := g_ic (c := .ne) (off := 27) _ (by decide +kernel) rfl cmp_d
theorem e18_46 : rf d 18 46 [l0, l1, l2, l3, some (.long u), l5, l6, l7, l8, l9] s h = rf d 18 48 [l0, l1, l2, l3, some (.long u), l5, l6, l7, l8, l9] (.long u :: s) h := rf_pure (i := .lload 4) (len := 2) (okD_ok (by decide +kernel)) rfl
theorem e18_48 : rf d 18 48 [some (.ref a), l1, l2, l3, l4, l5, l6, l7, l8, l9] s h = rf d 18 49 [some (.ref a), l1, l2, l3, l4, l5, l6, l7, l8, l9] (.ref a :: s) h := rf_pure (i := .aload_n 0) (len := 1) (okD_ok (by decide +kernel)) rfl
theorem e18_49 (hR : LYR R) (ha : isT a) : rf d 18 49 ls (.ref a :: s) (SH n, I, L, R, nc, ns, nx) = rf d 18 52 ls (.ref (a + 6) :: s) (SH n, I, L, R, nc, ns, nx) := g_R (idx := 29) (by decide +kernel) ow18 f_6_29 rfl (kdT0 ha) (geT ha) (lyT5 hR ha)
theorem e18_52 : rf d 18 52 [l0, l1, l2, l3, l4, l5, l6, l7, some (.int x), l9] s h = rf d 18 54 [l0, l1, l2, l3, l4, l5, l6, l7, some (.int x), l9] (.int x :: s) h := rf_pure (i := .iload 8) (len := 2) (okD_ok (by decide +kernel)) rfl
theorem e18_54 (q : la n a j) : rf d 18 54 ls (.int j :: .ref a :: s) (SH n, I, L, R, nc, ns, nx) = rf d 18 55 ls (.long (L a j.toNatClampNeg) :: s) (SH n, I, L, R, nc, ns, nx) := g_lal (by decide +kernel) q
theorem e18_55 : rf d 18 55 ls (.long v :: .long u :: s) h = rf d 18 56 ls (.long (u &&& v) :: s) h := rf_pure (i := .land) (len := 1) (okD_ok (by decide +kernel)) rfl
theorem e18_56 (hn : ip_nl l3 = true) : rf d 18 56 [l0, l1, l2, l3, l4, l5, l6, l7, l8, l9] (.long u :: s) h = rf d 18 58 [l0, l1, l2, l3, some (.long u), none, l6, l7, l8, l9] s h := g_stl (i := .lstore 4) (len := 2) (q := 3) (p := 2) (by decide +kernel) rfl rfl hn
theorem e18_58 : rf d 18 58 [l0, l1, l2, l3, l4, l5, some (.long u), l7, l8, l9] s h = rf d 18 60 [l0, l1, l2, l3, l4, l5, some (.long u), l7, l8, l9] (.long u :: s) h := rf_pure (i := .lload 6) (len := 2) (okD_ok (by decide +kernel)) rfl
theorem e18_60 : rf d 18 60 [some (.ref a), l1, l2, l3, l4, l5, l6, l7, l8, l9] s h = rf d 18 61 [some (.ref a), l1, l2, l3, l4, l5, l6, l7, l8, l9] (.ref a :: s) h := rf_pure (i := .aload_n 0) (len := 1) (okD_ok (by decide +kernel)) rfl
theorem e18_61 (hR : LYR R) (ha : isT a) : rf d 18 61 ls (.ref a :: s) (SH n, I, L, R, nc, ns, nx) = rf d 18 64 ls (.ref (a + 6) :: s) (SH n, I, L, R, nc, ns, nx) := g_R (idx := 29) (by decide +kernel) ow18 f_6_29 rfl (kdT0 ha) (geT ha) (lyT5 hR ha)
theorem e18_64 : rf d 18 64 [l0, l1, l2, l3, l4, l5, l6, l7, some (.int x), l9] s h = rf d 18 66 [l0, l1, l2, l3, l4, l5, l6, l7, some (.int x), l9] (.int x :: s) h := rf_pure (i := .iload 8) (len := 2) (okD_ok (by decide +kernel)) rfl
theorem e18_66 (q : la n a j) : rf d 18 66 ls (.int j :: .ref a :: s) (SH n, I, L, R, nc, ns, nx) = rf d 18 67 ls (.long (L a j.toNatClampNeg) :: s) (SH n, I, L, R, nc, ns, nx) := g_lal (by decide +kernel) q
theorem e18_67 : rf d 18 67 ls (.long v :: .long u :: s) h = rf d 18 68 ls (.long (u ||| v) :: s) h := rf_pure (i := .lor) (len := 1) (okD_ok (by decide +kernel)) rfl
theorem e18_68 (hn : ip_nl l5 = true) : rf d 18 68 [l0, l1, l2, l3, l4, l5, l6, l7, l8, l9] (.long u :: s) h = rf d 18 70 [l0, l1, l2, l3, l4, l5, some (.long u), none, l8, l9] s h := g_stl (i := .lstore 6) (len := 2) (q := 5) (p := 2) (by decide +kernel) rfl rfl hn
theorem e18_70 (hn : ip_nl l7 = true) : rf d 18 70 [l0, l1, l2, l3, l4, l5, l6, l7, some (.int x), l9] s h = rf d 18 73 [l0, l1, l2, l3, l4, l5, l6, l7, some (.int (x + 1)), l9] s h := g_inc (q := 7) (z := 1) (w := 1) (x := x) (by decide) (by decide +kernel) rfl rfl hn
theorem e18_73 : rf d 18 73 ls s h = rf d 18 17 ls s h := rf_goto ⟨okD_ok (i := .goto (-56)) (len := 3) (by decide +kernel), rfl⟩
theorem e18_76 : rf d 18 76 ls s h = rf d 18 77 ls (.int 0 :: s) h := rf_pure (i := .iconst (0)) (len := 1) (okD_ok (by decide +kernel)) rfl
theorem e18_77 (hn : ip_nl l7 = true) : rf d 18 77 [l0, l1, l2, l3, l4, l5, l6, l7, l8, l9] (.int x :: s) h = rf d 18 79 [l0, l1, l2, l3, l4, l5, l6, l7, some (.int x), l9] s h := g_sti (i := .istore 8) (len := 2) (q := 7) (p := 2) (by decide +kernel) rfl rfl hn
theorem e18_79 : rf d 18 79 [l0, l1, l2, l3, l4, l5, l6, l7, some (.int x), l9] s h = rf d 18 81 [l0, l1, l2, l3, l4, l5, l6, l7, some (.int x), l9] (.int x :: s) h := rf_pure (i := .iload 8) (len := 2) (okD_ok (by decide +kernel)) rfl
theorem e18_81 : rf d 18 81 ls s h = rf d 18 83 ls (.int 6 :: s) h := rf_pure (i := .bipush (6)) (len := 2) (okD_ok (by decide +kernel)) rfl
theorem e18_83 : rf d 18 83 ls (.int y :: .int x :: s) h = if y ≤ x then rf d 18 125 ls s h else rf d 18 86 ls s h := g_ic (c := .ge) (off := 42) _ (by decide +kernel) rfl cmp_d
theorem e18_86 : rf d 18 86 [l0, l1, some (.int x), l3, l4, l5, l6, l7, l8, l9] s h = rf d 18 87 [l0, l1, some (.int x), l3, l4, l5, l6, l7, l8, l9] (.int x :: s) h := rf_pure (i := .iload_n 2) (len := 1) (okD_ok (by decide +kernel)) rfl
theorem e18_87 : rf d 18 87 ls s h = rf d 18 88 ls (.int 1 :: s) h := rf_pure (i := .iconst (1)) (len := 1) (okD_ok (by decide +kernel)) rfl
theorem e18_88 : rf d 18 88 [l0, l1, l2, l3, l4, l5, l6, l7, some (.int x), l9] s h = rf d 18 90 [l0, l1, l2, l3, l4, l5, l6, l7, some (.int x), l9] (.int x :: s) h := rf_pure (i := .iload 8) (len := 2) (okD_ok (by decide +kernel)) rfl
theorem e18_90 : rf d 18 90 ls (.int y :: .int x :: s) h = rf d 18 91 ls (.int (x <<< (y &&& 31)) :: s) h := rf_pure (i := .ishl) (len := 1) (okD_ok (by decide +kernel)) rfl
theorem e18_91 : rf d 18 91 ls (.int y :: .int x :: s) h = rf d 18 92 ls (.int (x &&& y) :: s) h := rf_pure (i := .iand) (len := 1) (okD_ok (by decide +kernel)) rfl
theorem e18_92 : rf d 18 92 ls (.int x :: s) h = if x = 0 then rf d 18 119 ls s h else rf d 18 95 ls s h := g_if (c := .eq) (off := 27) _ (by decide +kernel) rfl cmp_d
theorem e18_95 : rf d 18 95 [l0, l1, l2, l3, some (.long u), l5, l6, l7, l8, l9] s h = rf d 18 97 [l0, l1, l2, l3, some (.long u), l5, l6, l7, l8, l9] (.long u :: s) h := rf_pure (i := .lload 4) (len := 2) (okD_ok (by decide +kernel)) rfl
theorem e18_97 : rf d 18 97 [l0, l1, l2, l3, some (.long u), l5, l6, l7, l8, l9] s h = rf d 18 99 [l0, l1, l2, l3, some (.long u), l5, l6, l7, l8, l9] (.long u :: s) h := rf_pure (i := .lload 4) (len := 2) (okD_ok (by decide +kernel)) rfl
theorem e18_99 : rf d 18 99 ls s h = rf d 18 100 ls (.int 1 :: s) h := rf_pure (i := .iconst (1)) (len := 1) (okD_ok (by decide +kernel)) rfl
theorem e18_100 : rf d 18 100 [l0, l1, l2, l3, l4, l5, l6, l7, some (.int x), l9] s h = rf d 18 102 [l0, l1, l2, l3, l4, l5, l6, l7, some (.int x), l9] (.int x :: s) h := rf_pure (i := .iload 8) (len := 2) (okD_ok (by decide +kernel)) rfl
theorem e18_102 : rf d 18 102 ls (.int y :: .int x :: s) h = rf d 18 103 ls (.int (x <<< (y &&& 31)) :: s) h := rf_pure (i := .ishl) (len := 1) (okD_ok (by decide +kernel)) rfl
theorem e18_103 : rf d 18 103 ls (.int y :: .long u :: s) h = rf d 18 104 ls (.long ((u.toUInt64 >>> (y.toInt64.toUInt64 &&& Int64.toUInt64 63)).toInt64) :: s) h := rf_pure (i := .lushr) (len := 1) (okD_ok (by decide +kernel)) rfl
theorem e18_104 : rf d 18 104 ls (.long v :: .long u :: s) h = rf d 18 105 ls (.long (u &&& v) :: s) h := rf_pure (i := .land) (len := 1) (okD_ok (by decide +kernel)) rfl
theorem e18_105 (hn : ip_nl l3 = true) : rf d 18 105 [l0, l1, l2, l3, l4, l5, l6, l7, l8, l9] (.long u :: s) h = rf d 18 107 [l0, l1, l2, l3, some (.long u), none, l6, l7, l8, l9] s h := g_stl (i := .lstore 4) (len := 2) (q := 3) (p := 2) (by decide +kernel) rfl rfl hn
theorem e18_107 : rf d 18 107 [l0, l1, l2, l3, l4, l5, some (.long u), l7, l8, l9] s h = rf d 18 109 [l0, l1, l2, l3, l4, l5, some (.long u), l7, l8, l9] (.long u :: s) h := rf_pure (i := .lload 6) (len := 2) (okD_ok (by decide +kernel)) rfl
theorem e18_109 : rf d 18 109 [l0, l1, l2, l3, l4, l5, some (.long u), l7, l8, l9] s h = rf d 18 111 [l0, l1, l2, l3, l4, l5, some (.long u), l7, l8, l9] (.long u :: s) h := rf_pure (i := .lload 6) (len := 2) (okD_ok (by decide +kernel)) rfl
theorem e18_111 : rf d 18 111 ls s h = rf d 18 112 ls (.int 1 :: s) h := rf_pure (i := .iconst (1)) (len := 1) (okD_ok (by decide +kernel)) rfl
theorem e18_112 : rf d 18 112 [l0, l1, l2, l3, l4, l5, l6, l7, some (.int x), l9] s h = rf d 18 114 [l0, l1, l2, l3, l4, l5, l6, l7, some (.int x), l9] (.int x :: s) h := rf_pure (i := .iload 8) (len := 2) (okD_ok (by decide +kernel)) rfl
theorem e18_114 : rf d 18 114 ls (.int y :: .int x :: s) h = rf d 18 115 ls (.int (x <<< (y &&& 31)) :: s) h := rf_pure (i := .ishl) (len := 1) (okD_ok (by decide +kernel)) rfl
theorem e18_115 : rf d 18 115 ls (.int y :: .long u :: s) h = rf d 18 116 ls (.long ((u.toUInt64 >>> (y.toInt64.toUInt64 &&& Int64.toUInt64 63)).toInt64) :: s) h := rf_pure (i := .lushr) (len := 1) (okD_ok (by decide +kernel)) rfl
theorem e18_116 : rf d 18 116 ls (.long v :: .long u :: s) h = rf d 18 117 ls (.long (u ||| v) :: s) h := rf_pure (i := .lor) (len := 1) (okD_ok (by decide +kernel)) rfl
theorem e18_117 (hn : ip_nl l5 = true) : rf d 18 117 [l0, l1, l2, l3, l4, l5, l6, l7, l8, l9] (.long u :: s) h = rf d 18 119 [l0, l1, l2, l3, l4, l5, some (.long u), none, l8, l9] s h := g_stl (i := .lstore 6) (len := 2) (q := 5) (p := 2) (by decide +kernel) rfl rfl hn
theorem e18_119 (hn : ip_nl l7 = true) : rf d 18 119 [l0, l1, l2, l3, l4, l5, l6, l7, some (.int x), l9] s h = rf d 18 122 [l0, l1, l2, l3, l4, l5, l6, l7, some (.int (x + 1)), l9] s h := g_inc (q := 7) (z := 1) (w := 1) (x := x) (by decide) (by decide +kernel) rfl rfl hn
theorem e18_122 : rf d 18 122 ls s h = rf d 18 79 ls s h := rf_goto ⟨okD_ok (i := .goto (-43)) (len := 3) (by decide +kernel), rfl⟩
theorem e18_125 : rf d 18 125 [l0, l1, l2, some (.int x), l4, l5, l6, l7, l8, l9] s h = rf d 18 126 [l0, l1, l2, some (.int x), l4, l5, l6, l7, l8, l9] (.int x :: s) h := rf_pure (i := .iload_n 3) (len := 1) (okD_ok (by decide +kernel)) rfl
theorem e18_126 : rf d 18 126 ls s h = rf d 18 128 ls (.int 63 :: s) h := rf_pure (i := .bipush (63)) (len := 2) (okD_ok (by decide +kernel)) rfl
theorem e18_128 : rf d 18 128 ls (.int y :: .int x :: s) h = rf d 18 129 ls (.int (x &&& y) :: s) h := rf_pure (i := .iand) (len := 1) (okD_ok (by decide +kernel)) rfl
theorem e18_129 (hn : ip_nl l7 = true) : rf d 18 129 [l0, l1, l2, l3, l4, l5, l6, l7, l8, l9] (.int x :: s) h = rf d 18 131 [l0, l1, l2, l3, l4, l5, l6, l7, some (.int x), l9] s h := g_sti (i := .istore 8) (len := 2) (q := 7) (p := 2) (by decide +kernel) rfl rfl hn
theorem e18_131 : rf d 18 131 [l0, l1, l2, l3, some (.long u), l5, l6, l7, l8, l9] s h = rf d 18 133 [l0, l1, l2, l3, some (.long u), l5, l6, l7, l8, l9] (.long u :: s) h := rf_pure (i := .lload 4) (len := 2) (okD_ok (by decide +kernel)) rfl
theorem e18_133 : rf d 18 133 [l0, l1, l2, l3, l4, l5, l6, l7, some (.int x), l9] s h = rf d 18 135 [l0, l1, l2, l3, l4, l5, l6, l7, some (.int x), l9] (.int x :: s) h := rf_pure (i := .iload 8) (len := 2) (okD_ok (by decide +kernel)) rfl
theorem e18_135 : rf d 18 135 ls (.int y :: .long u :: s) h = rf d 18 136 ls (.long ((u.toUInt64 >>> (y.toInt64.toUInt64 &&& Int64.toUInt64 63)).toInt64) :: s) h := rf_pure (i := .lushr) (len := 1) (okD_ok (by decide +kernel)) rfl
theorem e18_136 : rf d 18 136 ls s h = rf d 18 137 ls (.long 1 :: s) h := rf_pure (i := .lconst 1) (len := 1) (okD_ok (by decide +kernel)) rfl
theorem e18_137 : rf d 18 137 ls (.long v :: .long u :: s) h = rf d 18 138 ls (.long (u &&& v) :: s) h := rf_pure (i := .land) (len := 1) (okD_ok (by decide +kernel)) rfl
theorem e18_138 : rf d 18 138 ls s h = rf d 18 139 ls (.long 0 :: s) h := rf_pure (i := .lconst 0) (len := 1) (okD_ok (by decide +kernel)) rfl
theorem e18_139 : rf d 18 139 ls (.long v :: .long u :: s) h = rf d 18 140 ls (.int (lg_cmp u v) :: s) h := rf_pure (i := .lcmp) (len := 1) (okD_ok (by decide +kernel)) rfl
theorem e18_140 : rf d 18 140 ls (.int x :: s) h = if x = 0 then rf d 18 145 ls s h else rf d 18 143 ls s h := g_if (c := .eq) (off := 5) _ (by decide +kernel) rfl cmp_d
theorem e18_143 : rf d 18 143 ls s h = rf d 18 144 ls (.int 0 :: s) h := rf_pure (i := .iconst (0)) (len := 1) (okD_ok (by decide +kernel)) rfl
theorem e18_144 : rf d 18 144 ls [.int x] h = some (.inl (some (.int x)), h) := g_ri (by decide +kernel) rt18
theorem e18_145 : rf d 18 145 [l0, l1, l2, l3, l4, l5, some (.long u), l7, l8, l9] s h = rf d 18 147 [l0, l1, l2, l3, l4, l5, some (.long u), l7, l8, l9] (.long u :: s) h := rf_pure (i := .lload 6) (len := 2) (okD_ok (by decide +kernel)) rfl
theorem e18_147 : rf d 18 147 [l0, l1, l2, l3, l4, l5, l6, l7, some (.int x), l9] s h = rf d 18 149 [l0, l1, l2, l3, l4, l5, l6, l7, some (.int x), l9] (.int x :: s) h := rf_pure (i := .iload 8) (len := 2) (okD_ok (by decide +kernel)) rfl
theorem e18_149 : rf d 18 149 ls (.int y :: .long u :: s) h = rf d 18 150 ls (.long ((u.toUInt64 >>> (y.toInt64.toUInt64 &&& Int64.toUInt64 63)).toInt64) :: s) h := rf_pure (i := .lushr) (len := 1) (okD_ok (by decide +kernel)) rfl
theorem e18_150 : rf d 18 150 ls s h = rf d 18 151 ls (.long 1 :: s) h := rf_pure (i := .lconst 1) (len := 1) (okD_ok (by decide +kernel)) rfl
theorem e18_151 : rf d 18 151 ls (.long v :: .long u :: s) h = rf d 18 152 ls (.long (u &&& v) :: s) h := rf_pure (i := .land) (len := 1) (okD_ok (by decide +kernel)) rfl
theorem e18_152 : rf d 18 152 ls s h = rf d 18 153 ls (.long 0 :: s) h := rf_pure (i := .lconst 0) (len := 1) (okD_ok (by decide +kernel)) rfl
theorem e18_153 : rf d 18 153 ls (.long v :: .long u :: s) h = rf d 18 154 ls (.int (lg_cmp u v) :: s) h := rf_pure (i := .lcmp) (len := 1) (okD_ok (by decide +kernel)) rfl
theorem e18_154 : rf d 18 154 ls (.int x :: s) h = if ¬ x = 0 then rf d 18 161 ls s h else rf d 18 157 ls s h := g_if (c := .ne) (off := 7) _ (by decide +kernel) rfl cmp_d
theorem e18_157 : rf d 18 157 ls s h = rf d 18 158 ls (.int 1 :: s) h := rf_pure (i := .iconst (1)) (len := 1) (okD_ok (by decide +kernel)) rfl
theorem e18_158 : rf d 18 158 ls s h = rf d 18 162 ls s h := rf_goto ⟨okD_ok (i := .goto (4)) (len := 3) (by decide +kernel), rfl⟩
theorem e18_161 : rf d 18 161 ls s h = rf d 18 162 ls (.int (-1) :: s) h := rf_pure (i := .iconst (-1)) (len := 1) (okD_ok (by decide +kernel)) rfl
theorem e18_162 : rf d 18 162 ls [.int x] h = some (.inl (some (.int x)), h) := g_ri (by decide +kernel) rt18
theorem en19 : cf d 19 [.int x0] h = rf d 19 0 [some (.int x0)] [] h := rfl
theorem e19_0 : rf d 19 0 [some (.int x)] s h = rf d 19 1 [some (.int x)] (.int x :: s) h := rf_pure (i := .iload_n 0) (len := 1) (okD_ok (by decide +kernel)) rfl
theorem e19_1 : rf d 19 1 [some (.int x)] s h = rf d 19 2 [some (.int x)] (.int x :: s) h := rf_pure (i := .iload_n 0) (len := 1) (okD_ok (by decide +kernel)) rfl
theorem e19_2 : rf d 19 2 ls s h = rf d 19 3 ls (.int 1 :: s) h := rf_pure (i := .iconst (1)) (len := 1) (okD_ok (by decide +kernel)) rfl
theorem e19_3 : rf d 19 3 ls (.int y :: .int x :: s) h = rf d 19 4 ls (.int ((x.toUInt32 >>> (y.toUInt32 &&& Int32.toUInt32 31)).toInt32) :: s) h := rf_pure (i := .iushr) (len := 1) (okD_ok (by decide +kernel)) rfl
theorem e19_4 : rf d 19 4 ls s h = rf d 19 7 ls (.int 1431655765 :: s) h := g_ki (idx := 265) (i := .ldc_w 265) (len := 3) (by decide +kernel) rfl rfl ow19 ki_10_265
theorem e19_7 : rf d 19 7 ls (.int y :: .int x :: s) h = rf d 19 8 ls (.int (x &&& y) :: s) h := rf_pure (i := .iand) (len := 1) (okD_ok (by decide +kernel)) rfl
theorem e19_8 : rf d 19 8 ls (.int y :: .int x :: s) h = rf d 19 9 ls (.int (x - y) :: s) h := rf_pure (i := .isub) (len := 1) (okD_ok (by decide +kernel)) rfl
theorem e19_9 : rf d 19 9 [l0] (.int x :: s) h = rf d 19 10 [some (.int x)] s h := rf_pure (i := .istore_n 0) (len := 1) (okD_ok (by decide +kernel)) rfl
theorem e19_10 : rf d 19 10 [some (.int x)] s h = rf d 19 11 [some (.int x)] (.int x :: s) h := rf_pure (i := .iload_n 0) (len := 1) (okD_ok (by decide +kernel)) rfl
theorem e19_11 : rf d 19 11 ls s h = rf d 19 14 ls (.int 858993459 :: s) h := g_ki (idx := 266) (i := .ldc_w 266) (len := 3) (by decide +kernel) rfl rfl ow19 ki_10_266
theorem e19_14 : rf d 19 14 ls (.int y :: .int x :: s) h = rf d 19 15 ls (.int (x &&& y) :: s) h := rf_pure (i := .iand) (len := 1) (okD_ok (by decide +kernel)) rfl
theorem e19_15 : rf d 19 15 [some (.int x)] s h = rf d 19 16 [some (.int x)] (.int x :: s) h := rf_pure (i := .iload_n 0) (len := 1) (okD_ok (by decide +kernel)) rfl
theorem e19_16 : rf d 19 16 ls s h = rf d 19 17 ls (.int 2 :: s) h := rf_pure (i := .iconst (2)) (len := 1) (okD_ok (by decide +kernel)) rfl
theorem e19_17 : rf d 19 17 ls (.int y :: .int x :: s) h = rf d 19 18 ls (.int ((x.toUInt32 >>> (y.toUInt32 &&& Int32.toUInt32 31)).toInt32) :: s) h := rf_pure (i := .iushr) (len := 1) (okD_ok (by decide +kernel)) rfl
theorem e19_18 : rf d 19 18 ls s h = rf d 19 21 ls (.int 858993459 :: s) h := g_ki (idx := 266) (i := .ldc_w 266) (len := 3) (by decide +kernel) rfl rfl ow19 ki_10_266
theorem e19_21 : rf d 19 21 ls (.int y :: .int x :: s) h = rf d 19 22 ls (.int (x &&& y) :: s) h := rf_pure (i := .iand) (len := 1) (okD_ok (by decide +kernel)) rfl
theorem e19_22 : rf d 19 22 ls (.int y :: .int x :: s) h = rf d 19 23 ls (.int (x + y) :: s) h := rf_pure (i := .iadd) (len := 1) (okD_ok (by decide +kernel)) rfl
theorem e19_23 : rf d 19 23 [l0] (.int x :: s) h = rf d 19 24 [some (.int x)] s h := rf_pure (i := .istore_n 0) (len := 1) (okD_ok (by decide +kernel)) rfl
theorem e19_24 : rf d 19 24 [some (.int x)] s h = rf d 19 25 [some (.int x)] (.int x :: s) h := rf_pure (i := .iload_n 0) (len := 1) (okD_ok (by decide +kernel)) rfl
theorem e19_25 : rf d 19 25 [some (.int x)] s h = rf d 19 26 [some (.int x)] (.int x :: s) h := rf_pure (i := .iload_n 0) (len := 1) (okD_ok (by decide +kernel)) rfl
theorem e19_26 : rf d 19 26 ls s h = rf d 19 27 ls (.int 4 :: s) h := rf_pure (i := .iconst (4)) (len := 1) (okD_ok (by decide +kernel)) rfl
theorem e19_27 : rf d 19 27 ls (.int y :: .int x :: s) h = rf d 19 28 ls (.int ((x.toUInt32 >>> (y.toUInt32 &&& Int32.toUInt32 31)).toInt32) :: s) h := rf_pure (i := .iushr) (len := 1) (okD_ok (by decide +kernel)) rfl
theorem e19_28 : rf d 19 28 ls (.int y :: .int x :: s) h = rf d 19 29 ls (.int (x + y) :: s) h := rf_pure (i := .iadd) (len := 1) (okD_ok (by decide +kernel)) rfl
theorem e19_29 : rf d 19 29 ls s h = rf d 19 32 ls (.int 252645135 :: s) h := g_ki (idx := 267) (i := .ldc_w 267) (len := 3) (by decide +kernel) rfl rfl ow19 ki_10_267
theorem e19_32 : rf d 19 32 ls (.int y :: .int x :: s) h = rf d 19 33 ls (.int (x &&& y) :: s) h := rf_pure (i := .iand) (len := 1) (okD_ok (by decide +kernel)) rfl
theorem e19_33 : rf d 19 33 [l0] (.int x :: s) h = rf d 19 34 [some (.int x)] s h := rf_pure (i := .istore_n 0) (len := 1) (okD_ok (by decide +kernel)) rfl
theorem e19_34 : rf d 19 34 [some (.int x)] s h = rf d 19 35 [some (.int x)] (.int x :: s) h := rf_pure (i := .iload_n 0) (len := 1) (okD_ok (by decide +kernel)) rfl
theorem e19_35 : rf d 19 35 [some (.int x)] s h = rf d 19 36 [some (.int x)] (.int x :: s) h := rf_pure (i := .iload_n 0) (len := 1) (okD_ok (by decide +kernel)) rfl
theorem e19_36 : rf d 19 36 ls s h = rf d 19 38 ls (.int 8 :: s) h := rf_pure (i := .bipush (8)) (len := 2) (okD_ok (by decide +kernel)) rfl
theorem e19_38 : rf d 19 38 ls (.int y :: .int x :: s) h = rf d 19 39 ls (.int ((x.toUInt32 >>> (y.toUInt32 &&& Int32.toUInt32 31)).toInt32) :: s) h := rf_pure (i := .iushr) (len := 1) (okD_ok (by decide +kernel)) rfl
theorem e19_39 : rf d 19 39 ls (.int y :: .int x :: s) h = rf d 19 40 ls (.int (x + y) :: s) h := rf_pure (i := .iadd) (len := 1) (okD_ok (by decide +kernel)) rfl
theorem e19_40 : rf d 19 40 [l0] (.int x :: s) h = rf d 19 41 [some (.int x)] s h := rf_pure (i := .istore_n 0) (len := 1) (okD_ok (by decide +kernel)) rfl
theorem e19_41 : rf d 19 41 [some (.int x)] s h = rf d 19 42 [some (.int x)] (.int x :: s) h := rf_pure (i := .iload_n 0) (len := 1) (okD_ok (by decide +kernel)) rfl
theorem e19_42 : rf d 19 42 [some (.int x)] s h = rf d 19 43 [some (.int x)] (.int x :: s) h := rf_pure (i := .iload_n 0) (len := 1) (okD_ok (by decide +kernel)) rfl
theorem e19_43 : rf d 19 43 ls s h = rf d 19 45 ls (.int 16 :: s) h := rf_pure (i := .bipush (16)) (len := 2) (okD_ok (by decide +kernel)) rfl
theorem e19_45 : rf d 19 45 ls (.int y :: .int x :: s) h = rf d 19 46 ls (.int ((x.toUInt32 >>> (y.toUInt32 &&& Int32.toUInt32 31)).toInt32) :: s) h := rf_pure (i := .iushr) (len := 1) (okD_ok (by decide +kernel)) rfl
theorem e19_46 : rf d 19 46 ls (.int y :: .int x :: s) h = rf d 19 47 ls (.int (x + y) :: s) h := rf_pure (i := .iadd) (len := 1) (okD_ok (by decide +kernel)) rfl
theorem e19_47 : rf d 19 47 [l0] (.int x :: s) h = rf d 19 48 [some (.int x)] s h := rf_pure (i := .istore_n 0) (len := 1) (okD_ok (by decide +kernel)) rfl
theorem e19_48 : rf d 19 48 [some (.int x)] s h = rf d 19 49 [some (.int x)] (.int x :: s) h := rf_pure (i := .iload_n 0) (len := 1) (okD_ok (by decide +kernel)) rfl
theorem e19_49 : rf d 19 49 ls s h = rf d 19 51 ls (.int 63 :: s) h := rf_pure (i := .bipush (63)) (len := 2) (okD_ok (by decide +kernel)) rfl
theorem e19_51 : rf d 19 51 ls (.int y :: .int x :: s) h = rf d 19 52 ls (.int (x &&& y) :: s) h := rf_pure (i := .iand) (len := 1) (okD_ok (by decide +kernel)) rfl
theorem e19_52 : rf d 19 52 ls [.int x] h = some (.inl (some (.int x)), h) := g_ri (by decide +kernel) rt19
theorem en20 : cf d 20 [.int x0, .int x1] h = rf d 20 0 [some (.int x0), some (.int x1)] [] h := rfl
theorem e20_0 : rf d 20 0 [some (.int x), l1] s h = rf d 20 1 [some (.int x), l1] (.int x :: s) h := rf_pure (i := .iload_n 0) (len := 1) (okD_ok (by decide +kernel)) rfl
theorem e20_1 : rf d 20 1 [l0, some (.int x)] s h = rf d 20 2 [l0, some (.int x)] (.int x :: s) h := rf_pure (i := .iload_n 1) (len := 1) (okD_ok (by decide +kernel)) rfl
theorem e20_2 : rf d 20 2 ls (.int y :: .int x :: s) h = rf d 20 3 ls (.int (x - y) :: s) h := rf_pure (i := .isub) (len := 1) (okD_ok (by decide +kernel)) rfl
theorem e20_3 : rf d 20 3 [l0, some (.int x)] s h = rf d 20 4 [l0, some (.int x)] (.int x :: s) h := rf_pure (i := .iload_n 1) (len := 1) (okD_ok (by decide +kernel)) rfl
theorem e20_4 : rf d 20 4 ls (.int y :: .int x :: s) h = rf d 20 5 ls (.int (x &&& y) :: s) h := rf_pure (i := .iand) (len := 1) (okD_ok (by decide +kernel)) rfl
theorem e20_5 : rf d 20 5 ls [.int x] h = some (.inl (some (.int x)), h) := g_ri (by decide +kernel) rt20
theorem en21 : cf d 21 [.ref a] h = rf d 21 0 [some (.ref a), none, none, none, none, none, none] [] h := rfl
theorem e21_0 : rf d 21 0 [some (.ref a), l1, l2, l3, l4, l5, l6] s h = rf d 21 1 [some (.ref a), l1, l2, l3, l4, l5, l6] (.ref a :: s) h := rf_pure (i := .aload_n 0) (len := 1) (okD_ok (by decide +kernel)) rfl
theorem e21_1 (hR : LYR R) : rf d 21 1 ls (.ref 2 :: s) (SH n, I, L, R, nc, ns, nx) = rf d 21 4 ls (.ref 23 :: s) (SH n, I, L, R, nc, ns, nx) := g_R (idx := 36) (by decide +kernel) ow21 f_7_36 rfl rfl (by decide) (ly_2_5 hR)
theorem e21_4 : rf d 21 4 [some (.ref a), l1, l2, l3, l4, l5, l6] s h = rf d 21 5 [some (.ref a), l1, l2, l3, l4, l5, l6] (.ref a :: s) h := rf_pure (i := .aload_n 0) (len := 1) (okD_ok (by decide +kernel)) rfl
theorem e21_5 : rf d 21 5 ls (.ref 2 :: s) (SH n, I, L, R, nc, ns, nx) = rf d 21 8 ls (.int (I 2 7) :: s) (SH n, I, L, R, nc, ns, nx) := g_I (idx := 43) (by decide +kernel) ow21 f_7_43 rfl rfl (by decide)
theorem e21_8 (hR : LYR R) (q : inb j 40) : rf d 21 8 ls (.int j :: .ref 23 :: s) (SH n, I, L, R, nc, ns, nx) = rf d 21 9 ls (.ref (nd j) :: s) (SH n, I, L, R, nc, ns, nx) := g_aal (by decide +kernel) hR q
theorem e21_9 (hn : ip_nl l0 = true) : rf d 21 9 [l0, l1, l2, l3, l4, l5, l6] (.ref a :: s) h = rf d 21 10 [l0, some (.ref a), l2, l3, l4, l5, l6] s h := g_sta (i := .astore_n 1) (len := 1) (q := 0) (p := 1) (by decide +kernel) rfl rfl hn
theorem e21_10 : rf d 21 10 [some (.ref a), l1, l2, l3, l4, l5, l6] s h = rf d 21 11 [some (.ref a), l1, l2, l3, l4, l5, l6] (.ref a :: s) h := rf_pure (i := .aload_n 0) (len := 1) (okD_ok (by decide +kernel)) rfl
theorem e21_11 : rf d 21 11 ls (.ref 2 :: s) (SH n, I, L, R, nc, ns, nx) = rf d 21 14 ls (ip_rf (R 2 4) :: s) (SH n, I, L, R, nc, ns, nx) := g_R (idx := 30) (by decide +kernel) ow21 f_7_30 rfl rfl (by decide) rfl
theorem e21_14 : rf d 21 14 [l0, some (.ref a), l2, l3, l4, l5, l6] s h = rf d 21 15 [l0, some (.ref a), l2, l3, l4, l5, l6] (.ref a :: s) h := rf_pure (i := .aload_n 1) (len := 1) (okD_ok (by decide +kernel)) rfl
theorem e21_15 (ha : isN a) : rf d 21 15 ls (.ref a :: s) (SH n, I, L, R, nc, ns, nx) = rf d 21 18 ls (.int (I a 4) :: s) (SH n, I, L, R, nc, ns, nx) := g_I (idx := 265) (by decide +kernel) ow21 f_7_265 rfl (kdN0 ha) (geN ha)
theorem e21_18 : rf d 21 18 [l0, some (.ref a), l2, l3, l4, l5, l6] s h = rf d 21 19 [l0, some (.ref a), l2, l3, l4, l5, l6] (.ref a :: s) h := rf_pure (i := .aload_n 1) (len := 1) (okD_ok (by decide +kernel)) rfl
theorem e21_19 (ha : isN a) : rf d 21 19 ls (.ref a :: s) (SH n, I, L, R, nc, ns, nx) = rf d 21 22 ls (.int (I a 6) :: s) (SH n, I, L, R, nc, ns, nx) := g_I (idx := 144) (by decide +kernel) ow21 f_7_144 rfl (kdN0 ha) (geN ha)
theorem e21_22 (hb : isT b) (hcat : ip_cat s ≤ 8) : rf (d + 1) 21 22 ls (.int x1 :: .int x0 :: .ref b :: s) (SH n, I, L, R, nc, ns, nx) = rf_k (d + 1) 21 22 ls s (cf d 18 [.ref b, .int x0, .int x1] (SH n, I, L, R, nc, ns, nx)) := g_cv (idx := 268) (t := 6) [.int x1, .int x0] (by decide +kernel) ow21 ms_7_268 mt_7_268 cy18_6 rfl rfl mL18 rfl (kdT0 hb) (geT hb) hcat
theorem e21_25 (hn : ip_nl l1 = true) : rf d 21 25 [l0, l1, l2, l3, l4, l5, l6] (.int x :: s) h = rf d 21 26 [l0, l1, some (.int x), l3, l4, l5, l6] s h := g_sti (i := .istore_n 2) (len := 1) (q := 1) (p := 1) (by decide +kernel) rfl rfl hn
theorem e21_26 : rf d 21 26 ls s h = rf d 21 27 ls (.int 0 :: s) h := rf_pure (i := .iconst (0)) (len := 1) (okD_ok (by decide +kernel)) rfl
theorem e21_27 (hn : ip_nl l2 = true) : rf d 21 27 [l0, l1, l2, l3, l4, l5, l6] (.int x :: s) h = rf d 21 28 [l0, l1, l2, some (.int x), l4, l5, l6] s h := g_sti (i := .istore_n 3) (len := 1) (q := 2) (p := 1) (by decide +kernel) rfl rfl hn
theorem e21_28 : rf d 21 28 ls s h = rf d 21 29 ls (.int 0 :: s) h := rf_pure (i := .iconst (0)) (len := 1) (okD_ok (by decide +kernel)) rfl
theorem e21_29 (hn : ip_nl l3 = true) : rf d 21 29 [l0, l1, l2, l3, l4, l5, l6] (.int x :: s) h = rf d 21 31 [l0, l1, l2, l3, some (.int x), l5, l6] s h := g_sti (i := .istore 4) (len := 2) (q := 3) (p := 2) (by decide +kernel) rfl rfl hn
theorem e21_31 : rf d 21 31 [l0, l1, l2, l3, some (.int x), l5, l6] s h = rf d 21 33 [l0, l1, l2, l3, some (.int x), l5, l6] (.int x :: s) h := rf_pure (i := .iload 4) (len := 2) (okD_ok (by decide +kernel)) rfl
theorem e21_33 : rf d 21 33 [some (.ref a), l1, l2, l3, l4, l5, l6] s h = rf d 21 34 [some (.ref a), l1, l2, l3, l4, l5, l6] (.ref a :: s) h := rf_pure (i := .aload_n 0) (len := 1) (okD_ok (by decide +kernel)) rfl
theorem e21_34 : rf d 21 34 ls (.ref 2 :: s) (SH n, I, L, R, nc, ns, nx) = rf d 21 37 ls (ip_rf (R 2 4) :: s) (SH n, I, L, R, nc, ns, nx) := g_R (idx := 30) (by decide +kernel) ow21 f_7_30 rfl rfl (by decide) rfl
theorem e21_37 (ha : isT a) : rf d 21 37 ls (.ref a :: s) (SH n, I, L, R, nc, ns, nx) = rf d 21 40 ls (.int (I a 6) :: s) (SH n, I, L, R, nc, ns, nx) := g_I (idx := 97) (by decide +kernel) ow21 f_7_97 rfl (kdT0 ha) (geT ha)
theorem e21_40 : rf d 21 40 ls (.int y :: .int x :: s) h = if y ≤ x then rf d 21 109 ls s h else rf d 21 43 ls s h := g_ic (c := .ge) (off := 69) _ (by decide +kernel) rfl cmp_d
theorem e21_43 : rf d 21 43 [l0, l1, some (.int x), l3, l4, l5, l6] s h = rf d 21 44 [l0, l1, some (.int x), l3, l4, l5, l6] (.int x :: s) h := rf_pure (i := .iload_n 2) (len := 1) (okD_ok (by decide +kernel)) rfl
theorem e21_44 : rf d 21 44 ls s h = rf d 21 45 ls (.int (-1) :: s) h := rf_pure (i := .iconst (-1)) (len := 1) (okD_ok (by decide +kernel)) rfl
theorem e21_45 : rf d 21 45 ls (.int y :: .int x :: s) h = if x = y then rf d 21 109 ls s h else rf d 21 48 ls s h := g_ic (c := .eq) (off := 64) _ (by decide +kernel) rfl cmp_d
theorem e21_48 : rf d 21 48 ls s h = rf d 21 49 ls (.int 1 :: s) h := rf_pure (i := .iconst (1)) (len := 1) (okD_ok (by decide +kernel)) rfl
theorem e21_49 : rf d 21 49 [l0, l1, l2, l3, some (.int x), l5, l6] s h = rf d 21 51 [l0, l1, l2, l3, some (.int x), l5, l6] (.int x :: s) h := rf_pure (i := .iload 4) (len := 2) (okD_ok (by decide +kernel)) rfl
theorem e21_51 : rf d 21 51 ls (.int y :: .int x :: s) h = rf d 21 52 ls (.int (x <<< (y &&& 31)) :: s) h := rf_pure (i := .ishl) (len := 1) (okD_ok (by decide +kernel)) rfl
theorem e21_52 (hn : ip_nl l4 = true) : rf d 21 52 [l0, l1, l2, l3, l4, l5, l6] (.int x :: s) h = rf d 21 54 [l0, l1, l2, l3, l4, some (.int x), l6] s h := g_sti (i := .istore 5) (len := 2) (q := 4) (p := 2) (by decide +kernel) rfl rfl hn
theorem e21_54 : rf d 21 54 [l0, some (.ref a), l2, l3, l4, l5, l6] s h = rf d 21 55 [l0, some (.ref a), l2, l3, l4, l5, l6] (.ref a :: s) h := rf_pure (i := .aload_n 1) (len := 1) (okD_ok (by decide +kernel)) rfl
theorem e21_55 (ha : isN a) : rf d 21 55 ls (.ref a :: s) (SH n, I, L, R, nc, ns, nx) = rf d 21 58 ls (.int (I a 6) :: s) (SH n, I, L, R, nc, ns, nx) := g_I (idx := 144) (by decide +kernel) ow21 f_7_144 rfl (kdN0 ha) (geN ha)
theorem e21_58 : rf d 21 58 [l0, l1, l2, l3, l4, some (.int x), l6] s h = rf d 21 60 [l0, l1, l2, l3, l4, some (.int x), l6] (.int x :: s) h := rf_pure (i := .iload 5) (len := 2) (okD_ok (by decide +kernel)) rfl
theorem e21_60 : rf d 21 60 ls (.int y :: .int x :: s) h = rf d 21 61 ls (.int (x &&& y) :: s) h := rf_pure (i := .iand) (len := 1) (okD_ok (by decide +kernel)) rfl
theorem e21_61 : rf d 21 61 ls (.int x :: s) h = if ¬ x = 0 then rf d 21 68 ls s h else rf d 21 64 ls s h := g_if (c := .ne) (off := 7) _ (by decide +kernel) rfl cmp_d
theorem e21_64 : rf d 21 64 ls s h = rf d 21 65 ls (.int 1 :: s) h := rf_pure (i := .iconst (1)) (len := 1) (okD_ok (by decide +kernel)) rfl
theorem e21_65 : rf d 21 65 ls s h = rf d 21 69 ls s h := rf_goto ⟨okD_ok (i := .goto (4)) (len := 3) (by decide +kernel), rfl⟩
theorem e21_68 : rf d 21 68 ls s h = rf d 21 69 ls (.int 0 :: s) h := rf_pure (i := .iconst (0)) (len := 1) (okD_ok (by decide +kernel)) rfl
theorem e21_69 (hn : ip_nl l5 = true) : rf d 21 69 [l0, l1, l2, l3, l4, l5, l6] (.int x :: s) h = rf d 21 71 [l0, l1, l2, l3, l4, l5, some (.int x)] s h := g_sti (i := .istore 6) (len := 2) (q := 5) (p := 2) (by decide +kernel) rfl rfl hn
theorem e21_71 : rf d 21 71 [l0, l1, l2, l3, l4, l5, some (.int x)] s h = rf d 21 73 [l0, l1, l2, l3, l4, l5, some (.int x)] (.int x :: s) h := rf_pure (i := .iload 6) (len := 2) (okD_ok (by decide +kernel)) rfl
theorem e21_73 : rf d 21 73 ls (.int x :: s) h = if x = 0 then rf d 21 103 ls s h else rf d 21 76 ls s h := g_if (c := .eq) (off := 30) _ (by decide +kernel) rfl cmp_d
theorem e21_76 : rf d 21 76 [some (.ref a), l1, l2, l3, l4, l5, l6] s h = rf d 21 77 [some (.ref a), l1, l2, l3, l4, l5, l6] (.ref a :: s) h := rf_pure (i := .aload_n 0) (len := 1) (okD_ok (by decide +kernel)) rfl
theorem e21_77 : rf d 21 77 ls (.ref 2 :: s) (SH n, I, L, R, nc, ns, nx) = rf d 21 80 ls (ip_rf (R 2 4) :: s) (SH n, I, L, R, nc, ns, nx) := g_R (idx := 30) (by decide +kernel) ow21 f_7_30 rfl rfl (by decide) rfl
theorem e21_80 : rf d 21 80 [l0, some (.ref a), l2, l3, l4, l5, l6] s h = rf d 21 81 [l0, some (.ref a), l2, l3, l4, l5, l6] (.ref a :: s) h := rf_pure (i := .aload_n 1) (len := 1) (okD_ok (by decide +kernel)) rfl
theorem e21_81 (ha : isN a) : rf d 21 81 ls (.ref a :: s) (SH n, I, L, R, nc, ns, nx) = rf d 21 84 ls (.int (I a 4) :: s) (SH n, I, L, R, nc, ns, nx) := g_I (idx := 265) (by decide +kernel) ow21 f_7_265 rfl (kdN0 ha) (geN ha)
theorem e21_84 : rf d 21 84 [l0, l1, l2, l3, l4, some (.int x), l6] s h = rf d 21 86 [l0, l1, l2, l3, l4, some (.int x), l6] (.int x :: s) h := rf_pure (i := .iload 5) (len := 2) (okD_ok (by decide +kernel)) rfl
theorem e21_86 : rf d 21 86 ls (.int y :: .int x :: s) h = rf d 21 87 ls (.int (x ^^^ y) :: s) h := rf_pure (i := .ixor) (len := 1) (okD_ok (by decide +kernel)) rfl
theorem e21_87 : rf d 21 87 [l0, some (.ref a), l2, l3, l4, l5, l6] s h = rf d 21 88 [l0, some (.ref a), l2, l3, l4, l5, l6] (.ref a :: s) h := rf_pure (i := .aload_n 1) (len := 1) (okD_ok (by decide +kernel)) rfl
theorem e21_88 (ha : isN a) : rf d 21 88 ls (.ref a :: s) (SH n, I, L, R, nc, ns, nx) = rf d 21 91 ls (.int (I a 6) :: s) (SH n, I, L, R, nc, ns, nx) := g_I (idx := 144) (by decide +kernel) ow21 f_7_144 rfl (kdN0 ha) (geN ha)
theorem e21_91 (hb : isT b) (hcat : ip_cat s ≤ 8) : rf (d + 1) 21 91 ls (.int x1 :: .int x0 :: .ref b :: s) (SH n, I, L, R, nc, ns, nx) = rf_k (d + 1) 21 91 ls s (cf d 18 [.ref b, .int x0, .int x1] (SH n, I, L, R, nc, ns, nx)) := g_cv (idx := 268) (t := 6) [.int x1, .int x0] (by decide +kernel) ow21 ms_7_268 mt_7_268 cy18_6 rfl rfl mL18 rfl (kdT0 hb) (geT hb) hcat
theorem e21_94 : rf d 21 94 [l0, l1, some (.int x), l3, l4, l5, l6] s h = rf d 21 95 [l0, l1, some (.int x), l3, l4, l5, l6] (.int x :: s) h := rf_pure (i := .iload_n 2) (len := 1) (okD_ok (by decide +kernel)) rfl
theorem e21_95 : rf d 21 95 ls (.int y :: .int x :: s) h = if ¬ x = y then rf d 21 103 ls s h else rf d 21 98 ls s h := g_ic (c := .ne) (off := 8) _ (by decide +kernel) rfl cmp_d
theorem e21_98 : rf d 21 98 [l0, l1, l2, some (.int x), l4, l5, l6] s h = rf d 21 99 [l0, l1, l2, some (.int x), l4, l5, l6] (.int x :: s) h := rf_pure (i := .iload_n 3) (len := 1) (okD_ok (by decide +kernel)) rfl
theorem e21_99 : rf d 21 99 [l0, l1, l2, l3, l4, some (.int x), l6] s h = rf d 21 101 [l0, l1, l2, l3, l4, some (.int x), l6] (.int x :: s) h := rf_pure (i := .iload 5) (len := 2) (okD_ok (by decide +kernel)) rfl
theorem e21_101 : rf d 21 101 ls (.int y :: .int x :: s) h = rf d 21 102 ls (.int (x ||| y) :: s) h := rf_pure (i := .ior) (len := 1) (okD_ok (by decide +kernel)) rfl
theorem e21_102 (hn : ip_nl l2 = true) : rf d 21 102 [l0, l1, l2, l3, l4, l5, l6] (.int x :: s) h = rf d 21 103 [l0, l1, l2, some (.int x), l4, l5, l6] s h := g_sti (i := .istore_n 3) (len := 1) (q := 2) (p := 1) (by decide +kernel) rfl rfl hn
theorem e21_103 (hn : ip_nl l3 = true) : rf d 21 103 [l0, l1, l2, l3, some (.int x), l5, l6] s h = rf d 21 106 [l0, l1, l2, l3, some (.int (x + 1)), l5, l6] s h := g_inc (q := 3) (z := 1) (w := 1) (x := x) (by decide) (by decide +kernel) rfl rfl hn
theorem e21_106 : rf d 21 106 ls s h = rf d 21 31 ls s h := rf_goto ⟨okD_ok (i := .goto (-75)) (len := 3) (by decide +kernel), rfl⟩
theorem e21_109 : rf d 21 109 [l0, l1, l2, some (.int x), l4, l5, l6] s h = rf d 21 110 [l0, l1, l2, some (.int x), l4, l5, l6] (.int x :: s) h := rf_pure (i := .iload_n 3) (len := 1) (okD_ok (by decide +kernel)) rfl
theorem e21_110 : rf d 21 110 ls [.int x] h = some (.inl (some (.int x)), h) := g_ri (by decide +kernel) rt21
theorem en22 : cf d 22 [.ref a] h = rf d 22 0 [some (.ref a), none, none, none, none] [] h := rfl
theorem e22_0 : rf d 22 0 [some (.ref a), l1, l2, l3, l4] s h = rf d 22 1 [some (.ref a), l1, l2, l3, l4] (.ref a :: s) h := rf_pure (i := .aload_n 0) (len := 1) (okD_ok (by decide +kernel)) rfl
theorem e22_1 (hR : LYR R) : rf d 22 1 ls (.ref 2 :: s) (SH n, I, L, R, nc, ns, nx) = rf d 22 4 ls (.ref 23 :: s) (SH n, I, L, R, nc, ns, nx) := g_R (idx := 36) (by decide +kernel) ow22 f_7_36 rfl rfl (by decide) (ly_2_5 hR)
theorem e22_4 : rf d 22 4 [some (.ref a), l1, l2, l3, l4] s h = rf d 22 5 [some (.ref a), l1, l2, l3, l4] (.ref a :: s) h := rf_pure (i := .aload_n 0) (len := 1) (okD_ok (by decide +kernel)) rfl
theorem e22_5 : rf d 22 5 ls (.ref 2 :: s) (SH n, I, L, R, nc, ns, nx) = rf d 22 8 ls (.int (I 2 7) :: s) (SH n, I, L, R, nc, ns, nx) := g_I (idx := 43) (by decide +kernel) ow22 f_7_43 rfl rfl (by decide)
theorem e22_8 (hR : LYR R) (q : inb j 40) : rf d 22 8 ls (.int j :: .ref 23 :: s) (SH n, I, L, R, nc, ns, nx) = rf d 22 9 ls (.ref (nd j) :: s) (SH n, I, L, R, nc, ns, nx) := g_aal (by decide +kernel) hR q
theorem e22_9 (hn : ip_nl l0 = true) : rf d 22 9 [l0, l1, l2, l3, l4] (.ref a :: s) h = rf d 22 10 [l0, some (.ref a), l2, l3, l4] s h := g_sta (i := .astore_n 1) (len := 1) (q := 0) (p := 1) (by decide +kernel) rfl rfl hn
theorem e22_10 : rf d 22 10 ls s h = rf d 22 11 ls (.int 0 :: s) h := rf_pure (i := .iconst (0)) (len := 1) (okD_ok (by decide +kernel)) rfl
theorem e22_11 (hn : ip_nl l1 = true) : rf d 22 11 [l0, l1, l2, l3, l4] (.int x :: s) h = rf d 22 12 [l0, l1, some (.int x), l3, l4] s h := g_sti (i := .istore_n 2) (len := 1) (q := 1) (p := 1) (by decide +kernel) rfl rfl hn
theorem e22_12 : rf d 22 12 ls s h = rf d 22 13 ls (.int 0 :: s) h := rf_pure (i := .iconst (0)) (len := 1) (okD_ok (by decide +kernel)) rfl
theorem e22_13 (hn : ip_nl l2 = true) : rf d 22 13 [l0, l1, l2, l3, l4] (.int x :: s) h = rf d 22 14 [l0, l1, l2, some (.int x), l4] s h := g_sti (i := .istore_n 3) (len := 1) (q := 2) (p := 1) (by decide +kernel) rfl rfl hn
theorem e22_14 : rf d 22 14 ls s h = rf d 22 15 ls (.int 0 :: s) h := rf_pure (i := .iconst (0)) (len := 1) (okD_ok (by decide +kernel)) rfl
theorem e22_15 (hn : ip_nl l3 = true) : rf d 22 15 [l0, l1, l2, l3, l4] (.int x :: s) h = rf d 22 17 [l0, l1, l2, l3, some (.int x)] s h := g_sti (i := .istore 4) (len := 2) (q := 3) (p := 2) (by decide +kernel) rfl rfl hn
theorem e22_17 : rf d 22 17 [l0, l1, l2, l3, some (.int x)] s h = rf d 22 19 [l0, l1, l2, l3, some (.int x)] (.int x :: s) h := rf_pure (i := .iload 4) (len := 2) (okD_ok (by decide +kernel)) rfl
theorem e22_19 : rf d 22 19 ls s h = rf d 22 20 ls (.int 1 :: s) h := rf_pure (i := .iconst (1)) (len := 1) (okD_ok (by decide +kernel)) rfl
theorem e22_20 : rf d 22 20 [l0, some (.ref a), l2, l3, l4] s h = rf d 22 21 [l0, some (.ref a), l2, l3, l4] (.ref a :: s) h := rf_pure (i := .aload_n 1) (len := 1) (okD_ok (by decide +kernel)) rfl
theorem e22_21 (ha : isN a) : rf d 22 21 ls (.ref a :: s) (SH n, I, L, R, nc, ns, nx) = rf d 22 24 ls (.int (I a 6) :: s) (SH n, I, L, R, nc, ns, nx) := g_I (idx := 144) (by decide +kernel) ow22 f_7_144 rfl (kdN0 ha) (geN ha)
theorem e22_24 (hcat : ip_cat s ≤ 8) : rf (d + 1) 22 24 ls (.int x0 :: s) h = rf_k (d + 1) 22 24 ls s (cf d 19 [.int x0] h) := g_cs (idx := 156) [.int x0] (by decide +kernel) ow22 ms_7_156 mt_7_156 (by decide) rfl mL19 rfl hcat
theorem e22_27 : rf d 22 27 ls (.int y :: .int x :: s) h = rf d 22 28 ls (.int (x <<< (y &&& 31)) :: s) h := rf_pure (i := .ishl) (len := 1) (okD_ok (by decide +kernel)) rfl
theorem e22_28 : rf d 22 28 ls (.int y :: .int x :: s) h = if y ≤ x then rf d 22 66 ls s h else rf d 22 31 ls s h := g_ic (c := .ge) (off := 38) _ (by decide +kernel) rfl cmp_d
theorem e22_31 : rf d 22 31 [l0, l1, some (.int x), l3, l4] s h = rf d 22 32 [l0, l1, some (.int x), l3, l4] (.int x :: s) h := rf_pure (i := .iload_n 2) (len := 1) (okD_ok (by decide +kernel)) rfl
theorem e22_32 : rf d 22 32 [some (.ref a), l1, l2, l3, l4] s h = rf d 22 33 [some (.ref a), l1, l2, l3, l4] (.ref a :: s) h := rf_pure (i := .aload_n 0) (len := 1) (okD_ok (by decide +kernel)) rfl
theorem e22_33 : rf d 22 33 ls (.ref 2 :: s) (SH n, I, L, R, nc, ns, nx) = rf d 22 36 ls (ip_rf (R 2 4) :: s) (SH n, I, L, R, nc, ns, nx) := g_R (idx := 30) (by decide +kernel) ow22 f_7_30 rfl rfl (by decide) rfl
theorem e22_36 : rf d 22 36 [l0, some (.ref a), l2, l3, l4] s h = rf d 22 37 [l0, some (.ref a), l2, l3, l4] (.ref a :: s) h := rf_pure (i := .aload_n 1) (len := 1) (okD_ok (by decide +kernel)) rfl
theorem e22_37 (ha : isN a) : rf d 22 37 ls (.ref a :: s) (SH n, I, L, R, nc, ns, nx) = rf d 22 40 ls (.int (I a 4) :: s) (SH n, I, L, R, nc, ns, nx) := g_I (idx := 265) (by decide +kernel) ow22 f_7_265 rfl (kdN0 ha) (geN ha)
theorem e22_40 : rf d 22 40 [l0, l1, l2, some (.int x), l4] s h = rf d 22 41 [l0, l1, l2, some (.int x), l4] (.int x :: s) h := rf_pure (i := .iload_n 3) (len := 1) (okD_ok (by decide +kernel)) rfl
theorem e22_41 : rf d 22 41 ls (.int y :: .int x :: s) h = rf d 22 42 ls (.int (x ||| y) :: s) h := rf_pure (i := .ior) (len := 1) (okD_ok (by decide +kernel)) rfl
theorem e22_42 : rf d 22 42 [l0, some (.ref a), l2, l3, l4] s h = rf d 22 43 [l0, some (.ref a), l2, l3, l4] (.ref a :: s) h := rf_pure (i := .aload_n 1) (len := 1) (okD_ok (by decide +kernel)) rfl
theorem e22_43 (ha : isN a) : rf d 22 43 ls (.ref a :: s) (SH n, I, L, R, nc, ns, nx) = rf d 22 46 ls (.int (I a 6) :: s) (SH n, I, L, R, nc, ns, nx) := g_I (idx := 144) (by decide +kernel) ow22 f_7_144 rfl (kdN0 ha) (geN ha)
theorem e22_46 (hb : isT b) (hcat : ip_cat s ≤ 8) : rf (d + 1) 22 46 ls (.int x1 :: .int x0 :: .ref b :: s) (SH n, I, L, R, nc, ns, nx) = rf_k (d + 1) 22 46 ls s (cf d 23 [.ref b, .int x0, .int x1] (SH n, I, L, R, nc, ns, nx)) := g_cv (idx := 306) (t := 6) [.int x1, .int x0] (by decide +kernel) ow22 ms_7_306 mt_7_306 cy23_6 rfl rfl mL23 rfl (kdT0 hb) (geT hb) hcat
theorem e22_49 : rf d 22 49 ls (.int y :: .int x :: s) h = rf d 22 50 ls (.int (x ||| y) :: s) h := rf_pure (i := .ior) (len := 1) (okD_ok (by decide +kernel)) rfl
theorem e22_50 (hn : ip_nl l1 = true) : rf d 22 50 [l0, l1, l2, l3, l4] (.int x :: s) h = rf d 22 51 [l0, l1, some (.int x), l3, l4] s h := g_sti (i := .istore_n 2) (len := 1) (q := 1) (p := 1) (by decide +kernel) rfl rfl hn
theorem e22_51 : rf d 22 51 [l0, l1, l2, some (.int x), l4] s h = rf d 22 52 [l0, l1, l2, some (.int x), l4] (.int x :: s) h := rf_pure (i := .iload_n 3) (len := 1) (okD_ok (by decide +kernel)) rfl
theorem e22_52 : rf d 22 52 [l0, some (.ref a), l2, l3, l4] s h = rf d 22 53 [l0, some (.ref a), l2, l3, l4] (.ref a :: s) h := rf_pure (i := .aload_n 1) (len := 1) (okD_ok (by decide +kernel)) rfl
theorem e22_53 (ha : isN a) : rf d 22 53 ls (.ref a :: s) (SH n, I, L, R, nc, ns, nx) = rf d 22 56 ls (.int (I a 6) :: s) (SH n, I, L, R, nc, ns, nx) := g_I (idx := 144) (by decide +kernel) ow22 f_7_144 rfl (kdN0 ha) (geN ha)
theorem e22_56 (hcat : ip_cat s ≤ 8) : rf (d + 1) 22 56 ls (.int x1 :: .int x0 :: s) h = rf_k (d + 1) 22 56 ls s (cf d 20 [.int x0, .int x1] h) := g_cs (idx := 271) [.int x1, .int x0] (by decide +kernel) ow22 ms_7_271 mt_7_271 (by decide) rfl mL20 rfl hcat
theorem e22_59 (hn : ip_nl l2 = true) : rf d 22 59 [l0, l1, l2, l3, l4] (.int x :: s) h = rf d 22 60 [l0, l1, l2, some (.int x), l4] s h := g_sti (i := .istore_n 3) (len := 1) (q := 2) (p := 1) (by decide +kernel) rfl rfl hn
theorem e22_60 (hn : ip_nl l3 = true) : rf d 22 60 [l0, l1, l2, l3, some (.int x)] s h = rf d 22 63 [l0, l1, l2, l3, some (.int (x + 1))] s h := g_inc (q := 3) (z := 1) (w := 1) (x := x) (by decide) (by decide +kernel) rfl rfl hn
theorem e22_63 : rf d 22 63 ls s h = rf d 22 17 ls s h := rf_goto ⟨okD_ok (i := .goto (-46)) (len := 3) (by decide +kernel), rfl⟩
theorem e22_66 : rf d 22 66 [l0, l1, some (.int x), l3, l4] s h = rf d 22 67 [l0, l1, some (.int x), l3, l4] (.int x :: s) h := rf_pure (i := .iload_n 2) (len := 1) (okD_ok (by decide +kernel)) rfl
theorem e22_67 : rf d 22 67 ls [.int x] h = some (.inl (some (.int x)), h) := g_ri (by decide +kernel) rt22
theorem en23 : cf d 23 [.ref a, .int x0, .int x1] h = rf d 23 0 [some (.ref a), some (.int x0), some (.int x1), none, none, none] [] h := rfl
theorem e23_0 : rf d 23 0 [some (.ref a), l1, l2, l3, l4, l5] s h = rf d 23 1 [some (.ref a), l1, l2, l3, l4, l5] (.ref a :: s) h := rf_pure (i := .aload_n 0) (len := 1) (okD_ok (by decide +kernel)) rfl
theorem e23_1 : rf d 23 1 [l0, some (.int x), l2, l3, l4, l5] s h = rf d 23 2 [l0, some (.int x), l2, l3, l4, l5] (.int x :: s) h := rf_pure (i := .iload_n 1) (len := 1) (okD_ok (by decide +kernel)) rfl
theorem e23_2 (hb : isT b) (hcat : ip_cat s ≤ 8) : rf (d + 1) 23 2 ls (.int x0 :: .ref b :: s) (SH n, I, L, R, nc, ns, nx) = rf_k (d + 1) 23 2 ls s (cf d 24 [.ref b, .int x0] (SH n, I, L, R, nc, ns, nx)) := g_cv (idx := 55) (t := 6) [.int x0] (by decide +kernel) ow23 ms_6_55 mt_6_55 cy24_6 rfl rfl mL24 rfl (kdT0 hb) (geT hb) hcat
theorem e23_5 (hn : ip_nl l2 = true) : rf d 23 5 [l0, l1, l2, l3, l4, l5] (.int x :: s) h = rf d 23 6 [l0, l1, l2, some (.int x), l4, l5] s h := g_sti (i := .istore_n 3) (len := 1) (q := 2) (p := 1) (by decide +kernel) rfl rfl hn
theorem e23_6 : rf d 23 6 ls s h = rf d 23 7 ls (.int 0 :: s) h := rf_pure (i := .iconst (0)) (len := 1) (okD_ok (by decide +kernel)) rfl
theorem e23_7 (hn : ip_nl l3 = true) : rf d 23 7 [l0, l1, l2, l3, l4, l5] (.int x :: s) h = rf d 23 9 [l0, l1, l2, l3, some (.int x), l5] s h := g_sti (i := .istore 4) (len := 2) (q := 3) (p := 2) (by decide +kernel) rfl rfl hn
theorem e23_9 : rf d 23 9 ls s h = rf d 23 10 ls (.int 0 :: s) h := rf_pure (i := .iconst (0)) (len := 1) (okD_ok (by decide +kernel)) rfl
theorem e23_10 (hn : ip_nl l4 = true) : rf d 23 10 [l0, l1, l2, l3, l4, l5] (.int x :: s) h = rf d 23 12 [l0, l1, l2, l3, l4, some (.int x)] s h := g_sti (i := .istore 5) (len := 2) (q := 4) (p := 2) (by decide +kernel) rfl rfl hn
theorem e23_12 : rf d 23 12 [l0, l1, l2, l3, l4, some (.int x)] s h = rf d 23 14 [l0, l1, l2, l3, l4, some (.int x)] (.int x :: s) h := rf_pure (i := .iload 5) (len := 2) (okD_ok (by decide +kernel)) rfl
theorem e23_14 : rf d 23 14 [some (.ref a), l1, l2, l3, l4, l5] s h = rf d 23 15 [some (.ref a), l1, l2, l3, l4, l5] (.ref a :: s) h := rf_pure (i := .aload_n 0) (len := 1) (okD_ok (by decide +kernel)) rfl
theorem e23_15 (ha : isT a) : rf d 23 15 ls (.ref a :: s) (SH n, I, L, R, nc, ns, nx) = rf d 23 18 ls (.int (I a 6) :: s) (SH n, I, L, R, nc, ns, nx) := g_I (idx := 36) (by decide +kernel) ow23 f_6_36 rfl (kdT0 ha) (geT ha)
theorem e23_18 : rf d 23 18 ls (.int y :: .int x :: s) h = if y ≤ x then rf d 23 59 ls s h else rf d 23 21 ls s h := g_ic (c := .ge) (off := 41) _ (by decide +kernel) rfl cmp_d
theorem e23_21 : rf d 23 21 [l0, l1, some (.int x), l3, l4, l5] s h = rf d 23 22 [l0, l1, some (.int x), l3, l4, l5] (.int x :: s) h := rf_pure (i := .iload_n 2) (len := 1) (okD_ok (by decide +kernel)) rfl
theorem e23_22 : rf d 23 22 ls s h = rf d 23 23 ls (.int 1 :: s) h := rf_pure (i := .iconst (1)) (len := 1) (okD_ok (by decide +kernel)) rfl
theorem e23_23 : rf d 23 23 [l0, l1, l2, l3, l4, some (.int x)] s h = rf d 23 25 [l0, l1, l2, l3, l4, some (.int x)] (.int x :: s) h := rf_pure (i := .iload 5) (len := 2) (okD_ok (by decide +kernel)) rfl
theorem e23_25 : rf d 23 25 ls (.int y :: .int x :: s) h = rf d 23 26 ls (.int (x <<< (y &&& 31)) :: s) h := rf_pure (i := .ishl) (len := 1) (okD_ok (by decide +kernel)) rfl
theorem e23_26 : rf d 23 26 ls (.int y :: .int x :: s) h = rf d 23 27 ls (.int (x &&& y) :: s) h := rf_pure (i := .iand) (len := 1) (okD_ok (by decide +kernel)) rfl
theorem e23_27 : rf d 23 27 ls (.int x :: s) h = if x = 0 then rf d 23 53 ls s h else rf d 23 30 ls s h := g_if (c := .eq) (off := 26) _ (by decide +kernel) rfl cmp_d
theorem e23_30 : rf d 23 30 [some (.ref a), l1, l2, l3, l4, l5] s h = rf d 23 31 [some (.ref a), l1, l2, l3, l4, l5] (.ref a :: s) h := rf_pure (i := .aload_n 0) (len := 1) (okD_ok (by decide +kernel)) rfl
theorem e23_31 : rf d 23 31 [l0, some (.int x), l2, l3, l4, l5] s h = rf d 23 32 [l0, some (.int x), l2, l3, l4, l5] (.int x :: s) h := rf_pure (i := .iload_n 1) (len := 1) (okD_ok (by decide +kernel)) rfl
theorem e23_32 : rf d 23 32 ls s h = rf d 23 33 ls (.int 1 :: s) h := rf_pure (i := .iconst (1)) (len := 1) (okD_ok (by decide +kernel)) rfl
theorem e23_33 : rf d 23 33 [l0, l1, l2, l3, l4, some (.int x)] s h = rf d 23 35 [l0, l1, l2, l3, l4, some (.int x)] (.int x :: s) h := rf_pure (i := .iload 5) (len := 2) (okD_ok (by decide +kernel)) rfl
theorem e23_35 : rf d 23 35 ls (.int y :: .int x :: s) h = rf d 23 36 ls (.int (x <<< (y &&& 31)) :: s) h := rf_pure (i := .ishl) (len := 1) (okD_ok (by decide +kernel)) rfl
theorem e23_36 : rf d 23 36 ls (.int y :: .int x :: s) h = rf d 23 37 ls (.int (x ^^^ y) :: s) h := rf_pure (i := .ixor) (len := 1) (okD_ok (by decide +kernel)) rfl
theorem e23_37 (hb : isT b) (hcat : ip_cat s ≤ 8) : rf (d + 1) 23 37 ls (.int x0 :: .ref b :: s) (SH n, I, L, R, nc, ns, nx) = rf_k (d + 1) 23 37 ls s (cf d 24 [.ref b, .int x0] (SH n, I, L, R, nc, ns, nx)) := g_cv (idx := 55) (t := 6) [.int x0] (by decide +kernel) ow23 ms_6_55 mt_6_55 cy24_6 rfl rfl mL24 rfl (kdT0 hb) (geT hb) hcat
theorem e23_40 : rf d 23 40 [l0, l1, l2, some (.int x), l4, l5] s h = rf d 23 41 [l0, l1, l2, some (.int x), l4, l5] (.int x :: s) h := rf_pure (i := .iload_n 3) (len := 1) (okD_ok (by decide +kernel)) rfl
theorem e23_41 : rf d 23 41 ls (.int y :: .int x :: s) h = if x = y then rf d 23 53 ls s h else rf d 23 44 ls s h := g_ic (c := .eq) (off := 12) _ (by decide +kernel) rfl cmp_d
theorem e23_44 : rf d 23 44 [l0, l1, l2, l3, some (.int x), l5] s h = rf d 23 46 [l0, l1, l2, l3, some (.int x), l5] (.int x :: s) h := rf_pure (i := .iload 4) (len := 2) (okD_ok (by decide +kernel)) rfl
theorem e23_46 : rf d 23 46 ls s h = rf d 23 47 ls (.int 1 :: s) h := rf_pure (i := .iconst (1)) (len := 1) (okD_ok (by decide +kernel)) rfl
theorem e23_47 : rf d 23 47 [l0, l1, l2, l3, l4, some (.int x)] s h = rf d 23 49 [l0, l1, l2, l3, l4, some (.int x)] (.int x :: s) h := rf_pure (i := .iload 5) (len := 2) (okD_ok (by decide +kernel)) rfl
theorem e23_49 : rf d 23 49 ls (.int y :: .int x :: s) h = rf d 23 50 ls (.int (x <<< (y &&& 31)) :: s) h := rf_pure (i := .ishl) (len := 1) (okD_ok (by decide +kernel)) rfl
theorem e23_50 : rf d 23 50 ls (.int y :: .int x :: s) h = rf d 23 51 ls (.int (x ||| y) :: s) h := rf_pure (i := .ior) (len := 1) (okD_ok (by decide +kernel)) rfl
theorem e23_51 (hn : ip_nl l3 = true) : rf d 23 51 [l0, l1, l2, l3, l4, l5] (.int x :: s) h = rf d 23 53 [l0, l1, l2, l3, some (.int x), l5] s h := g_sti (i := .istore 4) (len := 2) (q := 3) (p := 2) (by decide +kernel) rfl rfl hn
theorem e23_53 (hn : ip_nl l4 = true) : rf d 23 53 [l0, l1, l2, l3, l4, some (.int x)] s h = rf d 23 56 [l0, l1, l2, l3, l4, some (.int (x + 1))] s h := g_inc (q := 4) (z := 1) (w := 1) (x := x) (by decide) (by decide +kernel) rfl rfl hn
theorem e23_56 : rf d 23 56 ls s h = rf d 23 12 ls s h := rf_goto ⟨okD_ok (i := .goto (-44)) (len := 3) (by decide +kernel), rfl⟩
theorem e23_59 : rf d 23 59 [l0, l1, l2, l3, some (.int x), l5] s h = rf d 23 61 [l0, l1, l2, l3, some (.int x), l5] (.int x :: s) h := rf_pure (i := .iload 4) (len := 2) (okD_ok (by decide +kernel)) rfl
theorem e23_61 : rf d 23 61 ls [.int x] h = some (.inl (some (.int x)), h) := g_ri (by decide +kernel) rt23
theorem en24 : cf d 24 [.ref a, .int x0] h = rf d 24 0 [some (.ref a), some (.int x0), none] [] h := rfl
theorem e24_0 : rf d 24 0 [l0, some (.int x), l2] s h = rf d 24 1 [l0, some (.int x), l2] (.int x :: s) h := rf_pure (i := .iload_n 1) (len := 1) (okD_ok (by decide +kernel)) rfl
theorem e24_1 : rf d 24 1 ls s h = rf d 24 3 ls (.int 6 :: s) h := rf_pure (i := .bipush (6)) (len := 2) (okD_ok (by decide +kernel)) rfl
theorem e24_3 : rf d 24 3 ls (.int y :: .int x :: s) h = rf d 24 4 ls (.int (x >>> (y &&& 31)) :: s) h := rf_pure (i := .ishr) (len := 1) (okD_ok (by decide +kernel)) rfl
theorem e24_4 : rf d 24 4 ls s h = rf d 24 5 ls (.int 3 :: s) h := rf_pure (i := .iconst (3)) (len := 1) (okD_ok (by decide +kernel)) rfl
theorem e24_5 : rf d 24 5 ls (.int y :: .int x :: s) h = rf d 24 6 ls (.int (x &&& y) :: s) h := rf_pure (i := .iand) (len := 1) (okD_ok (by decide +kernel)) rfl
theorem e24_6 (hn : ip_nl l1 = true) : rf d 24 6 [l0, l1, l2] (.int x :: s) h = rf d 24 7 [l0, l1, some (.int x)] s h := g_sti (i := .istore_n 2) (len := 1) (q := 1) (p := 1) (by decide +kernel) rfl rfl hn
theorem e24_7 : rf d 24 7 [some (.ref a), l1, l2] s h = rf d 24 8 [some (.ref a), l1, l2] (.ref a :: s) h := rf_pure (i := .aload_n 0) (len := 1) (okD_ok (by decide +kernel)) rfl
theorem e24_8 (hR : LYR R) (ha : isT a) : rf d 24 8 ls (.ref a :: s) (SH n, I, L, R, nc, ns, nx) = rf d 24 11 ls (.ref (a + 6) :: s) (SH n, I, L, R, nc, ns, nx) := g_R (idx := 29) (by decide +kernel) ow24 f_6_29 rfl (kdT0 ha) (geT ha) (lyT5 hR ha)
theorem e24_11 : rf d 24 11 [l0, l1, some (.int x)] s h = rf d 24 12 [l0, l1, some (.int x)] (.int x :: s) h := rf_pure (i := .iload_n 2) (len := 1) (okD_ok (by decide +kernel)) rfl
theorem e24_12 (q : la n a j) : rf d 24 12 ls (.int j :: .ref a :: s) (SH n, I, L, R, nc, ns, nx) = rf d 24 13 ls (.long (L a j.toNatClampNeg) :: s) (SH n, I, L, R, nc, ns, nx) := g_lal (by decide +kernel) q
theorem e24_13 : rf d 24 13 [l0, some (.int x), l2] s h = rf d 24 14 [l0, some (.int x), l2] (.int x :: s) h := rf_pure (i := .iload_n 1) (len := 1) (okD_ok (by decide +kernel)) rfl
theorem e24_14 : rf d 24 14 ls s h = rf d 24 16 ls (.int 63 :: s) h := rf_pure (i := .bipush (63)) (len := 2) (okD_ok (by decide +kernel)) rfl
theorem e24_16 : rf d 24 16 ls (.int y :: .int x :: s) h = rf d 24 17 ls (.int (x &&& y) :: s) h := rf_pure (i := .iand) (len := 1) (okD_ok (by decide +kernel)) rfl
theorem e24_17 : rf d 24 17 ls (.int y :: .long u :: s) h = rf d 24 18 ls (.long ((u.toUInt64 >>> (y.toInt64.toUInt64 &&& Int64.toUInt64 63)).toInt64) :: s) h := rf_pure (i := .lushr) (len := 1) (okD_ok (by decide +kernel)) rfl
theorem e24_18 : rf d 24 18 ls s h = rf d 24 19 ls (.long 1 :: s) h := rf_pure (i := .lconst 1) (len := 1) (okD_ok (by decide +kernel)) rfl
theorem e24_19 : rf d 24 19 ls (.long v :: .long u :: s) h = rf d 24 20 ls (.long (u &&& v) :: s) h := rf_pure (i := .land) (len := 1) (okD_ok (by decide +kernel)) rfl
theorem e24_20 : rf d 24 20 ls s h = rf d 24 21 ls (.long 0 :: s) h := rf_pure (i := .lconst 0) (len := 1) (okD_ok (by decide +kernel)) rfl
theorem e24_21 : rf d 24 21 ls (.long v :: .long u :: s) h = rf d 24 22 ls (.int (lg_cmp u v) :: s) h := rf_pure (i := .lcmp) (len := 1) (okD_ok (by decide +kernel)) rfl
theorem e24_22 : rf d 24 22 ls (.int x :: s) h = if x = 0 then rf d 24 29 ls s h else rf d 24 25 ls s h := g_if (c := .eq) (off := 7) _ (by decide +kernel) rfl cmp_d
theorem e24_25 : rf d 24 25 ls s h = rf d 24 26 ls (.int 1 :: s) h := rf_pure (i := .iconst (1)) (len := 1) (okD_ok (by decide +kernel)) rfl
theorem e24_26 : rf d 24 26 ls s h = rf d 24 30 ls s h := rf_goto ⟨okD_ok (i := .goto (4)) (len := 3) (by decide +kernel), rfl⟩
theorem e24_29 : rf d 24 29 ls s h = rf d 24 30 ls (.int 0 :: s) h := rf_pure (i := .iconst (0)) (len := 1) (okD_ok (by decide +kernel)) rfl
theorem e24_30 (hx : x = 0 ∨ x = 1) : rf d 24 30 ls [.int x] h = some (.inl (some (.int x)), h) := g_rz (by decide +kernel) rt24 hx
theorem en25 : cf d 25 [.ref a, .int x0] h = rf d 25 0 [some (.ref a), some (.int x0)] [] h := rfl
theorem e25_0 : rf d 25 0 [l0, some (.int x)] s h = rf d 25 1 [l0, some (.int x)] (.int x :: s) h := rf_pure (i := .iload_n 1) (len := 1) (okD_ok (by decide +kernel)) rfl
theorem e25_1 : rf d 25 1 ls (.int x :: s) h = if x < 0 then rf d 25 15 ls s h else rf d 25 4 ls s h := g_if (c := .lt) (off := 14) _ (by decide +kernel) rfl cmp_d
theorem e25_4 : rf d 25 4 [l0, some (.int x)] s h = rf d 25 5 [l0, some (.int x)] (.int x :: s) h := rf_pure (i := .iload_n 1) (len := 1) (okD_ok (by decide +kernel)) rfl
theorem e25_5 : rf d 25 5 [some (.ref a), l1] s h = rf d 25 6 [some (.ref a), l1] (.ref a :: s) h := rf_pure (i := .aload_n 0) (len := 1) (okD_ok (by decide +kernel)) rfl
theorem e25_6 (hR : LYR R) : rf d 25 6 ls (.ref 2 :: s) (SH n, I, L, R, nc, ns, nx) = rf d 25 9 ls (.ref 63 :: s) (SH n, I, L, R, nc, ns, nx) := g_R (idx := 63) (by decide +kernel) ow25 f_7_63 rfl rfl (by decide) (ly_2_10 hR)
theorem e25_9 : rf d 25 9 ls (.ref 63 :: s) (SH n, I, L, R, nc, ns, nx) = rf d 25 12 ls (.int (I 63 1) :: s) (SH n, I, L, R, nc, ns, nx) := g_I (idx := 332) (by decide +kernel) ow25 f_7_332 rfl rfl (by decide)
theorem e25_12 : rf d 25 12 ls (.int y :: .int x :: s) h = if x < y then rf d 25 19 ls s h else rf d 25 15 ls s h := g_ic (c := .lt) (off := 7) _ (by decide +kernel) rfl cmp_d
theorem e25_15 : rf d 25 15 ls s h = rf d 25 16 ls (.int (-1) :: s) h := rf_pure (i := .iconst (-1)) (len := 1) (okD_ok (by decide +kernel)) rfl
theorem e25_16 : rf d 25 16 ls s h = rf d 25 28 ls s h := rf_goto ⟨okD_ok (i := .goto (12)) (len := 3) (by decide +kernel), rfl⟩
theorem e25_19 : rf d 25 19 [some (.ref a), l1] s h = rf d 25 20 [some (.ref a), l1] (.ref a :: s) h := rf_pure (i := .aload_n 0) (len := 1) (okD_ok (by decide +kernel)) rfl
theorem e25_20 (hR : LYR R) : rf d 25 20 ls (.ref 2 :: s) (SH n, I, L, R, nc, ns, nx) = rf d 25 23 ls (.ref 63 :: s) (SH n, I, L, R, nc, ns, nx) := g_R (idx := 63) (by decide +kernel) ow25 f_7_63 rfl rfl (by decide) (ly_2_10 hR)
theorem e25_23 (hR : LYR R) : rf d 25 23 ls (.ref 63 :: s) (SH n, I, L, R, nc, ns, nx) = rf d 25 26 ls (.ref 64 :: s) (SH n, I, L, R, nc, ns, nx) := g_R (idx := 346) (by decide +kernel) ow25 f_7_346 rfl rfl (by decide) (ly_63_0 hR)
theorem e25_26 : rf d 25 26 [l0, some (.int x)] s h = rf d 25 27 [l0, some (.int x)] (.int x :: s) h := rf_pure (i := .iload_n 1) (len := 1) (okD_ok (by decide +kernel)) rfl
theorem e25_27 (q : ia n a j) : rf d 25 27 ls (.int j :: .ref a :: s) (SH n, I, L, R, nc, ns, nx) = rf d 25 28 ls (.int (I a j.toNatClampNeg) :: s) (SH n, I, L, R, nc, ns, nx) := g_ial (by decide +kernel) q
theorem e25_28 : rf d 25 28 ls [.int x] h = some (.inl (some (.int x)), h) := g_ri (by decide +kernel) rt25
theorem en26 : cf d 26 [.ref a, .int x0] h = rf d 26 0 [some (.ref a), some (.int x0), none, none] [] h := rfl
theorem e26_0 : rf d 26 0 [l0, some (.int x), l2, l3] s h = rf d 26 1 [l0, some (.int x), l2, l3] (.int x :: s) h := rf_pure (i := .iload_n 1) (len := 1) (okD_ok (by decide +kernel)) rfl
theorem e26_1 (hn : ip_nl l1 = true) : rf d 26 1 [l0, l1, l2, l3] (.int x :: s) h = rf d 26 2 [l0, l1, some (.int x), l3] s h := g_sti (i := .istore_n 2) (len := 1) (q := 1) (p := 1) (by decide +kernel) rfl rfl hn
theorem e26_2 : rf d 26 2 ls s h = rf d 26 3 ls (.int 0 :: s) h := rf_pure (i := .iconst (0)) (len := 1) (okD_ok (by decide +kernel)) rfl
theorem e26_3 (hn : ip_nl l2 = true) : rf d 26 3 [l0, l1, l2, l3] (.int x :: s) h = rf d 26 4 [l0, l1, l2, some (.int x)] s h := g_sti (i := .istore_n 3) (len := 1) (q := 2) (p := 1) (by decide +kernel) rfl rfl hn
theorem e26_4 : rf d 26 4 [l0, l1, l2, some (.int x)] s h = rf d 26 5 [l0, l1, l2, some (.int x)] (.int x :: s) h := rf_pure (i := .iload_n 3) (len := 1) (okD_ok (by decide +kernel)) rfl
theorem e26_5 : rf d 26 5 [some (.ref a), l1, l2, l3] s h = rf d 26 6 [some (.ref a), l1, l2, l3] (.ref a :: s) h := rf_pure (i := .aload_n 0) (len := 1) (okD_ok (by decide +kernel)) rfl
theorem e26_6 : rf d 26 6 ls (.ref 2 :: s) (SH n, I, L, R, nc, ns, nx) = rf d 26 9 ls (.int (I 2 6) :: s) (SH n, I, L, R, nc, ns, nx) := g_I (idx := 40) (by decide +kernel) ow26 f_7_40 rfl rfl (by decide)
theorem e26_9 : rf d 26 9 ls (.int y :: .int x :: s) h = if y ≤ x then rf d 26 41 ls s h else rf d 26 12 ls s h := g_ic (c := .ge) (off := 32) _ (by decide +kernel) rfl cmp_d
theorem e26_12 : rf d 26 12 [l0, l1, some (.int x), l3] s h = rf d 26 13 [l0, l1, some (.int x), l3] (.int x :: s) h := rf_pure (i := .iload_n 2) (len := 1) (okD_ok (by decide +kernel)) rfl
theorem e26_13 : rf d 26 13 ls (.int x :: s) h = if x < 0 then rf d 26 41 ls s h else rf d 26 16 ls s h := g_if (c := .lt) (off := 28) _ (by decide +kernel) rfl cmp_d
theorem e26_16 : rf d 26 16 [some (.ref a), l1, l2, l3] s h = rf d 26 17 [some (.ref a), l1, l2, l3] (.ref a :: s) h := rf_pure (i := .aload_n 0) (len := 1) (okD_ok (by decide +kernel)) rfl
theorem e26_17 : rf d 26 17 [l0, l1, l2, some (.int x)] s h = rf d 26 18 [l0, l1, l2, some (.int x)] (.int x :: s) h := rf_pure (i := .iload_n 3) (len := 1) (okD_ok (by decide +kernel)) rfl
theorem e26_18 : rf d 26 18 [l0, l1, l2, some (.int x)] s h = rf d 26 19 [l0, l1, l2, some (.int x)] (.int x :: s) h := rf_pure (i := .iload_n 3) (len := 1) (okD_ok (by decide +kernel)) rfl
theorem e26_19 (hcat : ip_cat s ≤ 8) : rf (d + 1) 26 19 ls (.int x1 :: .int x0 :: .ref 2 :: s) (SH n, I, L, R, nc, ns, nx) = rf_k (d + 1) 26 19 ls s (cf d 27 [.ref 2, .int x0, .int x1] (SH n, I, L, R, nc, ns, nx)) := g_cv (idx := 357) (t := 7) [.int x1, .int x0] (by decide +kernel) ow26 ms_7_357 mt_7_357 cy27_7 rfl rfl mL27 rfl rfl (by decide) hcat
theorem e26_22 : rf d 26 22 ls s h = rf d 26 23 ls (.int (-1) :: s) h := rf_pure (i := .iconst (-1)) (len := 1) (okD_ok (by decide +kernel)) rfl
theorem e26_23 : rf d 26 23 ls (.int y :: .int x :: s) h = if ¬ x = y then rf d 26 35 ls s h else rf d 26 26 ls s h := g_ic (c := .ne) (off := 12) _ (by decide +kernel) rfl cmp_d
theorem e26_26 : rf d 26 26 [l0, l1, some (.int x), l3] s h = rf d 26 27 [l0, l1, some (.int x), l3] (.int x :: s) h := rf_pure (i := .iload_n 2) (len := 1) (okD_ok (by decide +kernel)) rfl
theorem e26_27 : rf d 26 27 ls (.int x :: s) h = if ¬ x = 0 then rf d 26 32 ls s h else rf d 26 30 ls s h := g_if (c := .ne) (off := 5) _ (by decide +kernel) rfl cmp_d
theorem e26_30 : rf d 26 30 [l0, l1, l2, some (.int x)] s h = rf d 26 31 [l0, l1, l2, some (.int x)] (.int x :: s) h := rf_pure (i := .iload_n 3) (len := 1) (okD_ok (by decide +kernel)) rfl
theorem e26_31 : rf d 26 31 ls [.int x] h = some (.inl (some (.int x)), h) := g_ri (by decide +kernel) rt26
theorem e26_32 (hn : ip_nl l1 = true) : rf d 26 32 [l0, l1, some (.int x), l3] s h = rf d 26 35 [l0, l1, some (.int (x + (-1))), l3] s h := g_inc (q := 1) (z := -1) (w := (-1)) (x := x) (by decide) (by decide +kernel) rfl rfl hn
theorem e26_35 (hn : ip_nl l2 = true) : rf d 26 35 [l0, l1, l2, some (.int x)] s h = rf d 26 38 [l0, l1, l2, some (.int (x + 1))] s h := g_inc (q := 2) (z := 1) (w := 1) (x := x) (by decide) (by decide +kernel) rfl rfl hn
theorem e26_38 : rf d 26 38 ls s h = rf d 26 4 ls s h := rf_goto ⟨okD_ok (i := .goto (-34)) (len := 3) (by decide +kernel), rfl⟩
theorem e26_41 : rf d 26 41 ls s h = rf d 26 42 ls (.int (-1) :: s) h := rf_pure (i := .iconst (-1)) (len := 1) (okD_ok (by decide +kernel)) rfl
theorem e26_42 : rf d 26 42 ls [.int x] h = some (.inl (some (.int x)), h) := g_ri (by decide +kernel) rt26
theorem en27 : cf d 27 [.ref a, .int x0, .int x1] h = rf d 27 0 [some (.ref a), some (.int x0), some (.int x1), none] [] h := rfl
theorem e27_0 : rf d 27 0 [l0, l1, some (.int x), l3] s h = rf d 27 1 [l0, l1, some (.int x), l3] (.int x :: s) h := rf_pure (i := .iload_n 2) (len := 1) (okD_ok (by decide +kernel)) rfl
theorem e27_1 : rf d 27 1 ls s h = rf d 27 2 ls (.int 1 :: s) h := rf_pure (i := .iconst (1)) (len := 1) (okD_ok (by decide +kernel)) rfl
theorem e27_2 : rf d 27 2 ls (.int y :: .int x :: s) h = rf d 27 3 ls (.int (x + y) :: s) h := rf_pure (i := .iadd) (len := 1) (okD_ok (by decide +kernel)) rfl
theorem e27_3 (hn : ip_nl l2 = true) : rf d 27 3 [l0, l1, l2, l3] (.int x :: s) h = rf d 27 4 [l0, l1, l2, some (.int x)] s h := g_sti (i := .istore_n 3) (len := 1) (q := 2) (p := 1) (by decide +kernel) rfl rfl hn
theorem e27_4 : rf d 27 4 [l0, l1, l2, some (.int x)] s h = rf d 27 5 [l0, l1, l2, some (.int x)] (.int x :: s) h := rf_pure (i := .iload_n 3) (len := 1) (okD_ok (by decide +kernel)) rfl
theorem e27_5 : rf d 27 5 [some (.ref a), l1, l2, l3] s h = rf d 27 6 [some (.ref a), l1, l2, l3] (.ref a :: s) h := rf_pure (i := .aload_n 0) (len := 1) (okD_ok (by decide +kernel)) rfl
theorem e27_6 : rf d 27 6 ls (.ref 2 :: s) (SH n, I, L, R, nc, ns, nx) = rf d 27 9 ls (.int (I 2 6) :: s) (SH n, I, L, R, nc, ns, nx) := g_I (idx := 40) (by decide +kernel) ow27 f_7_40 rfl rfl (by decide)
theorem e27_9 : rf d 27 9 ls (.int y :: .int x :: s) h = if y ≤ x then rf d 27 33 ls s h else rf d 27 12 ls s h := g_ic (c := .ge) (off := 24) _ (by decide +kernel) rfl cmp_d
theorem e27_12 : rf d 27 12 [some (.ref a), l1, l2, l3] s h = rf d 27 13 [some (.ref a), l1, l2, l3] (.ref a :: s) h := rf_pure (i := .aload_n 0) (len := 1) (okD_ok (by decide +kernel)) rfl
theorem e27_13 (hR : LYR R) : rf d 27 13 ls (.ref 2 :: s) (SH n, I, L, R, nc, ns, nx) = rf d 27 16 ls (.ref 23 :: s) (SH n, I, L, R, nc, ns, nx) := g_R (idx := 36) (by decide +kernel) ow27 f_7_36 rfl rfl (by decide) (ly_2_5 hR)
theorem e27_16 : rf d 27 16 [l0, l1, l2, some (.int x)] s h = rf d 27 17 [l0, l1, l2, some (.int x)] (.int x :: s) h := rf_pure (i := .iload_n 3) (len := 1) (okD_ok (by decide +kernel)) rfl
theorem e27_17 (hR : LYR R) (q : inb j 40) : rf d 27 17 ls (.int j :: .ref 23 :: s) (SH n, I, L, R, nc, ns, nx) = rf d 27 18 ls (.ref (nd j) :: s) (SH n, I, L, R, nc, ns, nx) := g_aal (by decide +kernel) hR q
theorem e27_18 (ha : isN a) : rf d 27 18 ls (.ref a :: s) (SH n, I, L, R, nc, ns, nx) = rf d 27 21 ls (.int (I a 1) :: s) (SH n, I, L, R, nc, ns, nx) := g_I (idx := 279) (by decide +kernel) ow27 f_7_279 rfl (kdN0 ha) (geN ha)
theorem e27_21 : rf d 27 21 [l0, some (.int x), l2, l3] s h = rf d 27 22 [l0, some (.int x), l2, l3] (.int x :: s) h := rf_pure (i := .iload_n 1) (len := 1) (okD_ok (by decide +kernel)) rfl
theorem e27_22 : rf d 27 22 ls (.int y :: .int x :: s) h = if ¬ x = y then rf d 27 27 ls s h else rf d 27 25 ls s h := g_ic (c := .ne) (off := 5) _ (by decide +kernel) rfl cmp_d
theorem e27_25 : rf d 27 25 [l0, l1, l2, some (.int x)] s h = rf d 27 26 [l0, l1, l2, some (.int x)] (.int x :: s) h := rf_pure (i := .iload_n 3) (len := 1) (okD_ok (by decide +kernel)) rfl
theorem e27_26 : rf d 27 26 ls [.int x] h = some (.inl (some (.int x)), h) := g_ri (by decide +kernel) rt27
theorem e27_27 (hn : ip_nl l2 = true) : rf d 27 27 [l0, l1, l2, some (.int x)] s h = rf d 27 30 [l0, l1, l2, some (.int (x + 1))] s h := g_inc (q := 2) (z := 1) (w := 1) (x := x) (by decide) (by decide +kernel) rfl rfl hn
theorem e27_30 : rf d 27 30 ls s h = rf d 27 4 ls s h := rf_goto ⟨okD_ok (i := .goto (-26)) (len := 3) (by decide +kernel), rfl⟩
theorem e27_33 : rf d 27 33 ls s h = rf d 27 34 ls (.int (-1) :: s) h := rf_pure (i := .iconst (-1)) (len := 1) (okD_ok (by decide +kernel)) rfl
theorem e27_34 : rf d 27 34 ls [.int x] h = some (.inl (some (.int x)), h) := g_ri (by decide +kernel) rt27
theorem en28 : cf d 28 [.ref a] h = rf d 28 0 [some (.ref a)] [] h := rfl
theorem e28_0 : rf d 28 0 [some (.ref a)] s h = rf d 28 1 [some (.ref a)] (.ref a :: s) h := rf_pure (i := .aload_n 0) (len := 1) (okD_ok (by decide +kernel)) rfl
theorem e28_1 (hR : LYR R) : rf d 28 1 ls (.ref 2 :: s) (SH n, I, L, R, nc, ns, nx) = rf d 28 4 ls (.ref 63 :: s) (SH n, I, L, R, nc, ns, nx) := g_R (idx := 63) (by decide +kernel) ow28 f_7_63 rfl rfl (by decide) (ly_2_10 hR)
theorem e28_4 (hcat : ip_cat s ≤ 8) : rf (d + 1) 28 4 ls (.ref 63 :: s) (SH n, I, L, R, nc, ns, nx) = rf_k (d + 1) 28 4 ls s (cf d 29 [.ref 63] (SH n, I, L, R, nc, ns, nx)) := g_cv (idx := 313) (t := 2) [] (by decide +kernel) ow28 ms_7_313 mt_7_313 cy29_2 rfl rfl mL29 rfl rfl (by decide) hcat
theorem e28_7 : rf d 28 7 [some (.ref a)] s h = rf d 28 8 [some (.ref a)] (.ref a :: s) h := rf_pure (i := .aload_n 0) (len := 1) (okD_ok (by decide +kernel)) rfl
theorem e28_8 : rf d 28 8 ls s h = rf d 28 9 ls (.int 0 :: s) h := rf_pure (i := .iconst (0)) (len := 1) (okD_ok (by decide +kernel)) rfl
theorem e28_9 : rf d 28 9 ls s h = rf d 28 10 ls (.int 0 :: s) h := rf_pure (i := .iconst (0)) (len := 1) (okD_ok (by decide +kernel)) rfl
theorem e28_10 (hcat : ip_cat s ≤ 8) : rf (d + 1) 28 10 ls (.int x1 :: .int x0 :: .ref 2 :: s) (SH n, I, L, R, nc, ns, nx) = rf_k (d + 1) 28 10 ls s (cf d 30 [.ref 2, .int x0, .int x1] (SH n, I, L, R, nc, ns, nx)) := g_cv (idx := 360) (t := 7) [.int x1, .int x0] (by decide +kernel) ow28 ms_7_360 mt_7_360 cy30_7 rfl rfl mL30 rfl rfl (by decide) hcat
theorem e28_13 : rf d 28 13 [some (.ref a)] s h = rf d 28 14 [some (.ref a)] (.ref a :: s) h := rf_pure (i := .aload_n 0) (len := 1) (okD_ok (by decide +kernel)) rfl
theorem e28_14 (hR : LYR R) : rf d 28 14 ls (.ref 2 :: s) (SH n, I, L, R, nc, ns, nx) = rf d 28 17 ls (.ref 63 :: s) (SH n, I, L, R, nc, ns, nx) := g_R (idx := 63) (by decide +kernel) ow28 f_7_63 rfl rfl (by decide) (ly_2_10 hR)
theorem e28_17 : rf d 28 17 ls (.ref 63 :: s) (SH n, I, L, R, nc, ns, nx) = rf d 28 20 ls (.int (I 63 1) :: s) (SH n, I, L, R, nc, ns, nx) := g_I (idx := 332) (by decide +kernel) ow28 f_7_332 rfl rfl (by decide)
theorem e28_20 : rf d 28 20 ls [.int x] h = some (.inl (some (.int x)), h) := g_ri (by decide +kernel) rt28
theorem en29 : cf d 29 [.ref a] h = rf d 29 0 [some (.ref a)] [] h := rfl
theorem e29_0 : rf d 29 0 [some (.ref a)] s h = rf d 29 1 [some (.ref a)] (.ref a :: s) h := rf_pure (i := .aload_n 0) (len := 1) (okD_ok (by decide +kernel)) rfl
theorem e29_1 : rf d 29 1 ls s h = rf d 29 2 ls (.int 0 :: s) h := rf_pure (i := .iconst (0)) (len := 1) (okD_ok (by decide +kernel)) rfl
theorem e29_2 : rf d 29 2 ls (.int x :: .ref 63 :: s) (SH n, I, L, R, nc, ns, nx) = rf d 29 5 ls s (SH n, ip_up I 63 1 x, L, R, nc, ns, nx) := g_pI (idx := 13) (by decide +kernel) ow29 f_2_13 rfl (by decide +kernel) rfl (by decide)
theorem e29_5 : rf d 29 5 ls [] h = some (.inl none, h) := g_rv (by decide +kernel) rt29
theorem en30 : cf d 30 [.ref a, .int x0, .int x1] h = rf d 30 0 [some (.ref a), some (.int x0), some (.int x1), none, none] [] h := rfl
theorem e30_0 : rf d 30 0 [l0, l1, some (.int x), l3, l4] s h = rf d 30 1 [l0, l1, some (.int x), l3, l4] (.int x :: s) h := rf_pure (i := .iload_n 2) (len := 1) (okD_ok (by decide +kernel)) rfl
theorem e30_1 : rf d 30 1 ls s h = rf d 30 3 ls (.int 40 :: s) h := rf_pure (i := .bipush (40)) (len := 2) (okD_ok (by decide +kernel)) rfl
theorem e30_3 : rf d 30 3 ls (.int y :: .int x :: s) h = if x < y then rf d 30 7 ls s h else rf d 30 6 ls s h := g_ic (c := .lt) (off := 4) _ (by decide +kernel) rfl cmp_d
theorem e30_6 : rf d 30 6 ls [] h = some (.inl none, h) := g_rv (by decide +kernel) rt30
theorem e30_7 : rf d 30 7 [some (.ref a), l1, l2, l3, l4] s h = rf d 30 8 [some (.ref a), l1, l2, l3, l4] (.ref a :: s) h := rf_pure (i := .aload_n 0) (len := 1) (okD_ok (by decide +kernel)) rfl
theorem e30_8 (hR : LYR R) : rf d 30 8 ls (.ref 2 :: s) (SH n, I, L, R, nc, ns, nx) = rf d 30 11 ls (.ref 63 :: s) (SH n, I, L, R, nc, ns, nx) := g_R (idx := 63) (by decide +kernel) ow30 f_7_63 rfl rfl (by decide) (ly_2_10 hR)
theorem e30_11 : rf d 30 11 [l0, some (.int x), l2, l3, l4] s h = rf d 30 12 [l0, some (.int x), l2, l3, l4] (.int x :: s) h := rf_pure (i := .iload_n 1) (len := 1) (okD_ok (by decide +kernel)) rfl
theorem e30_12 (hcat : ip_cat s ≤ 8) : rf (d + 1) 30 12 ls (.int x0 :: .ref 63 :: s) (SH n, I, L, R, nc, ns, nx) = rf_k (d + 1) 30 12 ls s (cf d 31 [.ref 63, .int x0] (SH n, I, L, R, nc, ns, nx)) := g_cv (idx := 363) (t := 2) [.int x0] (by decide +kernel) ow30 ms_7_363 mt_7_363 cy31_2 rfl rfl mL31 rfl rfl (by decide) hcat
theorem e30_15 : rf d 30 15 [some (.ref a), l1, l2, l3, l4] s h = rf d 30 16 [some (.ref a), l1, l2, l3, l4] (.ref a :: s) h := rf_pure (i := .aload_n 0) (len := 1) (okD_ok (by decide +kernel)) rfl
theorem e30_16 (hR : LYR R) : rf d 30 16 ls (.ref 2 :: s) (SH n, I, L, R, nc, ns, nx) = rf d 30 19 ls (.ref 63 :: s) (SH n, I, L, R, nc, ns, nx) := g_R (idx := 63) (by decide +kernel) ow30 f_7_63 rfl rfl (by decide) (ly_2_10 hR)
theorem e30_19 : rf d 30 19 [some (.ref a), l1, l2, l3, l4] s h = rf d 30 20 [some (.ref a), l1, l2, l3, l4] (.ref a :: s) h := rf_pure (i := .aload_n 0) (len := 1) (okD_ok (by decide +kernel)) rfl
theorem e30_20 (hR : LYR R) : rf d 30 20 ls (.ref 2 :: s) (SH n, I, L, R, nc, ns, nx) = rf d 30 23 ls (.ref 23 :: s) (SH n, I, L, R, nc, ns, nx) := g_R (idx := 36) (by decide +kernel) ow30 f_7_36 rfl rfl (by decide) (ly_2_5 hR)
theorem e30_23 : rf d 30 23 [l0, some (.int x), l2, l3, l4] s h = rf d 30 24 [l0, some (.int x), l2, l3, l4] (.int x :: s) h := rf_pure (i := .iload_n 1) (len := 1) (okD_ok (by decide +kernel)) rfl
theorem e30_24 (hR : LYR R) (q : inb j 40) : rf d 30 24 ls (.int j :: .ref 23 :: s) (SH n, I, L, R, nc, ns, nx) = rf d 30 25 ls (.ref (nd j) :: s) (SH n, I, L, R, nc, ns, nx) := g_aal (by decide +kernel) hR q
theorem e30_25 (hcat : ip_cat s ≤ 8) : rf (d + 1) 30 25 ls (.ref a0 :: s) h = rf_k (d + 1) 30 25 ls s (cf d 33 [.ref a0] h) := g_cs (idx := 366) [.ref a0] (by decide +kernel) ow30 ms_7_366 mt_7_366 (by decide) rfl mL33 rfl hcat
theorem e30_28 (hcat : ip_cat s ≤ 8) : rf (d + 1) 30 28 ls (.int x0 :: .ref 63 :: s) (SH n, I, L, R, nc, ns, nx) = rf_k (d + 1) 30 28 ls s (cf d 32 [.ref 63, .int x0] (SH n, I, L, R, nc, ns, nx)) := g_cv (idx := 343) (t := 2) [.int x0] (by decide +kernel) ow30 ms_7_343 mt_7_343 cy32_2 rfl rfl mL32 rfl rfl (by decide) hcat
theorem e30_31 : rf d 30 31 [some (.ref a), l1, l2, l3, l4] s h = rf d 30 32 [some (.ref a), l1, l2, l3, l4] (.ref a :: s) h := rf_pure (i := .aload_n 0) (len := 1) (okD_ok (by decide +kernel)) rfl
theorem e30_32 : rf d 30 32 [l0, some (.int x), l2, l3, l4] s h = rf d 30 33 [l0, some (.int x), l2, l3, l4] (.int x :: s) h := rf_pure (i := .iload_n 1) (len := 1) (okD_ok (by decide +kernel)) rfl
theorem e30_33 : rf d 30 33 [l0, some (.int x), l2, l3, l4] s h = rf d 30 34 [l0, some (.int x), l2, l3, l4] (.int x :: s) h := rf_pure (i := .iload_n 1) (len := 1) (okD_ok (by decide +kernel)) rfl
theorem e30_34 (hcat : ip_cat s ≤ 8) : rf (d + 1) 30 34 ls (.int x1 :: .int x0 :: .ref 2 :: s) (SH n, I, L, R, nc, ns, nx) = rf_k (d + 1) 30 34 ls s (cf d 27 [.ref 2, .int x0, .int x1] (SH n, I, L, R, nc, ns, nx)) := g_cv (idx := 357) (t := 7) [.int x1, .int x0] (by decide +kernel) ow30 ms_7_357 mt_7_357 cy27_7 rfl rfl mL27 rfl rfl (by decide) hcat
theorem e30_37 (hn : ip_nl l2 = true) : rf d 30 37 [l0, l1, l2, l3, l4] (.int x :: s) h = rf d 30 38 [l0, l1, l2, some (.int x), l4] s h := g_sti (i := .istore_n 3) (len := 1) (q := 2) (p := 1) (by decide +kernel) rfl rfl hn
theorem e30_38 : rf d 30 38 [l0, l1, l2, some (.int x), l4] s h = rf d 30 39 [l0, l1, l2, some (.int x), l4] (.int x :: s) h := rf_pure (i := .iload_n 3) (len := 1) (okD_ok (by decide +kernel)) rfl
theorem e30_39 : rf d 30 39 ls s h = rf d 30 40 ls (.int (-1) :: s) h := rf_pure (i := .iconst (-1)) (len := 1) (okD_ok (by decide +kernel)) rfl
theorem e30_40 : rf d 30 40 ls (.int y :: .int x :: s) h = if ¬ x = y then rf d 30 44 ls s h else rf d 30 43 ls s h := g_ic (c := .ne) (off := 4) _ (by decide +kernel) rfl cmp_d
theorem e30_43 : rf d 30 43 ls [] h = some (.inl none, h) := g_rv (by decide +kernel) rt30
theorem e30_44 : rf d 30 44 [some (.ref a), l1, l2, l3, l4] s h = rf d 30 45 [some (.ref a), l1, l2, l3, l4] (.ref a :: s) h := rf_pure (i := .aload_n 0) (len := 1) (okD_ok (by decide +kernel)) rfl
theorem e30_45 (hR : LYR R) : rf d 30 45 ls (.ref 2 :: s) (SH n, I, L, R, nc, ns, nx) = rf d 30 48 ls (.ref 63 :: s) (SH n, I, L, R, nc, ns, nx) := g_R (idx := 63) (by decide +kernel) ow30 f_7_63 rfl rfl (by decide) (ly_2_10 hR)
theorem e30_48 : rf d 30 48 ls s h = rf d 30 50 ls (.int 40 :: s) h := rf_pure (i := .bipush (40)) (len := 2) (okD_ok (by decide +kernel)) rfl
theorem e30_50 (hcat : ip_cat s ≤ 8) : rf (d + 1) 30 50 ls (.int x0 :: .ref 63 :: s) (SH n, I, L, R, nc, ns, nx) = rf_k (d + 1) 30 50 ls s (cf d 32 [.ref 63, .int x0] (SH n, I, L, R, nc, ns, nx)) := g_cv (idx := 343) (t := 2) [.int x0] (by decide +kernel) ow30 ms_7_343 mt_7_343 cy32_2 rfl rfl mL32 rfl rfl (by decide) hcat
theorem e30_53 : rf d 30 53 ls s h = rf d 30 54 ls (.int 0 :: s) h := rf_pure (i := .iconst (0)) (len := 1) (okD_ok (by decide +kernel)) rfl
theorem e30_54 (hn : ip_nl l3 = true) : rf d 30 54 [l0, l1, l2, l3, l4] (.int x :: s) h = rf d 30 56 [l0, l1, l2, l3, some (.int x)] s h := g_sti (i := .istore 4) (len := 2) (q := 3) (p := 2) (by decide +kernel) rfl rfl hn
theorem e30_56 : rf d 30 56 [l0, l1, l2, l3, some (.int x)] s h = rf d 30 58 [l0, l1, l2, l3, some (.int x)] (.int x :: s) h := rf_pure (i := .iload 4) (len := 2) (okD_ok (by decide +kernel)) rfl
theorem e30_58 : rf d 30 58 ls s h = rf d 30 60 ls (.int 40 :: s) h := rf_pure (i := .bipush (40)) (len := 2) (okD_ok (by decide +kernel)) rfl
theorem e30_60 : rf d 30 60 ls (.int y :: .int x :: s) h = if y ≤ x then rf d 30 103 ls s h else rf d 30 63 ls s h := g_ic (c := .ge) (off := 43) _ (by decide +kernel) rfl cmp_d
theorem e30_63 : rf d 30 63 [l0, l1, l2, some (.int x), l4] s h = rf d 30 64 [l0, l1, l2, some (.int x), l4] (.int x :: s) h := rf_pure (i := .iload_n 3) (len := 1) (okD_ok (by decide +kernel)) rfl
theorem e30_64 : rf d 30 64 ls s h = rf d 30 65 ls (.int (-1) :: s) h := rf_pure (i := .iconst (-1)) (len := 1) (okD_ok (by decide +kernel)) rfl
theorem e30_65 : rf d 30 65 ls (.int y :: .int x :: s) h = if x = y then rf d 30 103 ls s h else rf d 30 68 ls s h := g_ic (c := .eq) (off := 38) _ (by decide +kernel) rfl cmp_d
theorem e30_68 : rf d 30 68 [l0, l1, l2, l3, some (.int x)] s h = rf d 30 70 [l0, l1, l2, l3, some (.int x)] (.int x :: s) h := rf_pure (i := .iload 4) (len := 2) (okD_ok (by decide +kernel)) rfl
theorem e30_70 : rf d 30 70 ls (.int x :: s) h = if x ≤ 0 then rf d 30 82 ls s h else rf d 30 73 ls s h := g_if (c := .le) (off := 12) _ (by decide +kernel) rfl cmp_d
theorem e30_73 : rf d 30 73 [some (.ref a), l1, l2, l3, l4] s h = rf d 30 74 [some (.ref a), l1, l2, l3, l4] (.ref a :: s) h := rf_pure (i := .aload_n 0) (len := 1) (okD_ok (by decide +kernel)) rfl
theorem e30_74 (hR : LYR R) : rf d 30 74 ls (.ref 2 :: s) (SH n, I, L, R, nc, ns, nx) = rf d 30 77 ls (.ref 63 :: s) (SH n, I, L, R, nc, ns, nx) := g_R (idx := 63) (by decide +kernel) ow30 f_7_63 rfl rfl (by decide) (ly_2_10 hR)
theorem e30_77 : rf d 30 77 ls s h = rf d 30 79 ls (.int 44 :: s) h := rf_pure (i := .bipush (44)) (len := 2) (okD_ok (by decide +kernel)) rfl
theorem e30_79 (hcat : ip_cat s ≤ 8) : rf (d + 1) 30 79 ls (.int x0 :: .ref 63 :: s) (SH n, I, L, R, nc, ns, nx) = rf_k (d + 1) 30 79 ls s (cf d 32 [.ref 63, .int x0] (SH n, I, L, R, nc, ns, nx)) := g_cv (idx := 343) (t := 2) [.int x0] (by decide +kernel) ow30 ms_7_343 mt_7_343 cy32_2 rfl rfl mL32 rfl rfl (by decide) hcat
theorem e30_82 : rf d 30 82 [some (.ref a), l1, l2, l3, l4] s h = rf d 30 83 [some (.ref a), l1, l2, l3, l4] (.ref a :: s) h := rf_pure (i := .aload_n 0) (len := 1) (okD_ok (by decide +kernel)) rfl
theorem e30_83 : rf d 30 83 [l0, l1, l2, some (.int x), l4] s h = rf d 30 84 [l0, l1, l2, some (.int x), l4] (.int x :: s) h := rf_pure (i := .iload_n 3) (len := 1) (okD_ok (by decide +kernel)) rfl
theorem e30_84 : rf d 30 84 [l0, l1, some (.int x), l3, l4] s h = rf d 30 85 [l0, l1, some (.int x), l3, l4] (.int x :: s) h := rf_pure (i := .iload_n 2) (len := 1) (okD_ok (by decide +kernel)) rfl
theorem e30_85 : rf d 30 85 ls s h = rf d 30 86 ls (.int 1 :: s) h := rf_pure (i := .iconst (1)) (len := 1) (okD_ok (by decide +kernel)) rfl
theorem e30_86 : rf d 30 86 ls (.int y :: .int x :: s) h = rf d 30 87 ls (.int (x + y) :: s) h := rf_pure (i := .iadd) (len := 1) (okD_ok (by decide +kernel)) rfl
theorem e30_87 (hcat : ip_cat s ≤ 8) : rf (d + 1) 30 87 ls (.int x1 :: .int x0 :: .ref 2 :: s) (SH n, I, L, R, nc, ns, nx) = rf_k (d + 1) 30 87 ls s (cf d 30 [.ref 2, .int x0, .int x1] (SH n, I, L, R, nc, ns, nx)) := g_cv (idx := 360) (t := 7) [.int x1, .int x0] (by decide +kernel) ow30 ms_7_360 mt_7_360 cy30_7 rfl rfl mL30 rfl rfl (by decide) hcat
theorem e30_90 : rf d 30 90 [some (.ref a), l1, l2, l3, l4] s h = rf d 30 91 [some (.ref a), l1, l2, l3, l4] (.ref a :: s) h := rf_pure (i := .aload_n 0) (len := 1) (okD_ok (by decide +kernel)) rfl
theorem e30_91 : rf d 30 91 [l0, some (.int x), l2, l3, l4] s h = rf d 30 92 [l0, some (.int x), l2, l3, l4] (.int x :: s) h := rf_pure (i := .iload_n 1) (len := 1) (okD_ok (by decide +kernel)) rfl
theorem e30_92 : rf d 30 92 [l0, l1, l2, some (.int x), l4] s h = rf d 30 93 [l0, l1, l2, some (.int x), l4] (.int x :: s) h := rf_pure (i := .iload_n 3) (len := 1) (okD_ok (by decide +kernel)) rfl
theorem e30_93 (hcat : ip_cat s ≤ 8) : rf (d + 1) 30 93 ls (.int x1 :: .int x0 :: .ref 2 :: s) (SH n, I, L, R, nc, ns, nx) = rf_k (d + 1) 30 93 ls s (cf d 27 [.ref 2, .int x0, .int x1] (SH n, I, L, R, nc, ns, nx)) := g_cv (idx := 357) (t := 7) [.int x1, .int x0] (by decide +kernel) ow30 ms_7_357 mt_7_357 cy27_7 rfl rfl mL27 rfl rfl (by decide) hcat
theorem e30_96 (hn : ip_nl l2 = true) : rf d 30 96 [l0, l1, l2, l3, l4] (.int x :: s) h = rf d 30 97 [l0, l1, l2, some (.int x), l4] s h := g_sti (i := .istore_n 3) (len := 1) (q := 2) (p := 1) (by decide +kernel) rfl rfl hn
theorem e30_97 (hn : ip_nl l3 = true) : rf d 30 97 [l0, l1, l2, l3, some (.int x)] s h = rf d 30 100 [l0, l1, l2, l3, some (.int (x + 1))] s h := g_inc (q := 3) (z := 1) (w := 1) (x := x) (by decide) (by decide +kernel) rfl rfl hn
theorem e30_100 : rf d 30 100 ls s h = rf d 30 56 ls s h := rf_goto ⟨okD_ok (i := .goto (-44)) (len := 3) (by decide +kernel), rfl⟩
theorem e30_103 : rf d 30 103 [some (.ref a), l1, l2, l3, l4] s h = rf d 30 104 [some (.ref a), l1, l2, l3, l4] (.ref a :: s) h := rf_pure (i := .aload_n 0) (len := 1) (okD_ok (by decide +kernel)) rfl
theorem e30_104 (hR : LYR R) : rf d 30 104 ls (.ref 2 :: s) (SH n, I, L, R, nc, ns, nx) = rf d 30 107 ls (.ref 63 :: s) (SH n, I, L, R, nc, ns, nx) := g_R (idx := 63) (by decide +kernel) ow30 f_7_63 rfl rfl (by decide) (ly_2_10 hR)
theorem e30_107 : rf d 30 107 ls s h = rf d 30 109 ls (.int 41 :: s) h := rf_pure (i := .bipush (41)) (len := 2) (okD_ok (by decide +kernel)) rfl
theorem e30_109 (hcat : ip_cat s ≤ 8) : rf (d + 1) 30 109 ls (.int x0 :: .ref 63 :: s) (SH n, I, L, R, nc, ns, nx) = rf_k (d + 1) 30 109 ls s (cf d 32 [.ref 63, .int x0] (SH n, I, L, R, nc, ns, nx)) := g_cv (idx := 343) (t := 2) [.int x0] (by decide +kernel) ow30 ms_7_343 mt_7_343 cy32_2 rfl rfl mL32 rfl rfl (by decide) hcat
theorem e30_112 : rf d 30 112 ls [] h = some (.inl none, h) := g_rv (by decide +kernel) rt30
theorem en31 : cf d 31 [.ref a, .int x0] h = rf d 31 0 [some (.ref a), some (.int x0)] [] h := rfl
theorem e31_0 : rf d 31 0 [l0, some (.int x)] s h = rf d 31 1 [l0, some (.int x)] (.int x :: s) h := rf_pure (i := .iload_n 1) (len := 1) (okD_ok (by decide +kernel)) rfl
theorem e31_1 : rf d 31 1 ls s h = rf d 31 3 ls (.int 10 :: s) h := rf_pure (i := .bipush (10)) (len := 2) (okD_ok (by decide +kernel)) rfl
theorem e31_3 : rf d 31 3 ls (.int y :: .int x :: s) h = if x < y then rf d 31 20 ls s h else rf d 31 6 ls s h := g_ic (c := .lt) (off := 17) _ (by decide +kernel) rfl cmp_d
theorem e31_6 : rf d 31 6 [some (.ref a), l1] s h = rf d 31 7 [some (.ref a), l1] (.ref a :: s) h := rf_pure (i := .aload_n 0) (len := 1) (okD_ok (by decide +kernel)) rfl
theorem e31_7 : rf d 31 7 ls s h = rf d 31 9 ls (.int 48 :: s) h := rf_pure (i := .bipush (48)) (len := 2) (okD_ok (by decide +kernel)) rfl
theorem e31_9 : rf d 31 9 [l0, some (.int x)] s h = rf d 31 10 [l0, some (.int x)] (.int x :: s) h := rf_pure (i := .iload_n 1) (len := 1) (okD_ok (by decide +kernel)) rfl
theorem e31_10 : rf d 31 10 ls s h = rf d 31 12 ls (.int 10 :: s) h := rf_pure (i := .bipush (10)) (len := 2) (okD_ok (by decide +kernel)) rfl
theorem e31_12 (hy : ¬ y = 0) : rf d 31 12 ls (.int y :: .int x :: s) h = rf d 31 13 ls (.int (x / y) :: s) h := g_iz (i := .idiv) (len := 1) (f := fun x y => x / y) (by decide +kernel) rfl hy
theorem e31_13 : rf d 31 13 ls s h = rf d 31 15 ls (.int 10 :: s) h := rf_pure (i := .bipush (10)) (len := 2) (okD_ok (by decide +kernel)) rfl
theorem e31_15 (hy : ¬ y = 0) : rf d 31 15 ls (.int y :: .int x :: s) h = rf d 31 16 ls (.int (x - x / y * y) :: s) h := g_iz (i := .irem) (len := 1) (f := fun x y => x - x / y * y) (by decide +kernel) rfl hy
theorem e31_16 : rf d 31 16 ls (.int y :: .int x :: s) h = rf d 31 17 ls (.int (x + y) :: s) h := rf_pure (i := .iadd) (len := 1) (okD_ok (by decide +kernel)) rfl
theorem e31_17 (hcat : ip_cat s ≤ 8) : rf (d + 1) 31 17 ls (.int x0 :: .ref 63 :: s) (SH n, I, L, R, nc, ns, nx) = rf_k (d + 1) 31 17 ls s (cf d 32 [.ref 63, .int x0] (SH n, I, L, R, nc, ns, nx)) := g_cv (idx := 26) (t := 2) [.int x0] (by decide +kernel) ow31 ms_2_26 mt_2_26 cy32_2 rfl rfl mL32 rfl rfl (by decide) hcat
theorem e31_20 : rf d 31 20 [some (.ref a), l1] s h = rf d 31 21 [some (.ref a), l1] (.ref a :: s) h := rf_pure (i := .aload_n 0) (len := 1) (okD_ok (by decide +kernel)) rfl
theorem e31_21 : rf d 31 21 ls s h = rf d 31 23 ls (.int 48 :: s) h := rf_pure (i := .bipush (48)) (len := 2) (okD_ok (by decide +kernel)) rfl
theorem e31_23 : rf d 31 23 [l0, some (.int x)] s h = rf d 31 24 [l0, some (.int x)] (.int x :: s) h := rf_pure (i := .iload_n 1) (len := 1) (okD_ok (by decide +kernel)) rfl
theorem e31_24 : rf d 31 24 ls s h = rf d 31 26 ls (.int 10 :: s) h := rf_pure (i := .bipush (10)) (len := 2) (okD_ok (by decide +kernel)) rfl
theorem e31_26 (hy : ¬ y = 0) : rf d 31 26 ls (.int y :: .int x :: s) h = rf d 31 27 ls (.int (x - x / y * y) :: s) h := g_iz (i := .irem) (len := 1) (f := fun x y => x - x / y * y) (by decide +kernel) rfl hy
theorem e31_27 : rf d 31 27 ls (.int y :: .int x :: s) h = rf d 31 28 ls (.int (x + y) :: s) h := rf_pure (i := .iadd) (len := 1) (okD_ok (by decide +kernel)) rfl
theorem e31_28 (hcat : ip_cat s ≤ 8) : rf (d + 1) 31 28 ls (.int x0 :: .ref 63 :: s) (SH n, I, L, R, nc, ns, nx) = rf_k (d + 1) 31 28 ls s (cf d 32 [.ref 63, .int x0] (SH n, I, L, R, nc, ns, nx)) := g_cv (idx := 26) (t := 2) [.int x0] (by decide +kernel) ow31 ms_2_26 mt_2_26 cy32_2 rfl rfl mL32 rfl rfl (by decide) hcat
theorem e31_31 : rf d 31 31 ls [] h = some (.inl none, h) := g_rv (by decide +kernel) rt31
theorem en32 : cf d 32 [.ref a, .int x0] h = rf d 32 0 [some (.ref a), some (.int x0)] [] h := rfl
theorem e32_0 : rf d 32 0 [some (.ref a), l1] s h = rf d 32 1 [some (.ref a), l1] (.ref a :: s) h := rf_pure (i := .aload_n 0) (len := 1) (okD_ok (by decide +kernel)) rfl
theorem e32_1 : rf d 32 1 ls (.ref 63 :: s) (SH n, I, L, R, nc, ns, nx) = rf d 32 4 ls (.int (I 63 1) :: s) (SH n, I, L, R, nc, ns, nx) := g_I (idx := 13) (by decide +kernel) ow32 f_2_13 rfl rfl (by decide)
theorem e32_4 : rf d 32 4 ls s h = rf d 32 7 ls (.int 256 :: s) h := rf_pure (i := .sipush (256)) (len := 3) (okD_ok (by decide +kernel)) rfl
theorem e32_7 : rf d 32 7 ls (.int y :: .int x :: s) h = if y ≤ x then rf d 32 30 ls s h else rf d 32 10 ls s h := g_ic (c := .ge) (off := 23) _ (by decide +kernel) rfl cmp_d
theorem e32_10 : rf d 32 10 [some (.ref a), l1] s h = rf d 32 11 [some (.ref a), l1] (.ref a :: s) h := rf_pure (i := .aload_n 0) (len := 1) (okD_ok (by decide +kernel)) rfl
theorem e32_11 (hR : LYR R) : rf d 32 11 ls (.ref 63 :: s) (SH n, I, L, R, nc, ns, nx) = rf d 32 14 ls (.ref 64 :: s) (SH n, I, L, R, nc, ns, nx) := g_R (idx := 9) (by decide +kernel) ow32 f_2_9 rfl rfl (by decide) (ly_63_0 hR)
theorem e32_14 : rf d 32 14 [some (.ref a), l1] s h = rf d 32 15 [some (.ref a), l1] (.ref a :: s) h := rf_pure (i := .aload_n 0) (len := 1) (okD_ok (by decide +kernel)) rfl
theorem e32_15 : rf d 32 15 ls (.ref 63 :: s) (SH n, I, L, R, nc, ns, nx) = rf d 32 18 ls (.int (I 63 1) :: s) (SH n, I, L, R, nc, ns, nx) := g_I (idx := 13) (by decide +kernel) ow32 f_2_13 rfl rfl (by decide)
theorem e32_18 : rf d 32 18 [l0, some (.int x)] s h = rf d 32 19 [l0, some (.int x)] (.int x :: s) h := rf_pure (i := .iload_n 1) (len := 1) (okD_ok (by decide +kernel)) rfl
theorem e32_19 (q : ia n a j) : rf d 32 19 ls (.int x :: .int j :: .ref a :: s) (SH n, I, L, R, nc, ns, nx) = rf d 32 20 ls s (SH n, ip_up I a j.toNatClampNeg x, L, R, nc, ns, nx) := g_ias (by decide +kernel) q
theorem e32_20 : rf d 32 20 [some (.ref a), l1] s h = rf d 32 21 [some (.ref a), l1] (.ref a :: s) h := rf_pure (i := .aload_n 0) (len := 1) (okD_ok (by decide +kernel)) rfl
theorem e32_21 : rf d 32 21 ls (.int x :: s) h = rf d 32 22 ls (.int x :: .int x :: s) h := rf_pure (i := .dup) (len := 1) (okD_ok (by decide +kernel)) rfl
theorem e32_21r : rf d 32 21 ls (.ref a :: s) h = rf d 32 22 ls (.ref a :: .ref a :: s) h := rf_pure (i := .dup) (len := 1) (okD_ok (by decide +kernel)) rfl
theorem e32_22 : rf d 32 22 ls (.ref 63 :: s) (SH n, I, L, R, nc, ns, nx) = rf d 32 25 ls (.int (I 63 1) :: s) (SH n, I, L, R, nc, ns, nx) := g_I (idx := 13) (by decide +kernel) ow32 f_2_13 rfl rfl (by decide)
theorem e32_25 : rf d 32 25 ls s h = rf d 32 26 ls (.int 1 :: s) h := rf_pure (i := .iconst (1)) (len := 1) (okD_ok (by decide +kernel)) rfl
theorem e32_26 : rf d 32 26 ls (.int y :: .int x :: s) h = rf d 32 27 ls (.int (x + y) :: s) h := rf_pure (i := .iadd) (len := 1) (okD_ok (by decide +kernel)) rfl
theorem e32_27 : rf d 32 27 ls (.int x :: .ref 63 :: s) (SH n, I, L, R, nc, ns, nx) = rf d 32 30 ls s (SH n, ip_up I 63 1 x, L, R, nc, ns, nx) := g_pI (idx := 13) (by decide +kernel) ow32 f_2_13 rfl (by decide +kernel) rfl (by decide)
theorem e32_30 : rf d 32 30 ls [] h = some (.inl none, h) := g_rv (by decide +kernel) rt32
theorem en33 : cf d 33 [.ref a0] h = rf d 33 0 [some (.ref a0)] [] h := rfl
theorem e33_0 : rf d 33 0 [some (.ref a)] s h = rf d 33 1 [some (.ref a)] (.ref a :: s) h := rf_pure (i := .aload_n 0) (len := 1) (okD_ok (by decide +kernel)) rfl
theorem e33_1 (ha : isN a) : rf d 33 1 ls (.ref a :: s) (SH n, I, L, R, nc, ns, nx) = rf d 33 4 ls (.int (I a 2) :: s) (SH n, I, L, R, nc, ns, nx) := g_I (idx := 201) (by decide +kernel) ow33 f_7_201 rfl (kdN0 ha) (geN ha)
theorem e33_36 : rf d 33 36 ls s h = rf d 33 38 ls (.int 97 :: s) h := rf_pure (i := .bipush (97)) (len := 2) (okD_ok (by decide +kernel)) rfl
theorem e33_38 : rf d 33 38 ls [.int x] h = some (.inl (some (.int x)), h) := g_ri (by decide +kernel) rt33
theorem e33_39 : rf d 33 39 ls s h = rf d 33 41 ls (.int 111 :: s) h := rf_pure (i := .bipush (111)) (len := 2) (okD_ok (by decide +kernel)) rfl
theorem e33_41 : rf d 33 41 ls [.int x] h = some (.inl (some (.int x)), h) := g_ri (by decide +kernel) rt33
theorem e33_42 : rf d 33 42 ls s h = rf d 33 44 ls (.int 118 :: s) h := rf_pure (i := .bipush (118)) (len := 2) (okD_ok (by decide +kernel)) rfl
theorem e33_44 : rf d 33 44 ls [.int x] h = some (.inl (some (.int x)), h) := g_ri (by decide +kernel) rt33
theorem e33_45 : rf d 33 45 ls s h = rf d 33 47 ls (.int 109 :: s) h := rf_pure (i := .bipush (109)) (len := 2) (okD_ok (by decide +kernel)) rfl
theorem e33_47 : rf d 33 47 ls [.int x] h = some (.inl (some (.int x)), h) := g_ri (by decide +kernel) rt33
theorem e33_48 : rf d 33 48 ls s h = rf d 33 50 ls (.int 114 :: s) h := rf_pure (i := .bipush (114)) (len := 2) (okD_ok (by decide +kernel)) rfl
theorem e33_50 : rf d 33 50 ls [.int x] h = some (.inl (some (.int x)), h) := g_ri (by decide +kernel) rt33
theorem en34 : cf d 34 [.ref a, .int x0] h = rf d 34 0 [some (.ref a), some (.int x0)] [] h := rfl
theorem e34_0 : rf d 34 0 [l0, some (.int x)] s h = rf d 34 1 [l0, some (.int x)] (.int x :: s) h := rf_pure (i := .iload_n 1) (len := 1) (okD_ok (by decide +kernel)) rfl
theorem e34_60 : rf d 34 60 [some (.ref a), l1] s h = rf d 34 61 [some (.ref a), l1] (.ref a :: s) h := rf_pure (i := .aload_n 0) (len := 1) (okD_ok (by decide +kernel)) rfl
theorem e34_61 : rf d 34 61 ls (.ref 2 :: s) (SH n, I, L, R, nc, ns, nx) = rf d 34 64 ls (ip_rf (R 2 4) :: s) (SH n, I, L, R, nc, ns, nx) := g_R (idx := 30) (by decide +kernel) ow34 f_7_30 rfl rfl (by decide) rfl
theorem e34_64 (ha : isT a) : rf d 34 64 ls (.ref a :: s) (SH n, I, L, R, nc, ns, nx) = rf d 34 67 ls (.int (I a 6) :: s) (SH n, I, L, R, nc, ns, nx) := g_I (idx := 97) (by decide +kernel) ow34 f_7_97 rfl (kdT0 ha) (geT ha)
theorem e34_67 : rf d 34 67 ls [.int x] h = some (.inl (some (.int x)), h) := g_ri (by decide +kernel) rt34
theorem e34_68 : rf d 34 68 [some (.ref a), l1] s h = rf d 34 69 [some (.ref a), l1] (.ref a :: s) h := rf_pure (i := .aload_n 0) (len := 1) (okD_ok (by decide +kernel)) rfl
theorem e34_69 : rf d 34 69 ls (.ref 2 :: s) (SH n, I, L, R, nc, ns, nx) = rf d 34 72 ls (.int (I 2 6) :: s) (SH n, I, L, R, nc, ns, nx) := g_I (idx := 40) (by decide +kernel) ow34 f_7_40 rfl rfl (by decide)
theorem e34_72 : rf d 34 72 ls [.int x] h = some (.inl (some (.int x)), h) := g_ri (by decide +kernel) rt34
theorem e34_73 : rf d 34 73 [some (.ref a), l1] s h = rf d 34 74 [some (.ref a), l1] (.ref a :: s) h := rf_pure (i := .aload_n 0) (len := 1) (okD_ok (by decide +kernel)) rfl
theorem e34_74 : rf d 34 74 ls (.ref 2 :: s) (SH n, I, L, R, nc, ns, nx) = rf d 34 77 ls (.int (I 2 7) :: s) (SH n, I, L, R, nc, ns, nx) := g_I (idx := 43) (by decide +kernel) ow34 f_7_43 rfl rfl (by decide)
theorem e34_77 : rf d 34 77 ls [.int x] h = some (.inl (some (.int x)), h) := g_ri (by decide +kernel) rt34
theorem e34_78 : rf d 34 78 [some (.ref a), l1] s h = rf d 34 79 [some (.ref a), l1] (.ref a :: s) h := rf_pure (i := .aload_n 0) (len := 1) (okD_ok (by decide +kernel)) rfl
theorem e34_79 : rf d 34 79 ls s h = rf d 34 80 ls (.int (-1) :: s) h := rf_pure (i := .iconst (-1)) (len := 1) (okD_ok (by decide +kernel)) rfl
theorem e34_80 (hcat : ip_cat s ≤ 8) : rf (d + 1) 34 80 ls (.int x0 :: .ref 2 :: s) (SH n, I, L, R, nc, ns, nx) = rf_k (d + 1) 34 80 ls s (cf d 35 [.ref 2, .int x0] (SH n, I, L, R, nc, ns, nx)) := g_cv (idx := 381) (t := 7) [.int x0] (by decide +kernel) ow34 ms_7_381 mt_7_381 cy35_7 rfl rfl mL35 rfl rfl (by decide) hcat
theorem e34_83 : rf d 34 83 ls [.int x] h = some (.inl (some (.int x)), h) := g_ri (by decide +kernel) rt34
theorem e34_84 : rf d 34 84 [some (.ref a), l1] s h = rf d 34 85 [some (.ref a), l1] (.ref a :: s) h := rf_pure (i := .aload_n 0) (len := 1) (okD_ok (by decide +kernel)) rfl
theorem e34_85 : rf d 34 85 ls (.ref 2 :: s) (SH n, I, L, R, nc, ns, nx) = rf d 34 88 ls (.int (I 2 6) :: s) (SH n, I, L, R, nc, ns, nx) := g_I (idx := 40) (by decide +kernel) ow34 f_7_40 rfl rfl (by decide)
theorem e34_88 : rf d 34 88 [some (.ref a), l1] s h = rf d 34 89 [some (.ref a), l1] (.ref a :: s) h := rf_pure (i := .aload_n 0) (len := 1) (okD_ok (by decide +kernel)) rfl
theorem e34_89 : rf d 34 89 ls s h = rf d 34 90 ls (.int (-1) :: s) h := rf_pure (i := .iconst (-1)) (len := 1) (okD_ok (by decide +kernel)) rfl
theorem e34_90 (hcat : ip_cat s ≤ 8) : rf (d + 1) 34 90 ls (.int x0 :: .ref 2 :: s) (SH n, I, L, R, nc, ns, nx) = rf_k (d + 1) 34 90 ls s (cf d 35 [.ref 2, .int x0] (SH n, I, L, R, nc, ns, nx)) := g_cv (idx := 381) (t := 7) [.int x0] (by decide +kernel) ow34 ms_7_381 mt_7_381 cy35_7 rfl rfl mL35 rfl rfl (by decide) hcat
theorem e34_93 : rf d 34 93 ls (.int y :: .int x :: s) h = rf d 34 94 ls (.int (x - y) :: s) h := rf_pure (i := .isub) (len := 1) (okD_ok (by decide +kernel)) rfl
theorem e34_94 : rf d 34 94 ls [.int x] h = some (.inl (some (.int x)), h) := g_ri (by decide +kernel) rt34
theorem e34_95 : rf d 34 95 [some (.ref a), l1] s h = rf d 34 96 [some (.ref a), l1] (.ref a :: s) h := rf_pure (i := .aload_n 0) (len := 1) (okD_ok (by decide +kernel)) rfl
theorem e34_96 : rf d 34 96 ls s h = rf d 34 97 ls (.int 0 :: s) h := rf_pure (i := .iconst (0)) (len := 1) (okD_ok (by decide +kernel)) rfl
theorem e34_97 (hcat : ip_cat s ≤ 8) : rf (d + 1) 34 97 ls (.int x0 :: .ref 2 :: s) (SH n, I, L, R, nc, ns, nx) = rf_k (d + 1) 34 97 ls s (cf d 35 [.ref 2, .int x0] (SH n, I, L, R, nc, ns, nx)) := g_cv (idx := 381) (t := 7) [.int x0] (by decide +kernel) ow34 ms_7_381 mt_7_381 cy35_7 rfl rfl mL35 rfl rfl (by decide) hcat
theorem e34_100 : rf d 34 100 ls [.int x] h = some (.inl (some (.int x)), h) := g_ri (by decide +kernel) rt34
theorem e34_101 : rf d 34 101 [some (.ref a), l1] s h = rf d 34 102 [some (.ref a), l1] (.ref a :: s) h := rf_pure (i := .aload_n 0) (len := 1) (okD_ok (by decide +kernel)) rfl
theorem e34_102 : rf d 34 102 ls s h = rf d 34 103 ls (.int 1 :: s) h := rf_pure (i := .iconst (1)) (len := 1) (okD_ok (by decide +kernel)) rfl
theorem e34_103 (hcat : ip_cat s ≤ 8) : rf (d + 1) 34 103 ls (.int x0 :: .ref 2 :: s) (SH n, I, L, R, nc, ns, nx) = rf_k (d + 1) 34 103 ls s (cf d 35 [.ref 2, .int x0] (SH n, I, L, R, nc, ns, nx)) := g_cv (idx := 381) (t := 7) [.int x0] (by decide +kernel) ow34 ms_7_381 mt_7_381 cy35_7 rfl rfl mL35 rfl rfl (by decide) hcat
theorem e34_106 : rf d 34 106 ls [.int x] h = some (.inl (some (.int x)), h) := g_ri (by decide +kernel) rt34
theorem e34_107 : rf d 34 107 [some (.ref a), l1] s h = rf d 34 108 [some (.ref a), l1] (.ref a :: s) h := rf_pure (i := .aload_n 0) (len := 1) (okD_ok (by decide +kernel)) rfl
theorem e34_108 : rf d 34 108 ls s h = rf d 34 109 ls (.int 2 :: s) h := rf_pure (i := .iconst (2)) (len := 1) (okD_ok (by decide +kernel)) rfl
theorem e34_109 (hcat : ip_cat s ≤ 8) : rf (d + 1) 34 109 ls (.int x0 :: .ref 2 :: s) (SH n, I, L, R, nc, ns, nx) = rf_k (d + 1) 34 109 ls s (cf d 35 [.ref 2, .int x0] (SH n, I, L, R, nc, ns, nx)) := g_cv (idx := 381) (t := 7) [.int x0] (by decide +kernel) ow34 ms_7_381 mt_7_381 cy35_7 rfl rfl mL35 rfl rfl (by decide) hcat
theorem e34_112 : rf d 34 112 ls [.int x] h = some (.inl (some (.int x)), h) := g_ri (by decide +kernel) rt34
theorem e34_113 : rf d 34 113 [some (.ref a), l1] s h = rf d 34 114 [some (.ref a), l1] (.ref a :: s) h := rf_pure (i := .aload_n 0) (len := 1) (okD_ok (by decide +kernel)) rfl
theorem e34_114 : rf d 34 114 ls s h = rf d 34 115 ls (.int 3 :: s) h := rf_pure (i := .iconst (3)) (len := 1) (okD_ok (by decide +kernel)) rfl
theorem e34_115 (hcat : ip_cat s ≤ 8) : rf (d + 1) 34 115 ls (.int x0 :: .ref 2 :: s) (SH n, I, L, R, nc, ns, nx) = rf_k (d + 1) 34 115 ls s (cf d 35 [.ref 2, .int x0] (SH n, I, L, R, nc, ns, nx)) := g_cv (idx := 381) (t := 7) [.int x0] (by decide +kernel) ow34 ms_7_381 mt_7_381 cy35_7 rfl rfl mL35 rfl rfl (by decide) hcat
theorem e34_118 : rf d 34 118 ls [.int x] h = some (.inl (some (.int x)), h) := g_ri (by decide +kernel) rt34
theorem e34_119 : rf d 34 119 [some (.ref a), l1] s h = rf d 34 120 [some (.ref a), l1] (.ref a :: s) h := rf_pure (i := .aload_n 0) (len := 1) (okD_ok (by decide +kernel)) rfl
theorem e34_120 : rf d 34 120 ls (.ref 2 :: s) (SH n, I, L, R, nc, ns, nx) = rf d 34 123 ls (ip_rf (R 2 4) :: s) (SH n, I, L, R, nc, ns, nx) := g_R (idx := 30) (by decide +kernel) ow34 f_7_30 rfl rfl (by decide) rfl
theorem e34_123 (ha : isT a) : rf d 34 123 ls (.ref a :: s) (SH n, I, L, R, nc, ns, nx) = rf d 34 126 ls (.int (I a 7) :: s) (SH n, I, L, R, nc, ns, nx) := g_I (idx := 384) (by decide +kernel) ow34 f_7_384 rfl (kdT0 ha) (geT ha)
theorem e34_126 : rf d 34 126 ls [.int x] h = some (.inl (some (.int x)), h) := g_ri (by decide +kernel) rt34
theorem e34_127 : rf d 34 127 [some (.ref a), l1] s h = rf d 34 128 [some (.ref a), l1] (.ref a :: s) h := rf_pure (i := .aload_n 0) (len := 1) (okD_ok (by decide +kernel)) rfl
theorem e34_128 (hR : LYR R) : rf d 34 128 ls (.ref 2 :: s) (SH n, I, L, R, nc, ns, nx) = rf d 34 131 ls (.ref 63 :: s) (SH n, I, L, R, nc, ns, nx) := g_R (idx := 63) (by decide +kernel) ow34 f_7_63 rfl rfl (by decide) (ly_2_10 hR)
theorem e34_131 : rf d 34 131 ls (.ref 63 :: s) (SH n, I, L, R, nc, ns, nx) = rf d 34 134 ls (.int (I 63 1) :: s) (SH n, I, L, R, nc, ns, nx) := g_I (idx := 332) (by decide +kernel) ow34 f_7_332 rfl rfl (by decide)
theorem e34_134 : rf d 34 134 ls [.int x] h = some (.inl (some (.int x)), h) := g_ri (by decide +kernel) rt34
theorem e34_135 : rf d 34 135 ls s h = rf d 34 136 ls (.int (-1) :: s) h := rf_pure (i := .iconst (-1)) (len := 1) (okD_ok (by decide +kernel)) rfl
theorem e34_136 : rf d 34 136 ls [.int x] h = some (.inl (some (.int x)), h) := g_ri (by decide +kernel) rt34
theorem en35 : cf d 35 [.ref a, .int x0] h = rf d 35 0 [some (.ref a), some (.int x0), none, none] [] h := rfl
theorem e35_0 : rf d 35 0 ls s h = rf d 35 1 ls (.int 0 :: s) h := rf_pure (i := .iconst (0)) (len := 1) (okD_ok (by decide +kernel)) rfl
theorem e35_1 (hn : ip_nl l1 = true) : rf d 35 1 [l0, l1, l2, l3] (.int x :: s) h = rf d 35 2 [l0, l1, some (.int x), l3] s h := g_sti (i := .istore_n 2) (len := 1) (q := 1) (p := 1) (by decide +kernel) rfl rfl hn
theorem e35_2 : rf d 35 2 ls s h = rf d 35 3 ls (.int 0 :: s) h := rf_pure (i := .iconst (0)) (len := 1) (okD_ok (by decide +kernel)) rfl
theorem e35_3 (hn : ip_nl l2 = true) : rf d 35 3 [l0, l1, l2, l3] (.int x :: s) h = rf d 35 4 [l0, l1, l2, some (.int x)] s h := g_sti (i := .istore_n 3) (len := 1) (q := 2) (p := 1) (by decide +kernel) rfl rfl hn
theorem e35_4 : rf d 35 4 [l0, l1, l2, some (.int x)] s h = rf d 35 5 [l0, l1, l2, some (.int x)] (.int x :: s) h := rf_pure (i := .iload_n 3) (len := 1) (okD_ok (by decide +kernel)) rfl
theorem e35_5 : rf d 35 5 [some (.ref a), l1, l2, l3] s h = rf d 35 6 [some (.ref a), l1, l2, l3] (.ref a :: s) h := rf_pure (i := .aload_n 0) (len := 1) (okD_ok (by decide +kernel)) rfl
theorem e35_6 : rf d 35 6 ls (.ref 2 :: s) (SH n, I, L, R, nc, ns, nx) = rf d 35 9 ls (.int (I 2 6) :: s) (SH n, I, L, R, nc, ns, nx) := g_I (idx := 40) (by decide +kernel) ow35 f_7_40 rfl rfl (by decide)
theorem e35_9 : rf d 35 9 ls (.int y :: .int x :: s) h = if y ≤ x then rf d 35 34 ls s h else rf d 35 12 ls s h := g_ic (c := .ge) (off := 25) _ (by decide +kernel) rfl cmp_d
theorem e35_12 : rf d 35 12 [some (.ref a), l1, l2, l3] s h = rf d 35 13 [some (.ref a), l1, l2, l3] (.ref a :: s) h := rf_pure (i := .aload_n 0) (len := 1) (okD_ok (by decide +kernel)) rfl
theorem e35_13 (hR : LYR R) : rf d 35 13 ls (.ref 2 :: s) (SH n, I, L, R, nc, ns, nx) = rf d 35 16 ls (.ref 23 :: s) (SH n, I, L, R, nc, ns, nx) := g_R (idx := 36) (by decide +kernel) ow35 f_7_36 rfl rfl (by decide) (ly_2_5 hR)
theorem e35_16 : rf d 35 16 [l0, l1, l2, some (.int x)] s h = rf d 35 17 [l0, l1, l2, some (.int x)] (.int x :: s) h := rf_pure (i := .iload_n 3) (len := 1) (okD_ok (by decide +kernel)) rfl
theorem e35_17 (hR : LYR R) (q : inb j 40) : rf d 35 17 ls (.int j :: .ref 23 :: s) (SH n, I, L, R, nc, ns, nx) = rf d 35 18 ls (.ref (nd j) :: s) (SH n, I, L, R, nc, ns, nx) := g_aal (by decide +kernel) hR q
theorem e35_18 (ha : isN a) : rf d 35 18 ls (.ref a :: s) (SH n, I, L, R, nc, ns, nx) = rf d 35 21 ls (.int (I a 2) :: s) (SH n, I, L, R, nc, ns, nx) := g_I (idx := 201) (by decide +kernel) ow35 f_7_201 rfl (kdN0 ha) (geN ha)
theorem e35_21 : rf d 35 21 [l0, some (.int x), l2, l3] s h = rf d 35 22 [l0, some (.int x), l2, l3] (.int x :: s) h := rf_pure (i := .iload_n 1) (len := 1) (okD_ok (by decide +kernel)) rfl
theorem e35_22 : rf d 35 22 ls (.int y :: .int x :: s) h = if ¬ x = y then rf d 35 28 ls s h else rf d 35 25 ls s h := g_ic (c := .ne) (off := 6) _ (by decide +kernel) rfl cmp_d
theorem e35_25 (hn : ip_nl l1 = true) : rf d 35 25 [l0, l1, some (.int x), l3] s h = rf d 35 28 [l0, l1, some (.int (x + 1)), l3] s h := g_inc (q := 1) (z := 1) (w := 1) (x := x) (by decide) (by decide +kernel) rfl rfl hn
theorem e35_28 (hn : ip_nl l2 = true) : rf d 35 28 [l0, l1, l2, some (.int x)] s h = rf d 35 31 [l0, l1, l2, some (.int (x + 1))] s h := g_inc (q := 2) (z := 1) (w := 1) (x := x) (by decide) (by decide +kernel) rfl rfl hn
theorem e35_31 : rf d 35 31 ls s h = rf d 35 4 ls s h := rf_goto ⟨okD_ok (i := .goto (-27)) (len := 3) (by decide +kernel), rfl⟩
theorem e35_34 : rf d 35 34 [l0, l1, some (.int x), l3] s h = rf d 35 35 [l0, l1, some (.int x), l3] (.int x :: s) h := rf_pure (i := .iload_n 2) (len := 1) (okD_ok (by decide +kernel)) rfl
theorem e35_35 : rf d 35 35 ls [.int x] h = some (.inl (some (.int x)), h) := g_ri (by decide +kernel) rt35
theorem en36 : cf d 36 [.ref a0, .ref a1] h = rf d 36 0 [some (.ref a0), some (.ref a1), none] [] h := rfl
theorem e36_0 : rf d 36 0 [l0, some (.ref a), l2] s h = rf d 36 1 [l0, some (.ref a), l2] (.ref a :: s) h := rf_pure (i := .aload_n 1) (len := 1) (okD_ok (by decide +kernel)) rfl
theorem e36_1 : rf d 36 1 ls s h = rf d 36 2 ls (.int 0 :: s) h := rf_pure (i := .iconst (0)) (len := 1) (okD_ok (by decide +kernel)) rfl
theorem e36_2 : rf d 36 2 [some (.ref a), l1, l2] s h = rf d 36 3 [some (.ref a), l1, l2] (.ref a :: s) h := rf_pure (i := .aload_n 0) (len := 1) (okD_ok (by decide +kernel)) rfl
theorem e36_3 (hcat : ip_cat s ≤ 8) : rf (d + 1) 36 3 ls (.ref 2 :: s) (SH n, I, L, R, nc, ns, nx) = rf_k (d + 1) 36 3 ls s (cf d 37 [.ref 2] (SH n, I, L, R, nc, ns, nx)) := g_cv (idx := 7) (t := 7) [] (by decide +kernel) ow36 ms_9_7 mt_9_7 cy37_7 rfl rfl mL37 rfl rfl (by decide) hcat
theorem e36_6 : rf d 36 6 ls (.int x :: s) h = rf d 36 7 ls (.long x.toInt64 :: s) h := rf_pure (i := .i2l) (len := 1) (okD_ok (by decide +kernel)) rfl
theorem e36_7 (q : la n a j) : rf d 36 7 ls (.long u :: .int j :: .ref a :: s) (SH n, I, L, R, nc, ns, nx) = rf d 36 8 ls s (SH n, I, ip_up L a j.toNatClampNeg u, R, nc, ns, nx) := g_las (by decide +kernel) q
theorem e36_8 : rf d 36 8 ls s h = rf d 36 14 ls s h := rf_goto ⟨okD_ok (i := .goto (6)) (len := 3) (by decide +kernel), rfl⟩
theorem e36_14 : rf d 36 14 ls s h = rf d 36 15 ls (.int 0 :: s) h := rf_pure (i := .iconst (0)) (len := 1) (okD_ok (by decide +kernel)) rfl
theorem e36_15 : rf d 36 15 ls [.int x] h = some (.inl (some (.int x)), h) := g_ri (by decide +kernel) rt36
theorem en37 : cf d 37 [.ref a] h = rf d 37 0 [some (.ref a), none] [] h := rfl
theorem e37_0 : rf d 37 0 [some (.ref a), l1] s h = rf d 37 1 [some (.ref a), l1] (.ref a :: s) h := rf_pure (i := .aload_n 0) (len := 1) (okD_ok (by decide +kernel)) rfl
theorem e37_1 : rf d 37 1 ls (.ref 2 :: s) (SH n, I, L, R, nc, ns, nx) = rf d 37 4 ls (.int (I 2 1) :: s) (SH n, I, L, R, nc, ns, nx) := g_I (idx := 13) (by decide +kernel) ow37 f_7_13 rfl rfl (by decide)
theorem e37_4 (hn : ip_nl l0 = true) : rf d 37 4 [l0, l1] (.int x :: s) h = rf d 37 5 [l0, some (.int x)] s h := g_sti (i := .istore_n 1) (len := 1) (q := 0) (p := 1) (by decide +kernel) rfl rfl hn
theorem e37_5 : rf d 37 5 [some (.ref a), l1] s h = rf d 37 6 [some (.ref a), l1] (.ref a :: s) h := rf_pure (i := .aload_n 0) (len := 1) (okD_ok (by decide +kernel)) rfl
theorem e37_6 : rf d 37 6 ls s h = rf d 37 7 ls (.int 0 :: s) h := rf_pure (i := .iconst (0)) (len := 1) (okD_ok (by decide +kernel)) rfl
theorem e37_7 : rf d 37 7 ls (.int x :: .ref 2 :: s) (SH n, I, L, R, nc, ns, nx) = rf d 37 10 ls s (SH n, ip_up I 2 1 x, L, R, nc, ns, nx) := g_pI (idx := 13) (by decide +kernel) ow37 f_7_13 rfl (by decide +kernel) rfl (by decide)
theorem e37_10 : rf d 37 10 [some (.ref a), l1] s h = rf d 37 11 [some (.ref a), l1] (.ref a :: s) h := rf_pure (i := .aload_n 0) (len := 1) (okD_ok (by decide +kernel)) rfl
theorem e37_11 : rf d 37 11 [some (.ref a), l1] s h = rf d 37 12 [some (.ref a), l1] (.ref a :: s) h := rf_pure (i := .aload_n 0) (len := 1) (okD_ok (by decide +kernel)) rfl
theorem e37_12 (hR : LYR R) : rf d 37 12 ls (.ref 2 :: s) (SH n, I, L, R, nc, ns, nx) = rf d 37 15 ls (.ref 4 :: s) (SH n, I, L, R, nc, ns, nx) := g_R (idx := 23) (by decide +kernel) ow37 f_7_23 rfl rfl (by decide) (ly_2_3 hR)
theorem e37_15 : rf d 37 15 [some (.ref a), l1] s h = rf d 37 16 [some (.ref a), l1] (.ref a :: s) h := rf_pure (i := .aload_n 0) (len := 1) (okD_ok (by decide +kernel)) rfl
theorem e37_16 (hR : LYR R) : rf d 37 16 ls (.ref 2 :: s) (SH n, I, L, R, nc, ns, nx) = rf d 37 19 ls (.ref 3 :: s) (SH n, I, L, R, nc, ns, nx) := g_R (idx := 9) (by decide +kernel) ow37 f_7_9 rfl rfl (by decide) (ly_2_0 hR)
theorem e37_19 : rf d 37 19 [l0, some (.int x)] s h = rf d 37 20 [l0, some (.int x)] (.int x :: s) h := rf_pure (i := .iload_n 1) (len := 1) (okD_ok (by decide +kernel)) rfl
theorem e37_20 (hcat : ip_cat s ≤ 8) : rf (d + 1) 37 20 ls (.int x1 :: .ref a0 :: .ref 4 :: s) (SH n, I, L, R, nc, ns, nx) = rf_k (d + 1) 37 20 ls s (cf d 38 [.ref 4, .ref a0, .int x1] (SH n, I, L, R, nc, ns, nx)) := g_cv (idx := 82) (t := 4) [.int x1, .ref a0] (by decide +kernel) ow37 ms_7_82 mt_7_82 cy38_4 rfl rfl mL38 rfl rfl (by decide) hcat
theorem e37_23 : rf d 37 23 ls (.int x :: .ref 2 :: s) (SH n, I, L, R, nc, ns, nx) = rf d 37 26 ls s (SH n, ip_up I 2 2 x, L, R, nc, ns, nx) := g_pI (idx := 17) (by decide +kernel) ow37 f_7_17 rfl (by decide +kernel) rfl (by decide)
theorem e37_26 : rf d 37 26 [some (.ref a), l1] s h = rf d 37 27 [some (.ref a), l1] (.ref a :: s) h := rf_pure (i := .aload_n 0) (len := 1) (okD_ok (by decide +kernel)) rfl
theorem e37_27 : rf d 37 27 ls (.ref 2 :: s) (SH n, I, L, R, nc, ns, nx) = rf d 37 30 ls (.int (I 2 2) :: s) (SH n, I, L, R, nc, ns, nx) := g_I (idx := 17) (by decide +kernel) ow37 f_7_17 rfl rfl (by decide)
theorem e37_30 : rf d 37 30 ls s h = rf d 37 31 ls (.int (-1) :: s) h := rf_pure (i := .iconst (-1)) (len := 1) (okD_ok (by decide +kernel)) rfl
theorem e37_31 : rf d 37 31 ls (.int y :: .int x :: s) h = if x = y then rf d 37 44 ls s h else rf d 37 34 ls s h := g_ic (c := .eq) (off := 13) _ (by decide +kernel) rfl cmp_d
theorem e37_34 : rf d 37 34 ls [] h = some (.inr "java/lang/IllegalArgumentException", ip_hx h) := g_thr (idx := 86) (by decide +kernel) ow37 (by decide +kernel) (by decide +kernel)
theorem e37_44 : rf d 37 44 [some (.ref a), l1] s h = rf d 37 45 [some (.ref a), l1] (.ref a :: s) h := rf_pure (i := .aload_n 0) (len := 1) (okD_ok (by decide +kernel)) rfl
theorem e37_45 : rf d 37 45 [some (.ref a), l1] s h = rf d 37 46 [some (.ref a), l1] (.ref a :: s) h := rf_pure (i := .aload_n 0) (len := 1) (okD_ok (by decide +kernel)) rfl
theorem e37_46 (hR : LYR R) : rf d 37 46 ls (.ref 2 :: s) (SH n, I, L, R, nc, ns, nx) = rf d 37 49 ls (.ref 4 :: s) (SH n, I, L, R, nc, ns, nx) := g_R (idx := 23) (by decide +kernel) ow37 f_7_23 rfl rfl (by decide) (ly_2_3 hR)
theorem e37_49 : rf d 37 49 [some (.ref a), l1] s h = rf d 37 50 [some (.ref a), l1] (.ref a :: s) h := rf_pure (i := .aload_n 0) (len := 1) (okD_ok (by decide +kernel)) rfl
theorem e37_50 : rf d 37 50 ls (.ref 2 :: s) (SH n, I, L, R, nc, ns, nx) = rf d 37 53 ls (ip_rf (R 2 4) :: s) (SH n, I, L, R, nc, ns, nx) := g_R (idx := 30) (by decide +kernel) ow37 f_7_30 rfl rfl (by decide) rfl
theorem e37_53 (hcat : ip_cat s ≤ 8) : rf (d + 1) 37 53 ls (.ref a0 :: .ref 4 :: s) (SH n, I, L, R, nc, ns, nx) = rf_k (d + 1) 37 53 ls s (cf d 72 [.ref 4, .ref a0] (SH n, I, L, R, nc, ns, nx)) := g_cv (idx := 93) (t := 4) [.ref a0] (by decide +kernel) ow37 ms_7_93 mt_7_93 cy72_4 rfl rfl mL72 rfl rfl (by decide) hcat
theorem e37_56 : rf d 37 56 ls (.ref b :: .ref 2 :: s) (SH n, I, L, R, nc, ns, nx) = rf d 37 59 ls s (SH n, I, L, ip_up R 2 4 (some b), nc, ns, nx) := g_pR (idx := 30) (by decide +kernel) ow37 f_7_30 rfl (by decide +kernel) rfl (by decide)
theorem e37_59 : rf d 37 59 [some (.ref a), l1] s h = rf d 37 60 [some (.ref a), l1] (.ref a :: s) h := rf_pure (i := .aload_n 0) (len := 1) (okD_ok (by decide +kernel)) rfl
theorem e37_60 (hcat : ip_cat s ≤ 8) : rf (d + 1) 37 60 ls (.ref 2 :: s) (SH n, I, L, R, nc, ns, nx) = rf_k (d + 1) 37 60 ls s (cf d 9 [.ref 2] (SH n, I, L, R, nc, ns, nx)) := g_cv (idx := 68) (t := 7) [] (by decide +kernel) ow37 ms_7_68 mt_7_68 cy9_7 rfl rfl mL9 rfl rfl (by decide) hcat
theorem e37_63 : rf d 37 63 [some (.ref a), l1] s h = rf d 37 64 [some (.ref a), l1] (.ref a :: s) h := rf_pure (i := .aload_n 0) (len := 1) (okD_ok (by decide +kernel)) rfl
theorem e37_64 : rf d 37 64 ls (.ref 2 :: s) (SH n, I, L, R, nc, ns, nx) = rf d 37 67 ls (ip_rf (R 2 4) :: s) (SH n, I, L, R, nc, ns, nx) := g_R (idx := 30) (by decide +kernel) ow37 f_7_30 rfl rfl (by decide) rfl
theorem e37_67 (ha : isT a) : rf d 37 67 ls (.ref a :: s) (SH n, I, L, R, nc, ns, nx) = rf d 37 70 ls (.int (I a 6) :: s) (SH n, I, L, R, nc, ns, nx) := g_I (idx := 97) (by decide +kernel) ow37 f_7_97 rfl (kdT0 ha) (geT ha)
theorem e37_70 : rf d 37 70 ls [.int x] h = some (.inl (some (.int x)), h) := g_ri (by decide +kernel) rt37
theorem en38 : cf d 38 [.ref a, .ref a0, .int x1] h = rf d 38 0 [some (.ref a), some (.ref a0), some (.int x1), none, none] [] h := rfl
theorem e38_0 : rf d 38 0 [some (.ref a), l1, l2, l3, l4] s h = rf d 38 1 [some (.ref a), l1, l2, l3, l4] (.ref a :: s) h := rf_pure (i := .aload_n 0) (len := 1) (okD_ok (by decide +kernel)) rfl
theorem e38_1 : rf d 38 1 [l0, some (.ref a), l2, l3, l4] s h = rf d 38 2 [l0, some (.ref a), l2, l3, l4] (.ref a :: s) h := rf_pure (i := .aload_n 1) (len := 1) (okD_ok (by decide +kernel)) rfl
theorem e38_2 : rf d 38 2 ls (.ref b :: .ref 4 :: s) (SH n, I, L, R, nc, ns, nx) = rf d 38 5 ls s (SH n, I, L, ip_up R 4 1 (some b), nc, ns, nx) := g_pR (idx := 18) (by decide +kernel) ow38 f_4_18 rfl (by decide +kernel) rfl (by decide)
theorem e38_5 : rf d 38 5 [some (.ref a), l1, l2, l3, l4] s h = rf d 38 6 [some (.ref a), l1, l2, l3, l4] (.ref a :: s) h := rf_pure (i := .aload_n 0) (len := 1) (okD_ok (by decide +kernel)) rfl
theorem e38_6 : rf d 38 6 [l0, l1, some (.int x), l3, l4] s h = rf d 38 7 [l0, l1, some (.int x), l3, l4] (.int x :: s) h := rf_pure (i := .iload_n 2) (len := 1) (okD_ok (by decide +kernel)) rfl
theorem e38_7 : rf d 38 7 [l0, some (.ref a), l2, l3, l4] s h = rf d 38 8 [l0, some (.ref a), l2, l3, l4] (.ref a :: s) h := rf_pure (i := .aload_n 1) (len := 1) (okD_ok (by decide +kernel)) rfl
theorem e38_8 (q : (kd (SH n) a = 100 ∨ kd (SH n) a = 101) ∧ 2 ≤ a) : rf d 38 8 ls (.ref a :: s) (SH n, I, L, R, nc, ns, nx) = rf d 38 9 ls (.int (Int32.ofNat (ln (SH n) a)) :: s) (SH n, I, L, R, nc, ns, nx) := g_len (by decide +kernel) q
theorem e38_9 (hcat : ip_cat s ≤ 8) : rf d 38 9 ls (.int y :: .int x :: s) h = rf d 38 12 ls (.int (if y < x then y else x) :: s) h := g_min (idx := 29) (by decide +kernel) ow38 (by decide +kernel) hcat
theorem e38_12 : rf d 38 12 ls (.int x :: .ref 4 :: s) (SH n, I, L, R, nc, ns, nx) = rf d 38 15 ls s (SH n, ip_up I 4 3 x, L, R, nc, ns, nx) := g_pI (idx := 35) (by decide +kernel) ow38 f_4_35 rfl (by decide +kernel) rfl (by decide)
theorem e38_15 : rf d 38 15 [some (.ref a), l1, l2, l3, l4] s h = rf d 38 16 [some (.ref a), l1, l2, l3, l4] (.ref a :: s) h := rf_pure (i := .aload_n 0) (len := 1) (okD_ok (by decide +kernel)) rfl
theorem e38_16 : rf d 38 16 ls s h = rf d 38 17 ls (.int 0 :: s) h := rf_pure (i := .iconst (0)) (len := 1) (okD_ok (by decide +kernel)) rfl
theorem e38_17 : rf d 38 17 ls (.int x :: .ref 4 :: s) (SH n, I, L, R, nc, ns, nx) = rf d 38 20 ls s (SH n, ip_up I 4 4 x, L, R, nc, ns, nx) := g_pI (idx := 39) (by decide +kernel) ow38 f_4_39 rfl (by decide +kernel) rfl (by decide)
theorem e38_20 : rf d 38 20 [some (.ref a), l1, l2, l3, l4] s h = rf d 38 21 [some (.ref a), l1, l2, l3, l4] (.ref a :: s) h := rf_pure (i := .aload_n 0) (len := 1) (okD_ok (by decide +kernel)) rfl
theorem e38_21 : rf d 38 21 ls (.ref 4 :: s) (SH n, I, L, R, nc, ns, nx) = rf d 38 24 ls (ip_rf (R 4 2) :: s) (SH n, I, L, R, nc, ns, nx) := g_R (idx := 25) (by decide +kernel) ow38 f_4_25 rfl rfl (by decide) rfl
theorem e38_24 (hb : isT b) (hcat : ip_cat s ≤ 8) : rf (d + 1) 38 24 ls (.ref b :: s) (SH n, I, L, R, nc, ns, nx) = rf_k (d + 1) 38 24 ls s (cf d 4 [.ref b] (SH n, I, L, R, nc, ns, nx)) := g_cv (idx := 42) (t := 6) [] (by decide +kernel) ow38 ms_4_42 mt_4_42 cy4_6 rfl rfl mL4 rfl (kdT0 hb) (geT hb) hcat
theorem e38_27 : rf d 38 27 [some (.ref a), l1, l2, l3, l4] s h = rf d 38 28 [some (.ref a), l1, l2, l3, l4] (.ref a :: s) h := rf_pure (i := .aload_n 0) (len := 1) (okD_ok (by decide +kernel)) rfl
theorem e38_28 (hR : LYR R) : rf d 38 28 ls (.ref 4 :: s) (SH n, I, L, R, nc, ns, nx) = rf d 38 31 ls (.ref 5 :: s) (SH n, I, L, R, nc, ns, nx) := g_R (idx := 12) (by decide +kernel) ow38 f_4_12 rfl rfl (by decide) (ly_4_0 hR)
theorem e38_31 (hcat : ip_cat s ≤ 8) : rf (d + 1) 38 31 ls (.ref 5 :: s) (SH n, I, L, R, nc, ns, nx) = rf_k (d + 1) 38 31 ls s (cf d 39 [.ref 5] (SH n, I, L, R, nc, ns, nx)) := g_cv (idx := 45) (t := 5) [] (by decide +kernel) ow38 ms_4_45 mt_4_45 cy39_5 rfl rfl mL39 rfl rfl (by decide) hcat
theorem e38_34 : rf d 38 34 [some (.ref a), l1, l2, l3, l4] s h = rf d 38 35 [some (.ref a), l1, l2, l3, l4] (.ref a :: s) h := rf_pure (i := .aload_n 0) (len := 1) (okD_ok (by decide +kernel)) rfl
theorem e38_35 (hcat : ip_cat s ≤ 8) : rf (d + 1) 38 35 ls (.ref 4 :: s) (SH n, I, L, R, nc, ns, nx) = rf_k (d + 1) 38 35 ls s (cf d 40 [.ref 4] (SH n, I, L, R, nc, ns, nx)) := g_cv (idx := 48) (t := 4) [] (by decide +kernel) ow38 ms_4_48 mt_4_48 cy40_4 rfl rfl mL40 rfl rfl (by decide) hcat
theorem e38_38 : rf d 38 38 ls s h = rf d 38 39 ls (.int 0 :: s) h := rf_pure (i := .iconst (0)) (len := 1) (okD_ok (by decide +kernel)) rfl
theorem e38_39 (hn : ip_nl l2 = true) : rf d 38 39 [l0, l1, l2, l3, l4] (.int x :: s) h = rf d 38 40 [l0, l1, l2, some (.int x), l4] s h := g_sti (i := .istore_n 3) (len := 1) (q := 2) (p := 1) (by decide +kernel) rfl rfl hn
theorem e38_40 : rf d 38 40 [l0, l1, l2, some (.int x), l4] s h = rf d 38 41 [l0, l1, l2, some (.int x), l4] (.int x :: s) h := rf_pure (i := .iload_n 3) (len := 1) (okD_ok (by decide +kernel)) rfl
theorem e38_41 : rf d 38 41 ls s h = rf d 38 44 ls (.int 400 :: s) h := rf_pure (i := .sipush (400)) (len := 3) (okD_ok (by decide +kernel)) rfl
theorem e38_44 : rf d 38 44 ls (.int y :: .int x :: s) h = if y < x then rf d 38 161 ls s h else rf d 38 47 ls s h := g_ic (c := .gt) (off := 117) _ (by decide +kernel) rfl cmp_d
theorem e38_47 : rf d 38 47 [some (.ref a), l1, l2, l3, l4] s h = rf d 38 48 [some (.ref a), l1, l2, l3, l4] (.ref a :: s) h := rf_pure (i := .aload_n 0) (len := 1) (okD_ok (by decide +kernel)) rfl
theorem e38_48 : rf d 38 48 ls (.ref 4 :: s) (SH n, I, L, R, nc, ns, nx) = rf d 38 51 ls (.int (I 4 6) :: s) (SH n, I, L, R, nc, ns, nx) := g_I (idx := 51) (by decide +kernel) ow38 f_4_51 rfl rfl (by decide)
theorem e38_51 : rf d 38 51 ls s h = rf d 38 53 ls (.int 15 :: s) h := rf_pure (i := .bipush (15)) (len := 2) (okD_ok (by decide +kernel)) rfl
theorem e38_53 : rf d 38 53 ls (.int y :: .int x :: s) h = if x = y then rf d 38 161 ls s h else rf d 38 56 ls s h := g_ic (c := .eq) (off := 108) _ (by decide +kernel) rfl cmp_d
theorem e38_56 : rf d 38 56 ls s h = rf d 38 57 ls (.int 0 :: s) h := rf_pure (i := .iconst (0)) (len := 1) (okD_ok (by decide +kernel)) rfl
theorem e38_57 (hn : ip_nl l3 = true) : rf d 38 57 [l0, l1, l2, l3, l4] (.int x :: s) h = rf d 38 59 [l0, l1, l2, l3, some (.int x)] s h := g_sti (i := .istore 4) (len := 2) (q := 3) (p := 2) (by decide +kernel) rfl rfl hn
theorem e38_59 : rf d 38 59 [some (.ref a), l1, l2, l3, l4] s h = rf d 38 60 [some (.ref a), l1, l2, l3, l4] (.ref a :: s) h := rf_pure (i := .aload_n 0) (len := 1) (okD_ok (by decide +kernel)) rfl
theorem e38_60 : rf d 38 60 ls (.ref 4 :: s) (SH n, I, L, R, nc, ns, nx) = rf d 38 63 ls (.int (I 4 6) :: s) (SH n, I, L, R, nc, ns, nx) := g_I (idx := 51) (by decide +kernel) ow38 f_4_51 rfl rfl (by decide)
theorem e38_63 : rf d 38 63 ls (.int x :: s) h = if ¬ x = 0 then rf d 38 95 ls s h else rf d 38 66 ls s h := g_if (c := .ne) (off := 32) _ (by decide +kernel) rfl cmp_d
theorem e38_66 : rf d 38 66 [some (.ref a), l1, l2, l3, l4] s h = rf d 38 67 [some (.ref a), l1, l2, l3, l4] (.ref a :: s) h := rf_pure (i := .aload_n 0) (len := 1) (okD_ok (by decide +kernel)) rfl
theorem e38_67 : rf d 38 67 ls (.ref 4 :: s) (SH n, I, L, R, nc, ns, nx) = rf d 38 70 ls (ip_rf (R 4 2) :: s) (SH n, I, L, R, nc, ns, nx) := g_R (idx := 25) (by decide +kernel) ow38 f_4_25 rfl rfl (by decide) rfl
theorem e38_70 (ha : isT a) : rf d 38 70 ls (.ref a :: s) (SH n, I, L, R, nc, ns, nx) = rf d 38 73 ls (.int (I a 6) :: s) (SH n, I, L, R, nc, ns, nx) := g_I (idx := 54) (by decide +kernel) ow38 f_4_54 rfl (kdT0 ha) (geT ha)
theorem e38_73 : rf d 38 73 ls s h = rf d 38 75 ls (.int 8 :: s) h := rf_pure (i := .bipush (8)) (len := 2) (okD_ok (by decide +kernel)) rfl
theorem e38_75 : rf d 38 75 ls (.int y :: .int x :: s) h = if y ≤ x then rf d 38 89 ls s h else rf d 38 78 ls s h := g_ic (c := .ge) (off := 14) _ (by decide +kernel) rfl cmp_d
theorem e38_78 : rf d 38 78 [some (.ref a), l1, l2, l3, l4] s h = rf d 38 79 [some (.ref a), l1, l2, l3, l4] (.ref a :: s) h := rf_pure (i := .aload_n 0) (len := 1) (okD_ok (by decide +kernel)) rfl
theorem e38_79 (hcat : ip_cat s ≤ 8) : rf (d + 1) 38 79 ls (.ref 4 :: s) (SH n, I, L, R, nc, ns, nx) = rf_k (d + 1) 38 79 ls s (cf d 47 [.ref 4] (SH n, I, L, R, nc, ns, nx)) := g_cv (idx := 57) (t := 4) [] (by decide +kernel) ow38 ms_4_57 mt_4_57 cy47_4 rfl rfl mL47 rfl rfl (by decide) hcat
theorem e38_82 : rf d 38 82 ls (.int x :: s) h = if x = 0 then rf d 38 89 ls s h else rf d 38 85 ls s h := g_if (c := .eq) (off := 7) _ (by decide +kernel) rfl cmp_d
theorem e38_85 : rf d 38 85 ls s h = rf d 38 86 ls (.int 1 :: s) h := rf_pure (i := .iconst (1)) (len := 1) (okD_ok (by decide +kernel)) rfl
theorem e38_86 : rf d 38 86 ls s h = rf d 38 90 ls s h := rf_goto ⟨okD_ok (i := .goto (4)) (len := 3) (by decide +kernel), rfl⟩
theorem e38_89 : rf d 38 89 ls s h = rf d 38 90 ls (.int 0 :: s) h := rf_pure (i := .iconst (0)) (len := 1) (okD_ok (by decide +kernel)) rfl
theorem e38_90 (hn : ip_nl l3 = true) : rf d 38 90 [l0, l1, l2, l3, l4] (.int x :: s) h = rf d 38 92 [l0, l1, l2, l3, some (.int x)] s h := g_sti (i := .istore 4) (len := 2) (q := 3) (p := 2) (by decide +kernel) rfl rfl hn
theorem e38_92 : rf d 38 92 ls s h = rf d 38 145 ls s h := rf_goto ⟨okD_ok (i := .goto (53)) (len := 3) (by decide +kernel), rfl⟩
theorem e38_95 : rf d 38 95 [some (.ref a), l1, l2, l3, l4] s h = rf d 38 96 [some (.ref a), l1, l2, l3, l4] (.ref a :: s) h := rf_pure (i := .aload_n 0) (len := 1) (okD_ok (by decide +kernel)) rfl
theorem e38_96 : rf d 38 96 ls (.ref 4 :: s) (SH n, I, L, R, nc, ns, nx) = rf d 38 99 ls (.int (I 4 6) :: s) (SH n, I, L, R, nc, ns, nx) := g_I (idx := 51) (by decide +kernel) ow38 f_4_51 rfl rfl (by decide)
theorem e38_99 : rf d 38 99 ls s h = rf d 38 100 ls (.int 5 :: s) h := rf_pure (i := .iconst (5)) (len := 1) (okD_ok (by decide +kernel)) rfl
theorem e38_100 : rf d 38 100 ls (.int y :: .int x :: s) h = if ¬ x = y then rf d 38 112 ls s h else rf d 38 103 ls s h := g_ic (c := .ne) (off := 12) _ (by decide +kernel) rfl cmp_d
theorem e38_103 : rf d 38 103 [some (.ref a), l1, l2, l3, l4] s h = rf d 38 104 [some (.ref a), l1, l2, l3, l4] (.ref a :: s) h := rf_pure (i := .aload_n 0) (len := 1) (okD_ok (by decide +kernel)) rfl
theorem e38_104 (hcat : ip_cat s ≤ 8) : rf (d + 1) 38 104 ls (.ref 4 :: s) (SH n, I, L, R, nc, ns, nx) = rf_k (d + 1) 38 104 ls s (cf d 55 [.ref 4] (SH n, I, L, R, nc, ns, nx)) := g_cv (idx := 61) (t := 4) [] (by decide +kernel) ow38 ms_4_61 mt_4_61 cy55_4 rfl rfl mL55 rfl rfl (by decide) hcat
theorem e38_107 (hn : ip_nl l3 = true) : rf d 38 107 [l0, l1, l2, l3, l4] (.int x :: s) h = rf d 38 109 [l0, l1, l2, l3, some (.int x)] s h := g_sti (i := .istore 4) (len := 2) (q := 3) (p := 2) (by decide +kernel) rfl rfl hn
theorem e38_109 : rf d 38 109 ls s h = rf d 38 145 ls s h := rf_goto ⟨okD_ok (i := .goto (36)) (len := 3) (by decide +kernel), rfl⟩
theorem e38_112 : rf d 38 112 [some (.ref a), l1, l2, l3, l4] s h = rf d 38 113 [some (.ref a), l1, l2, l3, l4] (.ref a :: s) h := rf_pure (i := .aload_n 0) (len := 1) (okD_ok (by decide +kernel)) rfl
theorem e38_113 : rf d 38 113 ls (.ref 4 :: s) (SH n, I, L, R, nc, ns, nx) = rf d 38 116 ls (.int (I 4 6) :: s) (SH n, I, L, R, nc, ns, nx) := g_I (idx := 51) (by decide +kernel) ow38 f_4_51 rfl rfl (by decide)
theorem e38_116 : rf d 38 116 ls s h = rf d 38 118 ls (.int 8 :: s) h := rf_pure (i := .bipush (8)) (len := 2) (okD_ok (by decide +kernel)) rfl
theorem e38_118 : rf d 38 118 ls (.int y :: .int x :: s) h = if ¬ x = y then rf d 38 145 ls s h else rf d 38 121 ls s h := g_ic (c := .ne) (off := 27) _ (by decide +kernel) rfl cmp_d
theorem e38_121 : rf d 38 121 [some (.ref a), l1, l2, l3, l4] s h = rf d 38 122 [some (.ref a), l1, l2, l3, l4] (.ref a :: s) h := rf_pure (i := .aload_n 0) (len := 1) (okD_ok (by decide +kernel)) rfl
theorem e38_122 : rf d 38 122 ls (.ref 4 :: s) (SH n, I, L, R, nc, ns, nx) = rf d 38 125 ls (ip_rf (R 4 2) :: s) (SH n, I, L, R, nc, ns, nx) := g_R (idx := 25) (by decide +kernel) ow38 f_4_25 rfl rfl (by decide) rfl
theorem e38_125 (ha : isT a) : rf d 38 125 ls (.ref a :: s) (SH n, I, L, R, nc, ns, nx) = rf d 38 128 ls (.int (I a 8) :: s) (SH n, I, L, R, nc, ns, nx) := g_I (idx := 64) (by decide +kernel) ow38 f_4_64 rfl (kdT0 ha) (geT ha)
theorem e38_128 : rf d 38 128 ls (.int x :: s) h = if ¬ x = 0 then rf d 38 142 ls s h else rf d 38 131 ls s h := g_if (c := .ne) (off := 14) _ (by decide +kernel) rfl cmp_d
theorem e38_131 : rf d 38 131 [some (.ref a), l1, l2, l3, l4] s h = rf d 38 132 [some (.ref a), l1, l2, l3, l4] (.ref a :: s) h := rf_pure (i := .aload_n 0) (len := 1) (okD_ok (by decide +kernel)) rfl
theorem e38_132 (hcat : ip_cat s ≤ 8) : rf (d + 1) 38 132 ls (.ref 4 :: s) (SH n, I, L, R, nc, ns, nx) = rf_k (d + 1) 38 132 ls s (cf d 56 [.ref 4] (SH n, I, L, R, nc, ns, nx)) := g_cv (idx := 68) (t := 4) [] (by decide +kernel) ow38 ms_4_68 mt_4_68 cy56_4 rfl rfl mL56 rfl rfl (by decide) hcat
theorem e38_135 : rf d 38 135 ls (.int x :: s) h = if x = 0 then rf d 38 142 ls s h else rf d 38 138 ls s h := g_if (c := .eq) (off := 7) _ (by decide +kernel) rfl cmp_d
theorem e38_138 : rf d 38 138 ls s h = rf d 38 139 ls (.int 1 :: s) h := rf_pure (i := .iconst (1)) (len := 1) (okD_ok (by decide +kernel)) rfl
theorem e38_139 : rf d 38 139 ls s h = rf d 38 143 ls s h := rf_goto ⟨okD_ok (i := .goto (4)) (len := 3) (by decide +kernel), rfl⟩
theorem e38_142 : rf d 38 142 ls s h = rf d 38 143 ls (.int 0 :: s) h := rf_pure (i := .iconst (0)) (len := 1) (okD_ok (by decide +kernel)) rfl
theorem e38_143 (hn : ip_nl l3 = true) : rf d 38 143 [l0, l1, l2, l3, l4] (.int x :: s) h = rf d 38 145 [l0, l1, l2, l3, some (.int x)] s h := g_sti (i := .istore 4) (len := 2) (q := 3) (p := 2) (by decide +kernel) rfl rfl hn
theorem e38_145 : rf d 38 145 [l0, l1, l2, l3, some (.int x)] s h = rf d 38 147 [l0, l1, l2, l3, some (.int x)] (.int x :: s) h := rf_pure (i := .iload 4) (len := 2) (okD_ok (by decide +kernel)) rfl
theorem e38_147 : rf d 38 147 ls (.int x :: s) h = if ¬ x = 0 then rf d 38 155 ls s h else rf d 38 150 ls s h := g_if (c := .ne) (off := 8) _ (by decide +kernel) rfl cmp_d
theorem e38_150 : rf d 38 150 [some (.ref a), l1, l2, l3, l4] s h = rf d 38 151 [some (.ref a), l1, l2, l3, l4] (.ref a :: s) h := rf_pure (i := .aload_n 0) (len := 1) (okD_ok (by decide +kernel)) rfl
theorem e38_151 : rf d 38 151 ls (.ref 4 :: s) (SH n, I, L, R, nc, ns, nx) = rf d 38 154 ls (.int (I 4 5) :: s) (SH n, I, L, R, nc, ns, nx) := g_I (idx := 71) (by decide +kernel) ow38 f_4_71 rfl rfl (by decide)
theorem e38_154 : rf d 38 154 ls [.int x] h = some (.inl (some (.int x)), h) := g_ri (by decide +kernel) rt38
theorem e38_155 (hn : ip_nl l2 = true) : rf d 38 155 [l0, l1, l2, some (.int x), l4] s h = rf d 38 158 [l0, l1, l2, some (.int (x + 1)), l4] s h := g_inc (q := 2) (z := 1) (w := 1) (x := x) (by decide) (by decide +kernel) rfl rfl hn
theorem e38_158 : rf d 38 158 ls s h = rf d 38 40 ls s h := rf_goto ⟨okD_ok (i := .goto (-118)) (len := 3) (by decide +kernel), rfl⟩
theorem e38_161 : rf d 38 161 [some (.ref a), l1, l2, l3, l4] s h = rf d 38 162 [some (.ref a), l1, l2, l3, l4] (.ref a :: s) h := rf_pure (i := .aload_n 0) (len := 1) (okD_ok (by decide +kernel)) rfl
theorem e38_162 : rf d 38 162 ls (.ref 4 :: s) (SH n, I, L, R, nc, ns, nx) = rf d 38 165 ls (ip_rf (R 4 2) :: s) (SH n, I, L, R, nc, ns, nx) := g_R (idx := 25) (by decide +kernel) ow38 f_4_25 rfl rfl (by decide) rfl
theorem e38_165 (ha : isT a) : rf d 38 165 ls (.ref a :: s) (SH n, I, L, R, nc, ns, nx) = rf d 38 168 ls (.int (I a 8) :: s) (SH n, I, L, R, nc, ns, nx) := g_I (idx := 64) (by decide +kernel) ow38 f_4_64 rfl (kdT0 ha) (geT ha)
theorem e38_168 : rf d 38 168 ls (.int x :: s) h = if x = 0 then rf d 38 175 ls s h else rf d 38 171 ls s h := g_if (c := .eq) (off := 7) _ (by decide +kernel) rfl cmp_d
theorem e38_171 : rf d 38 171 ls s h = rf d 38 172 ls (.int (-1) :: s) h := rf_pure (i := .iconst (-1)) (len := 1) (okD_ok (by decide +kernel)) rfl
theorem e38_172 : rf d 38 172 ls s h = rf d 38 179 ls s h := rf_goto ⟨okD_ok (i := .goto (7)) (len := 3) (by decide +kernel), rfl⟩
theorem e38_175 : rf d 38 175 [some (.ref a), l1, l2, l3, l4] s h = rf d 38 176 [some (.ref a), l1, l2, l3, l4] (.ref a :: s) h := rf_pure (i := .aload_n 0) (len := 1) (okD_ok (by decide +kernel)) rfl
theorem e38_176 : rf d 38 176 ls (.ref 4 :: s) (SH n, I, L, R, nc, ns, nx) = rf d 38 179 ls (.int (I 4 5) :: s) (SH n, I, L, R, nc, ns, nx) := g_I (idx := 71) (by decide +kernel) ow38 f_4_71 rfl rfl (by decide)
theorem e38_179 : rf d 38 179 ls [.int x] h = some (.inl (some (.int x)), h) := g_ri (by decide +kernel) rt38
end S00
