/-! STEPS, 10 (printed by wip/whole/gen_steps.py) -/
section S10
variable {n d a b t : Nat} {l0 l1 l2 l3 l4 l5 l6 l7 l8 l9 l10 l11 l12 l13 : Option Value} {ls : List (Option Value)} {s : List Value} {h : ip_H} {I : Nat → Nat → Int32} {L : Nat → Nat → Int64} {R : Nat → Nat → Option Nat} {nc ns : Nat} {nx : Bool} {x y j z sp dp x0 x1 x2 x3 x4 x5 : Int32} {u v u0 u1 u2 u3 : Int64} {a0 a1 a2 a3 a4 : Nat}
theorem en270 : cf d 270 [.ref a] h = rf d 270 0 [some (.ref a), none, none, none, none, none, none] [] h := rfl
theorem e270_0 : rf d 270 0 [some (.ref a), l1, l2, l3, l4, l5, l6] s h = rf d 270 1 [some (.ref a), l1, l2, l3, l4, l5, l6] (.ref a :: s) h := rf_pure (i := .aload_n 0) (len := 1) (okD_ok (by decide +kernel)) rfl
theorem e270_1 : rf d 270 1 ls s h = rf d 270 2 ls (.int 0 :: s) h := rf_pure (i := .iconst (0)) (len := 1) (okD_ok (by decide +kernel)) rfl
theorem e270_2 : rf d 270 2 ls (.int x :: .ref 265 :: s) (SH n, I, L, R, nc, ns, nx) = rf d 270 5 ls s (SH n, ip_up I 265 0 x, L, R, nc, ns, nx) := g_pI (idx := 142) (by decide +kernel) ow270 f_8_142 rfl (by decide +kernel) rfl (by decide)
theorem e270_5 : rf d 270 5 ls s h = rf d 270 6 ls (.int 0 :: s) h := rf_pure (i := .iconst (0)) (len := 1) (okD_ok (by decide +kernel)) rfl
theorem e270_6 (hn : ip_nl l0 = true) : rf d 270 6 [l0, l1, l2, l3, l4, l5, l6] (.int x :: s) h = rf d 270 7 [l0, some (.int x), l2, l3, l4, l5, l6] s h := g_sti (i := .istore_n 1) (len := 1) (q := 0) (p := 1) (by decide +kernel) rfl rfl hn
theorem e270_7 : rf d 270 7 ls s h = rf d 270 8 ls (.int 0 :: s) h := rf_pure (i := .iconst (0)) (len := 1) (okD_ok (by decide +kernel)) rfl
theorem e270_8 (hn : ip_nl l1 = true) : rf d 270 8 [l0, l1, l2, l3, l4, l5, l6] (.int x :: s) h = rf d 270 9 [l0, l1, some (.int x), l3, l4, l5, l6] s h := g_sti (i := .istore_n 2) (len := 1) (q := 1) (p := 1) (by decide +kernel) rfl rfl hn
theorem e270_9 : rf d 270 9 [l0, l1, some (.int x), l3, l4, l5, l6] s h = rf d 270 10 [l0, l1, some (.int x), l3, l4, l5, l6] (.int x :: s) h := rf_pure (i := .iload_n 2) (len := 1) (okD_ok (by decide +kernel)) rfl
theorem e270_10 : rf d 270 10 [some (.ref a), l1, l2, l3, l4, l5, l6] s h = rf d 270 11 [some (.ref a), l1, l2, l3, l4, l5, l6] (.ref a :: s) h := rf_pure (i := .aload_n 0) (len := 1) (okD_ok (by decide +kernel)) rfl
theorem e270_11 : rf d 270 11 ls (.ref 265 :: s) (SH n, I, L, R, nc, ns, nx) = rf d 270 14 ls (.int (I 265 17) :: s) (SH n, I, L, R, nc, ns, nx) := g_I (idx := 291) (by decide +kernel) ow270 f_8_291 rfl rfl (by decide)
theorem e270_14 : rf d 270 14 ls (.int y :: .int x :: s) h = if y ≤ x then rf d 270 182 ls s h else rf d 270 17 ls s h := g_ic (c := .ge) (off := 168) _ (by decide +kernel) rfl cmp_d
theorem e270_17 : rf d 270 17 [some (.ref a), l1, l2, l3, l4, l5, l6] s h = rf d 270 18 [some (.ref a), l1, l2, l3, l4, l5, l6] (.ref a :: s) h := rf_pure (i := .aload_n 0) (len := 1) (okD_ok (by decide +kernel)) rfl
theorem e270_18 (hR : LYR R) : rf d 270 18 ls (.ref 265 :: s) (SH n, I, L, R, nc, ns, nx) = rf d 270 21 ls (.ref 293 :: s) (SH n, I, L, R, nc, ns, nx) := g_R (idx := 97) (by decide +kernel) ow270 f_8_97 rfl rfl (by decide) (ly_265_43 hR)
theorem e270_21 : rf d 270 21 [some (.ref a), l1, l2, l3, l4, l5, l6] s h = rf d 270 22 [some (.ref a), l1, l2, l3, l4, l5, l6] (.ref a :: s) h := rf_pure (i := .aload_n 0) (len := 1) (okD_ok (by decide +kernel)) rfl
theorem e270_22 : rf d 270 22 ls (.ref 265 :: s) (SH n, I, L, R, nc, ns, nx) = rf d 270 25 ls (.int (I 265 38) :: s) (SH n, I, L, R, nc, ns, nx) := g_I (idx := 306) (by decide +kernel) ow270 f_8_306 rfl rfl (by decide)
theorem e270_25 (q : ia n a j) : rf d 270 25 ls (.int j :: .ref a :: s) (SH n, I, L, R, nc, ns, nx) = rf d 270 26 ls (.int (I a j.toNatClampNeg) :: s) (SH n, I, L, R, nc, ns, nx) := g_ial (by decide +kernel) q
theorem e270_26 : rf d 270 26 [l0, l1, some (.int x), l3, l4, l5, l6] s h = rf d 270 27 [l0, l1, some (.int x), l3, l4, l5, l6] (.int x :: s) h := rf_pure (i := .iload_n 2) (len := 1) (okD_ok (by decide +kernel)) rfl
theorem e270_27 (hcat : ip_cat s ≤ 8) : rf (d + 1) 270 27 ls (.int x1 :: .int x0 :: s) h = rf_k (d + 1) 270 27 ls s (cf d 186 [.int x0, .int x1] h) := g_cs (idx := 234) [.int x1, .int x0] (by decide +kernel) ow270 ms_8_234 mt_8_234 (by decide) rfl mL186 rfl hcat
theorem e270_30 : rf d 270 30 ls (.int x :: s) h = if ¬ x = 0 then rf d 270 36 ls s h else rf d 270 33 ls s h := g_if (c := .ne) (off := 6) _ (by decide +kernel) rfl cmp_d
theorem e270_33 : rf d 270 33 ls s h = rf d 270 176 ls s h := rf_goto ⟨okD_ok (i := .goto (143)) (len := 3) (by decide +kernel), rfl⟩
theorem e270_36 : rf d 270 36 [some (.ref a), l1, l2, l3, l4, l5, l6] s h = rf d 270 37 [some (.ref a), l1, l2, l3, l4, l5, l6] (.ref a :: s) h := rf_pure (i := .aload_n 0) (len := 1) (okD_ok (by decide +kernel)) rfl
theorem e270_37 (hR : LYR R) : rf d 270 37 ls (.ref 265 :: s) (SH n, I, L, R, nc, ns, nx) = rf d 270 40 ls (.ref 293 :: s) (SH n, I, L, R, nc, ns, nx) := g_R (idx := 97) (by decide +kernel) ow270 f_8_97 rfl rfl (by decide) (ly_265_43 hR)
theorem e270_40 : rf d 270 40 [some (.ref a), l1, l2, l3, l4, l5, l6] s h = rf d 270 41 [some (.ref a), l1, l2, l3, l4, l5, l6] (.ref a :: s) h := rf_pure (i := .aload_n 0) (len := 1) (okD_ok (by decide +kernel)) rfl
theorem e270_41 : rf d 270 41 ls (.ref 265 :: s) (SH n, I, L, R, nc, ns, nx) = rf d 270 44 ls (.int (I 265 38) :: s) (SH n, I, L, R, nc, ns, nx) := g_I (idx := 306) (by decide +kernel) ow270 f_8_306 rfl rfl (by decide)
theorem e270_44 (q : ia n a j) : rf d 270 44 ls (.int j :: .ref a :: s) (SH n, I, L, R, nc, ns, nx) = rf d 270 45 ls (.int (I a j.toNatClampNeg) :: s) (SH n, I, L, R, nc, ns, nx) := g_ial (by decide +kernel) q
theorem e270_45 : rf d 270 45 ls s h = rf d 270 46 ls (.int 1 :: s) h := rf_pure (i := .iconst (1)) (len := 1) (okD_ok (by decide +kernel)) rfl
theorem e270_46 : rf d 270 46 [l0, l1, some (.int x), l3, l4, l5, l6] s h = rf d 270 47 [l0, l1, some (.int x), l3, l4, l5, l6] (.int x :: s) h := rf_pure (i := .iload_n 2) (len := 1) (okD_ok (by decide +kernel)) rfl
theorem e270_47 : rf d 270 47 ls (.int y :: .int x :: s) h = rf d 270 48 ls (.int (x <<< (y &&& 31)) :: s) h := rf_pure (i := .ishl) (len := 1) (okD_ok (by decide +kernel)) rfl
theorem e270_48 : rf d 270 48 ls s h = rf d 270 49 ls (.int (-1) :: s) h := rf_pure (i := .iconst (-1)) (len := 1) (okD_ok (by decide +kernel)) rfl
theorem e270_49 : rf d 270 49 ls (.int y :: .int x :: s) h = rf d 270 50 ls (.int (x ^^^ y) :: s) h := rf_pure (i := .ixor) (len := 1) (okD_ok (by decide +kernel)) rfl
theorem e270_50 : rf d 270 50 ls (.int y :: .int x :: s) h = rf d 270 51 ls (.int (x &&& y) :: s) h := rf_pure (i := .iand) (len := 1) (okD_ok (by decide +kernel)) rfl
theorem e270_51 (hn : ip_nl l2 = true) : rf d 270 51 [l0, l1, l2, l3, l4, l5, l6] (.int x :: s) h = rf d 270 52 [l0, l1, l2, some (.int x), l4, l5, l6] s h := g_sti (i := .istore_n 3) (len := 1) (q := 2) (p := 1) (by decide +kernel) rfl rfl hn
theorem e270_52 : rf d 270 52 [some (.ref a), l1, l2, l3, l4, l5, l6] s h = rf d 270 53 [some (.ref a), l1, l2, l3, l4, l5, l6] (.ref a :: s) h := rf_pure (i := .aload_n 0) (len := 1) (okD_ok (by decide +kernel)) rfl
theorem e270_53 (hR : LYR R) : rf d 270 53 ls (.ref 265 :: s) (SH n, I, L, R, nc, ns, nx) = rf d 270 56 ls (.ref 296 :: s) (SH n, I, L, R, nc, ns, nx) := g_R (idx := 106) (by decide +kernel) ow270 f_8_106 rfl rfl (by decide) (ly_265_46 hR)
theorem e270_56 : rf d 270 56 [some (.ref a), l1, l2, l3, l4, l5, l6] s h = rf d 270 57 [some (.ref a), l1, l2, l3, l4, l5, l6] (.ref a :: s) h := rf_pure (i := .aload_n 0) (len := 1) (okD_ok (by decide +kernel)) rfl
theorem e270_57 : rf d 270 57 ls (.ref 265 :: s) (SH n, I, L, R, nc, ns, nx) = rf d 270 60 ls (.int (I 265 38) :: s) (SH n, I, L, R, nc, ns, nx) := g_I (idx := 306) (by decide +kernel) ow270 f_8_306 rfl rfl (by decide)
theorem e270_60 (q : ia n a j) : rf d 270 60 ls (.int j :: .ref a :: s) (SH n, I, L, R, nc, ns, nx) = rf d 270 61 ls (.int (I a j.toNatClampNeg) :: s) (SH n, I, L, R, nc, ns, nx) := g_ial (by decide +kernel) q
theorem e270_61 : rf d 270 61 [some (.ref a), l1, l2, l3, l4, l5, l6] s h = rf d 270 62 [some (.ref a), l1, l2, l3, l4, l5, l6] (.ref a :: s) h := rf_pure (i := .aload_n 0) (len := 1) (okD_ok (by decide +kernel)) rfl
theorem e270_62 (hR : LYR R) : rf d 270 62 ls (.ref 265 :: s) (SH n, I, L, R, nc, ns, nx) = rf d 270 65 ls (.ref 293 :: s) (SH n, I, L, R, nc, ns, nx) := g_R (idx := 97) (by decide +kernel) ow270 f_8_97 rfl rfl (by decide) (ly_265_43 hR)
theorem e270_65 : rf d 270 65 [some (.ref a), l1, l2, l3, l4, l5, l6] s h = rf d 270 66 [some (.ref a), l1, l2, l3, l4, l5, l6] (.ref a :: s) h := rf_pure (i := .aload_n 0) (len := 1) (okD_ok (by decide +kernel)) rfl
theorem e270_66 : rf d 270 66 ls (.ref 265 :: s) (SH n, I, L, R, nc, ns, nx) = rf d 270 69 ls (.int (I 265 38) :: s) (SH n, I, L, R, nc, ns, nx) := g_I (idx := 306) (by decide +kernel) ow270 f_8_306 rfl rfl (by decide)
theorem e270_69 (q : ia n a j) : rf d 270 69 ls (.int j :: .ref a :: s) (SH n, I, L, R, nc, ns, nx) = rf d 270 70 ls (.int (I a j.toNatClampNeg) :: s) (SH n, I, L, R, nc, ns, nx) := g_ial (by decide +kernel) q
theorem e270_70 : rf d 270 70 ls s h = rf d 270 71 ls (.int (-1) :: s) h := rf_pure (i := .iconst (-1)) (len := 1) (okD_ok (by decide +kernel)) rfl
theorem e270_71 : rf d 270 71 ls (.int y :: .int x :: s) h = rf d 270 72 ls (.int (x ^^^ y) :: s) h := rf_pure (i := .ixor) (len := 1) (okD_ok (by decide +kernel)) rfl
theorem e270_72 : rf d 270 72 ls (.int y :: .int x :: s) h = rf d 270 73 ls (.int (x &&& y) :: s) h := rf_pure (i := .iand) (len := 1) (okD_ok (by decide +kernel)) rfl
theorem e270_73 (hn : ip_nl l3 = true) : rf d 270 73 [l0, l1, l2, l3, l4, l5, l6] (.int x :: s) h = rf d 270 75 [l0, l1, l2, l3, some (.int x), l5, l6] s h := g_sti (i := .istore 4) (len := 2) (q := 3) (p := 2) (by decide +kernel) rfl rfl hn
theorem e270_75 : rf d 270 75 [some (.ref a), l1, l2, l3, l4, l5, l6] s h = rf d 270 76 [some (.ref a), l1, l2, l3, l4, l5, l6] (.ref a :: s) h := rf_pure (i := .aload_n 0) (len := 1) (okD_ok (by decide +kernel)) rfl
theorem e270_76 (hR : LYR R) : rf d 270 76 ls (.ref 265 :: s) (SH n, I, L, R, nc, ns, nx) = rf d 270 79 ls (.ref 287 :: s) (SH n, I, L, R, nc, ns, nx) := g_R (idx := 79) (by decide +kernel) ow270 f_8_79 rfl rfl (by decide) (ly_265_35 hR)
theorem e270_79 : rf d 270 79 [l0, l1, l2, l3, some (.int x), l5, l6] s h = rf d 270 81 [l0, l1, l2, l3, some (.int x), l5, l6] (.int x :: s) h := rf_pure (i := .iload 4) (len := 2) (okD_ok (by decide +kernel)) rfl
theorem e270_81 (q : ia n a j) : rf d 270 81 ls (.int j :: .ref a :: s) (SH n, I, L, R, nc, ns, nx) = rf d 270 82 ls (.int (I a j.toNatClampNeg) :: s) (SH n, I, L, R, nc, ns, nx) := g_ial (by decide +kernel) q
theorem e270_82 : rf d 270 82 [some (.ref a), l1, l2, l3, l4, l5, l6] s h = rf d 270 83 [some (.ref a), l1, l2, l3, l4, l5, l6] (.ref a :: s) h := rf_pure (i := .aload_n 0) (len := 1) (okD_ok (by decide +kernel)) rfl
theorem e270_83 (hR : LYR R) : rf d 270 83 ls (.ref 265 :: s) (SH n, I, L, R, nc, ns, nx) = rf d 270 86 ls (.ref 287 :: s) (SH n, I, L, R, nc, ns, nx) := g_R (idx := 79) (by decide +kernel) ow270 f_8_79 rfl rfl (by decide) (ly_265_35 hR)
theorem e270_86 : rf d 270 86 [l0, l1, l2, l3, some (.int x), l5, l6] s h = rf d 270 88 [l0, l1, l2, l3, some (.int x), l5, l6] (.int x :: s) h := rf_pure (i := .iload 4) (len := 2) (okD_ok (by decide +kernel)) rfl
theorem e270_88 : rf d 270 88 ls s h = rf d 270 89 ls (.int 1 :: s) h := rf_pure (i := .iconst (1)) (len := 1) (okD_ok (by decide +kernel)) rfl
theorem e270_89 : rf d 270 89 [l0, l1, some (.int x), l3, l4, l5, l6] s h = rf d 270 90 [l0, l1, some (.int x), l3, l4, l5, l6] (.int x :: s) h := rf_pure (i := .iload_n 2) (len := 1) (okD_ok (by decide +kernel)) rfl
theorem e270_90 : rf d 270 90 ls (.int y :: .int x :: s) h = rf d 270 91 ls (.int (x <<< (y &&& 31)) :: s) h := rf_pure (i := .ishl) (len := 1) (okD_ok (by decide +kernel)) rfl
theorem e270_91 : rf d 270 91 ls (.int y :: .int x :: s) h = rf d 270 92 ls (.int (x ||| y) :: s) h := rf_pure (i := .ior) (len := 1) (okD_ok (by decide +kernel)) rfl
theorem e270_92 (q : ia n a j) : rf d 270 92 ls (.int j :: .ref a :: s) (SH n, I, L, R, nc, ns, nx) = rf d 270 93 ls (.int (I a j.toNatClampNeg) :: s) (SH n, I, L, R, nc, ns, nx) := g_ial (by decide +kernel) q
theorem e270_93 : rf d 270 93 ls (.int y :: .int x :: s) h = if x = y then rf d 270 100 ls s h else rf d 270 96 ls s h := g_ic (c := .eq) (off := 7) _ (by decide +kernel) rfl cmp_d
theorem e270_96 : rf d 270 96 ls s h = rf d 270 97 ls (.int 1 :: s) h := rf_pure (i := .iconst (1)) (len := 1) (okD_ok (by decide +kernel)) rfl
theorem e270_97 : rf d 270 97 ls s h = rf d 270 101 ls s h := rf_goto ⟨okD_ok (i := .goto (4)) (len := 3) (by decide +kernel), rfl⟩
theorem e270_100 : rf d 270 100 ls s h = rf d 270 101 ls (.int 0 :: s) h := rf_pure (i := .iconst (0)) (len := 1) (okD_ok (by decide +kernel)) rfl
theorem e270_101 (hn : ip_nl l4 = true) : rf d 270 101 [l0, l1, l2, l3, l4, l5, l6] (.int x :: s) h = rf d 270 103 [l0, l1, l2, l3, l4, some (.int x), l6] s h := g_sti (i := .istore 5) (len := 2) (q := 4) (p := 2) (by decide +kernel) rfl rfl hn
theorem e270_103 : rf d 270 103 [l0, l1, l2, some (.int x), l4, l5, l6] s h = rf d 270 104 [l0, l1, l2, some (.int x), l4, l5, l6] (.int x :: s) h := rf_pure (i := .iload_n 3) (len := 1) (okD_ok (by decide +kernel)) rfl
theorem e270_104 (hn : ip_nl l5 = true) : rf d 270 104 [l0, l1, l2, l3, l4, l5, l6] (.int x :: s) h = rf d 270 106 [l0, l1, l2, l3, l4, l5, some (.int x)] s h := g_sti (i := .istore 6) (len := 2) (q := 5) (p := 2) (by decide +kernel) rfl rfl hn
theorem e270_106 : rf d 270 106 [l0, l1, l2, l3, l4, l5, some (.int x)] s h = rf d 270 108 [l0, l1, l2, l3, l4, l5, some (.int x)] (.int x :: s) h := rf_pure (i := .iload 6) (len := 2) (okD_ok (by decide +kernel)) rfl
theorem e270_108 : rf d 270 108 ls (.int x :: s) h = if x ≤ 0 then rf d 270 161 ls s h else rf d 270 111 ls s h := g_if (c := .le) (off := 53) _ (by decide +kernel) rfl cmp_d
theorem e270_111 : rf d 270 111 [l0, l1, l2, l3, l4, some (.int x), l6] s h = rf d 270 113 [l0, l1, l2, l3, l4, some (.int x), l6] (.int x :: s) h := rf_pure (i := .iload 5) (len := 2) (okD_ok (by decide +kernel)) rfl
theorem e270_113 : rf d 270 113 ls (.int x :: s) h = if ¬ x = 0 then rf d 270 143 ls s h else rf d 270 116 ls s h := g_if (c := .ne) (off := 30) _ (by decide +kernel) rfl cmp_d
theorem e270_116 : rf d 270 116 [some (.ref a), l1, l2, l3, l4, l5, l6] s h = rf d 270 117 [some (.ref a), l1, l2, l3, l4, l5, l6] (.ref a :: s) h := rf_pure (i := .aload_n 0) (len := 1) (okD_ok (by decide +kernel)) rfl
theorem e270_117 (hR : LYR R) : rf d 270 117 ls (.ref 265 :: s) (SH n, I, L, R, nc, ns, nx) = rf d 270 120 ls (.ref 287 :: s) (SH n, I, L, R, nc, ns, nx) := g_R (idx := 79) (by decide +kernel) ow270 f_8_79 rfl rfl (by decide) (ly_265_35 hR)
theorem e270_120 : rf d 270 120 [l0, l1, l2, l3, some (.int x), l5, l6] s h = rf d 270 122 [l0, l1, l2, l3, some (.int x), l5, l6] (.int x :: s) h := rf_pure (i := .iload 4) (len := 2) (okD_ok (by decide +kernel)) rfl
theorem e270_122 : rf d 270 122 [l0, l1, l2, l3, l4, l5, some (.int x)] s h = rf d 270 124 [l0, l1, l2, l3, l4, l5, some (.int x)] (.int x :: s) h := rf_pure (i := .iload 6) (len := 2) (okD_ok (by decide +kernel)) rfl
theorem e270_124 : rf d 270 124 ls (.int y :: .int x :: s) h = rf d 270 125 ls (.int (x ||| y) :: s) h := rf_pure (i := .ior) (len := 1) (okD_ok (by decide +kernel)) rfl
theorem e270_125 (q : ia n a j) : rf d 270 125 ls (.int j :: .ref a :: s) (SH n, I, L, R, nc, ns, nx) = rf d 270 126 ls (.int (I a j.toNatClampNeg) :: s) (SH n, I, L, R, nc, ns, nx) := g_ial (by decide +kernel) q
theorem e270_126 : rf d 270 126 [some (.ref a), l1, l2, l3, l4, l5, l6] s h = rf d 270 127 [some (.ref a), l1, l2, l3, l4, l5, l6] (.ref a :: s) h := rf_pure (i := .aload_n 0) (len := 1) (okD_ok (by decide +kernel)) rfl
theorem e270_127 (hR : LYR R) : rf d 270 127 ls (.ref 265 :: s) (SH n, I, L, R, nc, ns, nx) = rf d 270 130 ls (.ref 287 :: s) (SH n, I, L, R, nc, ns, nx) := g_R (idx := 79) (by decide +kernel) ow270 f_8_79 rfl rfl (by decide) (ly_265_35 hR)
theorem e270_130 : rf d 270 130 [l0, l1, l2, l3, some (.int x), l5, l6] s h = rf d 270 132 [l0, l1, l2, l3, some (.int x), l5, l6] (.int x :: s) h := rf_pure (i := .iload 4) (len := 2) (okD_ok (by decide +kernel)) rfl
theorem e270_132 : rf d 270 132 [l0, l1, l2, l3, l4, l5, some (.int x)] s h = rf d 270 134 [l0, l1, l2, l3, l4, l5, some (.int x)] (.int x :: s) h := rf_pure (i := .iload 6) (len := 2) (okD_ok (by decide +kernel)) rfl
theorem e270_134 : rf d 270 134 ls (.int y :: .int x :: s) h = rf d 270 135 ls (.int (x ||| y) :: s) h := rf_pure (i := .ior) (len := 1) (okD_ok (by decide +kernel)) rfl
theorem e270_135 : rf d 270 135 ls s h = rf d 270 136 ls (.int 1 :: s) h := rf_pure (i := .iconst (1)) (len := 1) (okD_ok (by decide +kernel)) rfl
theorem e270_136 : rf d 270 136 [l0, l1, some (.int x), l3, l4, l5, l6] s h = rf d 270 137 [l0, l1, some (.int x), l3, l4, l5, l6] (.int x :: s) h := rf_pure (i := .iload_n 2) (len := 1) (okD_ok (by decide +kernel)) rfl
theorem e270_137 : rf d 270 137 ls (.int y :: .int x :: s) h = rf d 270 138 ls (.int (x <<< (y &&& 31)) :: s) h := rf_pure (i := .ishl) (len := 1) (okD_ok (by decide +kernel)) rfl
theorem e270_138 : rf d 270 138 ls (.int y :: .int x :: s) h = rf d 270 139 ls (.int (x ||| y) :: s) h := rf_pure (i := .ior) (len := 1) (okD_ok (by decide +kernel)) rfl
theorem e270_139 (q : ia n a j) : rf d 270 139 ls (.int j :: .ref a :: s) (SH n, I, L, R, nc, ns, nx) = rf d 270 140 ls (.int (I a j.toNatClampNeg) :: s) (SH n, I, L, R, nc, ns, nx) := g_ial (by decide +kernel) q
theorem e270_140 : rf d 270 140 ls (.int y :: .int x :: s) h = if x = y then rf d 270 147 ls s h else rf d 270 143 ls s h := g_ic (c := .eq) (off := 7) _ (by decide +kernel) rfl cmp_d
theorem e270_143 : rf d 270 143 ls s h = rf d 270 144 ls (.int 1 :: s) h := rf_pure (i := .iconst (1)) (len := 1) (okD_ok (by decide +kernel)) rfl
theorem e270_144 : rf d 270 144 ls s h = rf d 270 148 ls s h := rf_goto ⟨okD_ok (i := .goto (4)) (len := 3) (by decide +kernel), rfl⟩
theorem e270_147 : rf d 270 147 ls s h = rf d 270 148 ls (.int 0 :: s) h := rf_pure (i := .iconst (0)) (len := 1) (okD_ok (by decide +kernel)) rfl
theorem e270_148 (hn : ip_nl l4 = true) : rf d 270 148 [l0, l1, l2, l3, l4, l5, l6] (.int x :: s) h = rf d 270 150 [l0, l1, l2, l3, l4, some (.int x), l6] s h := g_sti (i := .istore 5) (len := 2) (q := 4) (p := 2) (by decide +kernel) rfl rfl hn
theorem e270_150 : rf d 270 150 [l0, l1, l2, l3, l4, l5, some (.int x)] s h = rf d 270 152 [l0, l1, l2, l3, l4, l5, some (.int x)] (.int x :: s) h := rf_pure (i := .iload 6) (len := 2) (okD_ok (by decide +kernel)) rfl
theorem e270_152 : rf d 270 152 ls s h = rf d 270 153 ls (.int 1 :: s) h := rf_pure (i := .iconst (1)) (len := 1) (okD_ok (by decide +kernel)) rfl
theorem e270_153 : rf d 270 153 ls (.int y :: .int x :: s) h = rf d 270 154 ls (.int (x - y) :: s) h := rf_pure (i := .isub) (len := 1) (okD_ok (by decide +kernel)) rfl
theorem e270_154 : rf d 270 154 [l0, l1, l2, some (.int x), l4, l5, l6] s h = rf d 270 155 [l0, l1, l2, some (.int x), l4, l5, l6] (.int x :: s) h := rf_pure (i := .iload_n 3) (len := 1) (okD_ok (by decide +kernel)) rfl
theorem e270_155 : rf d 270 155 ls (.int y :: .int x :: s) h = rf d 270 156 ls (.int (x &&& y) :: s) h := rf_pure (i := .iand) (len := 1) (okD_ok (by decide +kernel)) rfl
theorem e270_156 (hn : ip_nl l5 = true) : rf d 270 156 [l0, l1, l2, l3, l4, l5, l6] (.int x :: s) h = rf d 270 158 [l0, l1, l2, l3, l4, l5, some (.int x)] s h := g_sti (i := .istore 6) (len := 2) (q := 5) (p := 2) (by decide +kernel) rfl rfl hn
theorem e270_158 : rf d 270 158 ls s h = rf d 270 106 ls s h := rf_goto ⟨okD_ok (i := .goto (-52)) (len := 3) (by decide +kernel), rfl⟩
theorem e270_161 : rf d 270 161 [l0, some (.int x), l2, l3, l4, l5, l6] s h = rf d 270 162 [l0, some (.int x), l2, l3, l4, l5, l6] (.int x :: s) h := rf_pure (i := .iload_n 1) (len := 1) (okD_ok (by decide +kernel)) rfl
theorem e270_162 : rf d 270 162 [l0, l1, l2, l3, l4, some (.int x), l6] s h = rf d 270 164 [l0, l1, l2, l3, l4, some (.int x), l6] (.int x :: s) h := rf_pure (i := .iload 5) (len := 2) (okD_ok (by decide +kernel)) rfl
theorem e270_164 : rf d 270 164 ls (.int x :: s) h = if x = 0 then rf d 270 173 ls s h else rf d 270 167 ls s h := g_if (c := .eq) (off := 9) _ (by decide +kernel) rfl cmp_d
theorem e270_167 : rf d 270 167 ls s h = rf d 270 168 ls (.int 1 :: s) h := rf_pure (i := .iconst (1)) (len := 1) (okD_ok (by decide +kernel)) rfl
theorem e270_168 : rf d 270 168 [l0, l1, some (.int x), l3, l4, l5, l6] s h = rf d 270 169 [l0, l1, some (.int x), l3, l4, l5, l6] (.int x :: s) h := rf_pure (i := .iload_n 2) (len := 1) (okD_ok (by decide +kernel)) rfl
theorem e270_169 : rf d 270 169 ls (.int y :: .int x :: s) h = rf d 270 170 ls (.int (x <<< (y &&& 31)) :: s) h := rf_pure (i := .ishl) (len := 1) (okD_ok (by decide +kernel)) rfl
theorem e270_170 : rf d 270 170 ls s h = rf d 270 174 ls s h := rf_goto ⟨okD_ok (i := .goto (4)) (len := 3) (by decide +kernel), rfl⟩
theorem e270_173 : rf d 270 173 ls s h = rf d 270 174 ls (.int 0 :: s) h := rf_pure (i := .iconst (0)) (len := 1) (okD_ok (by decide +kernel)) rfl
theorem e270_174 : rf d 270 174 ls (.int y :: .int x :: s) h = rf d 270 175 ls (.int (x ||| y) :: s) h := rf_pure (i := .ior) (len := 1) (okD_ok (by decide +kernel)) rfl
theorem e270_175 (hn : ip_nl l0 = true) : rf d 270 175 [l0, l1, l2, l3, l4, l5, l6] (.int x :: s) h = rf d 270 176 [l0, some (.int x), l2, l3, l4, l5, l6] s h := g_sti (i := .istore_n 1) (len := 1) (q := 0) (p := 1) (by decide +kernel) rfl rfl hn
theorem e270_176 (hn : ip_nl l1 = true) : rf d 270 176 [l0, l1, some (.int x), l3, l4, l5, l6] s h = rf d 270 179 [l0, l1, some (.int (x + 1)), l3, l4, l5, l6] s h := g_inc (q := 1) (z := 1) (w := 1) (x := x) (by decide) (by decide +kernel) rfl rfl hn
theorem e270_179 : rf d 270 179 ls s h = rf d 270 9 ls s h := rf_goto ⟨okD_ok (i := .goto (-170)) (len := 3) (by decide +kernel), rfl⟩
theorem e270_182 : rf d 270 182 [l0, some (.int x), l2, l3, l4, l5, l6] s h = rf d 270 183 [l0, some (.int x), l2, l3, l4, l5, l6] (.int x :: s) h := rf_pure (i := .iload_n 1) (len := 1) (okD_ok (by decide +kernel)) rfl
theorem e270_183 : rf d 270 183 ls [.int x] h = some (.inl (some (.int x)), h) := g_ri (by decide +kernel) rt270
theorem en271 : cf d 271 [.ref a, .int x0] h = rf d 271 0 [some (.ref a), some (.int x0), none, none, none] [] h := rfl
theorem e271_0 : rf d 271 0 [some (.ref a), l1, l2, l3, l4] s h = rf d 271 1 [some (.ref a), l1, l2, l3, l4] (.ref a :: s) h := rf_pure (i := .aload_n 0) (len := 1) (okD_ok (by decide +kernel)) rfl
theorem e271_1 : rf d 271 1 [l0, some (.int x), l2, l3, l4] s h = rf d 271 2 [l0, some (.int x), l2, l3, l4] (.int x :: s) h := rf_pure (i := .iload_n 1) (len := 1) (okD_ok (by decide +kernel)) rfl
theorem e271_2 (hcat : ip_cat s ≤ 8) : rf (d + 1) 271 2 ls (.int x0 :: s) h = rf_k (d + 1) 271 2 ls s (cf d 225 [.int x0] h) := g_cs (idx := 330) [.int x0] (by decide +kernel) ow271 ms_8_330 mt_8_330 (by decide) rfl mL225 rfl hcat
theorem e271_5 : rf d 271 5 ls (.int x :: s) h = if x = 0 then rf d 271 12 ls s h else rf d 271 8 ls s h := g_if (c := .eq) (off := 7) _ (by decide +kernel) rfl cmp_d
theorem e271_8 : rf d 271 8 ls s h = rf d 271 9 ls (.int 0 :: s) h := rf_pure (i := .iconst (0)) (len := 1) (okD_ok (by decide +kernel)) rfl
theorem e271_9 : rf d 271 9 ls s h = rf d 271 13 ls s h := rf_goto ⟨okD_ok (i := .goto (4)) (len := 3) (by decide +kernel), rfl⟩
theorem e271_12 : rf d 271 12 ls s h = rf d 271 13 ls (.int 1 :: s) h := rf_pure (i := .iconst (1)) (len := 1) (okD_ok (by decide +kernel)) rfl
theorem e271_13 : rf d 271 13 ls (.int x :: .ref 265 :: s) (SH n, I, L, R, nc, ns, nx) = rf d 271 16 ls s (SH n, ip_up I 265 0 x, L, R, nc, ns, nx) := g_pI (idx := 142) (by decide +kernel) ow271 f_8_142 rfl (by decide +kernel) rfl (by decide)
theorem e271_16 : rf d 271 16 [some (.ref a), l1, l2, l3, l4] s h = rf d 271 17 [some (.ref a), l1, l2, l3, l4] (.ref a :: s) h := rf_pure (i := .aload_n 0) (len := 1) (okD_ok (by decide +kernel)) rfl
theorem e271_17 : rf d 271 17 ls (.ref 265 :: s) (SH n, I, L, R, nc, ns, nx) = rf d 271 20 ls (.int (I 265 0) :: s) (SH n, I, L, R, nc, ns, nx) := g_I (idx := 142) (by decide +kernel) ow271 f_8_142 rfl rfl (by decide)
theorem e271_20 : rf d 271 20 ls (.int x :: s) h = if x ≤ 0 then rf d 271 25 ls s h else rf d 271 23 ls s h := g_if (c := .le) (off := 5) _ (by decide +kernel) rfl cmp_d
theorem e271_23 : rf d 271 23 ls s h = rf d 271 24 ls (.int 0 :: s) h := rf_pure (i := .iconst (0)) (len := 1) (okD_ok (by decide +kernel)) rfl
theorem e271_24 : rf d 271 24 ls [.int x] h = some (.inl (some (.int x)), h) := g_ri (by decide +kernel) rt271
theorem e271_25 : rf d 271 25 [some (.ref a), l1, l2, l3, l4] s h = rf d 271 26 [some (.ref a), l1, l2, l3, l4] (.ref a :: s) h := rf_pure (i := .aload_n 0) (len := 1) (okD_ok (by decide +kernel)) rfl
theorem e271_26 (hR : LYR R) : rf d 271 26 ls (.ref 265 :: s) (SH n, I, L, R, nc, ns, nx) = rf d 271 29 ls (.ref 296 :: s) (SH n, I, L, R, nc, ns, nx) := g_R (idx := 106) (by decide +kernel) ow271 f_8_106 rfl rfl (by decide) (ly_265_46 hR)
theorem e271_29 : rf d 271 29 [some (.ref a), l1, l2, l3, l4] s h = rf d 271 30 [some (.ref a), l1, l2, l3, l4] (.ref a :: s) h := rf_pure (i := .aload_n 0) (len := 1) (okD_ok (by decide +kernel)) rfl
theorem e271_30 : rf d 271 30 ls (.ref 265 :: s) (SH n, I, L, R, nc, ns, nx) = rf d 271 33 ls (.int (I 265 38) :: s) (SH n, I, L, R, nc, ns, nx) := g_I (idx := 306) (by decide +kernel) ow271 f_8_306 rfl rfl (by decide)
theorem e271_33 (q : ia n a j) : rf d 271 33 ls (.int j :: .ref a :: s) (SH n, I, L, R, nc, ns, nx) = rf d 271 34 ls (.int (I a j.toNatClampNeg) :: s) (SH n, I, L, R, nc, ns, nx) := g_ial (by decide +kernel) q
theorem e271_34 : rf d 271 34 [some (.ref a), l1, l2, l3, l4] s h = rf d 271 35 [some (.ref a), l1, l2, l3, l4] (.ref a :: s) h := rf_pure (i := .aload_n 0) (len := 1) (okD_ok (by decide +kernel)) rfl
theorem e271_35 (hR : LYR R) : rf d 271 35 ls (.ref 265 :: s) (SH n, I, L, R, nc, ns, nx) = rf d 271 38 ls (.ref 293 :: s) (SH n, I, L, R, nc, ns, nx) := g_R (idx := 97) (by decide +kernel) ow271 f_8_97 rfl rfl (by decide) (ly_265_43 hR)
theorem e271_38 : rf d 271 38 [some (.ref a), l1, l2, l3, l4] s h = rf d 271 39 [some (.ref a), l1, l2, l3, l4] (.ref a :: s) h := rf_pure (i := .aload_n 0) (len := 1) (okD_ok (by decide +kernel)) rfl
theorem e271_39 : rf d 271 39 ls (.ref 265 :: s) (SH n, I, L, R, nc, ns, nx) = rf d 271 42 ls (.int (I 265 38) :: s) (SH n, I, L, R, nc, ns, nx) := g_I (idx := 306) (by decide +kernel) ow271 f_8_306 rfl rfl (by decide)
theorem e271_42 (q : ia n a j) : rf d 271 42 ls (.int j :: .ref a :: s) (SH n, I, L, R, nc, ns, nx) = rf d 271 43 ls (.int (I a j.toNatClampNeg) :: s) (SH n, I, L, R, nc, ns, nx) := g_ial (by decide +kernel) q
theorem e271_43 : rf d 271 43 ls s h = rf d 271 44 ls (.int (-1) :: s) h := rf_pure (i := .iconst (-1)) (len := 1) (okD_ok (by decide +kernel)) rfl
theorem e271_44 : rf d 271 44 ls (.int y :: .int x :: s) h = rf d 271 45 ls (.int (x ^^^ y) :: s) h := rf_pure (i := .ixor) (len := 1) (okD_ok (by decide +kernel)) rfl
theorem e271_45 : rf d 271 45 ls (.int y :: .int x :: s) h = rf d 271 46 ls (.int (x &&& y) :: s) h := rf_pure (i := .iand) (len := 1) (okD_ok (by decide +kernel)) rfl
theorem e271_46 (hn : ip_nl l1 = true) : rf d 271 46 [l0, l1, l2, l3, l4] (.int x :: s) h = rf d 271 47 [l0, l1, some (.int x), l3, l4] s h := g_sti (i := .istore_n 2) (len := 1) (q := 1) (p := 1) (by decide +kernel) rfl rfl hn
theorem e271_47 : rf d 271 47 [some (.ref a), l1, l2, l3, l4] s h = rf d 271 48 [some (.ref a), l1, l2, l3, l4] (.ref a :: s) h := rf_pure (i := .aload_n 0) (len := 1) (okD_ok (by decide +kernel)) rfl
theorem e271_48 (hR : LYR R) : rf d 271 48 ls (.ref 265 :: s) (SH n, I, L, R, nc, ns, nx) = rf d 271 51 ls (.ref 287 :: s) (SH n, I, L, R, nc, ns, nx) := g_R (idx := 79) (by decide +kernel) ow271 f_8_79 rfl rfl (by decide) (ly_265_35 hR)
theorem e271_51 : rf d 271 51 [l0, l1, some (.int x), l3, l4] s h = rf d 271 52 [l0, l1, some (.int x), l3, l4] (.int x :: s) h := rf_pure (i := .iload_n 2) (len := 1) (okD_ok (by decide +kernel)) rfl
theorem e271_52 (q : ia n a j) : rf d 271 52 ls (.int j :: .ref a :: s) (SH n, I, L, R, nc, ns, nx) = rf d 271 53 ls (.int (I a j.toNatClampNeg) :: s) (SH n, I, L, R, nc, ns, nx) := g_ial (by decide +kernel) q
theorem e271_53 : rf d 271 53 [l0, some (.int x), l2, l3, l4] s h = rf d 271 54 [l0, some (.int x), l2, l3, l4] (.int x :: s) h := rf_pure (i := .iload_n 1) (len := 1) (okD_ok (by decide +kernel)) rfl
theorem e271_54 : rf d 271 54 ls (.int y :: .int x :: s) h = if ¬ x = y then rf d 271 61 ls s h else rf d 271 57 ls s h := g_ic (c := .ne) (off := 7) _ (by decide +kernel) rfl cmp_d
theorem e271_57 : rf d 271 57 ls s h = rf d 271 58 ls (.int 1 :: s) h := rf_pure (i := .iconst (1)) (len := 1) (okD_ok (by decide +kernel)) rfl
theorem e271_58 : rf d 271 58 ls s h = rf d 271 62 ls s h := rf_goto ⟨okD_ok (i := .goto (4)) (len := 3) (by decide +kernel), rfl⟩
theorem e271_61 : rf d 271 61 ls s h = rf d 271 62 ls (.int 0 :: s) h := rf_pure (i := .iconst (0)) (len := 1) (okD_ok (by decide +kernel)) rfl
theorem e271_62 (hn : ip_nl l2 = true) : rf d 271 62 [l0, l1, l2, l3, l4] (.int x :: s) h = rf d 271 63 [l0, l1, l2, some (.int x), l4] s h := g_sti (i := .istore_n 3) (len := 1) (q := 2) (p := 1) (by decide +kernel) rfl rfl hn
theorem e271_63 : rf d 271 63 [some (.ref a), l1, l2, l3, l4] s h = rf d 271 64 [some (.ref a), l1, l2, l3, l4] (.ref a :: s) h := rf_pure (i := .aload_n 0) (len := 1) (okD_ok (by decide +kernel)) rfl
theorem e271_64 (hR : LYR R) : rf d 271 64 ls (.ref 265 :: s) (SH n, I, L, R, nc, ns, nx) = rf d 271 67 ls (.ref 293 :: s) (SH n, I, L, R, nc, ns, nx) := g_R (idx := 97) (by decide +kernel) ow271 f_8_97 rfl rfl (by decide) (ly_265_43 hR)
theorem e271_67 : rf d 271 67 [some (.ref a), l1, l2, l3, l4] s h = rf d 271 68 [some (.ref a), l1, l2, l3, l4] (.ref a :: s) h := rf_pure (i := .aload_n 0) (len := 1) (okD_ok (by decide +kernel)) rfl
theorem e271_68 : rf d 271 68 ls (.ref 265 :: s) (SH n, I, L, R, nc, ns, nx) = rf d 271 71 ls (.int (I 265 38) :: s) (SH n, I, L, R, nc, ns, nx) := g_I (idx := 306) (by decide +kernel) ow271 f_8_306 rfl rfl (by decide)
theorem e271_71 (q : ia n a j) : rf d 271 71 ls (.int j :: .ref a :: s) (SH n, I, L, R, nc, ns, nx) = rf d 271 72 ls (.int (I a j.toNatClampNeg) :: s) (SH n, I, L, R, nc, ns, nx) := g_ial (by decide +kernel) q
theorem e271_72 (hn : ip_nl l3 = true) : rf d 271 72 [l0, l1, l2, l3, l4] (.int x :: s) h = rf d 271 74 [l0, l1, l2, l3, some (.int x)] s h := g_sti (i := .istore 4) (len := 2) (q := 3) (p := 2) (by decide +kernel) rfl rfl hn
theorem e271_74 : rf d 271 74 [l0, l1, l2, l3, some (.int x)] s h = rf d 271 76 [l0, l1, l2, l3, some (.int x)] (.int x :: s) h := rf_pure (i := .iload 4) (len := 2) (okD_ok (by decide +kernel)) rfl
theorem e271_76 : rf d 271 76 ls (.int x :: s) h = if x ≤ 0 then rf d 271 119 ls s h else rf d 271 79 ls s h := g_if (c := .le) (off := 43) _ (by decide +kernel) rfl cmp_d
theorem e271_79 : rf d 271 79 [l0, l1, l2, some (.int x), l4] s h = rf d 271 80 [l0, l1, l2, some (.int x), l4] (.int x :: s) h := rf_pure (i := .iload_n 3) (len := 1) (okD_ok (by decide +kernel)) rfl
theorem e271_80 : rf d 271 80 [some (.ref a), l1, l2, l3, l4] s h = rf d 271 81 [some (.ref a), l1, l2, l3, l4] (.ref a :: s) h := rf_pure (i := .aload_n 0) (len := 1) (okD_ok (by decide +kernel)) rfl
theorem e271_81 (hR : LYR R) : rf d 271 81 ls (.ref 265 :: s) (SH n, I, L, R, nc, ns, nx) = rf d 271 84 ls (.ref 287 :: s) (SH n, I, L, R, nc, ns, nx) := g_R (idx := 79) (by decide +kernel) ow271 f_8_79 rfl rfl (by decide) (ly_265_35 hR)
theorem e271_84 : rf d 271 84 [l0, l1, some (.int x), l3, l4] s h = rf d 271 85 [l0, l1, some (.int x), l3, l4] (.int x :: s) h := rf_pure (i := .iload_n 2) (len := 1) (okD_ok (by decide +kernel)) rfl
theorem e271_85 : rf d 271 85 [l0, l1, l2, l3, some (.int x)] s h = rf d 271 87 [l0, l1, l2, l3, some (.int x)] (.int x :: s) h := rf_pure (i := .iload 4) (len := 2) (okD_ok (by decide +kernel)) rfl
theorem e271_87 : rf d 271 87 ls (.int y :: .int x :: s) h = rf d 271 88 ls (.int (x ||| y) :: s) h := rf_pure (i := .ior) (len := 1) (okD_ok (by decide +kernel)) rfl
theorem e271_88 (q : ia n a j) : rf d 271 88 ls (.int j :: .ref a :: s) (SH n, I, L, R, nc, ns, nx) = rf d 271 89 ls (.int (I a j.toNatClampNeg) :: s) (SH n, I, L, R, nc, ns, nx) := g_ial (by decide +kernel) q
theorem e271_89 : rf d 271 89 [l0, some (.int x), l2, l3, l4] s h = rf d 271 90 [l0, some (.int x), l2, l3, l4] (.int x :: s) h := rf_pure (i := .iload_n 1) (len := 1) (okD_ok (by decide +kernel)) rfl
theorem e271_90 : rf d 271 90 ls (.int y :: .int x :: s) h = if ¬ x = y then rf d 271 97 ls s h else rf d 271 93 ls s h := g_ic (c := .ne) (off := 7) _ (by decide +kernel) rfl cmp_d
theorem e271_93 : rf d 271 93 ls s h = rf d 271 94 ls (.int 1 :: s) h := rf_pure (i := .iconst (1)) (len := 1) (okD_ok (by decide +kernel)) rfl
theorem e271_94 : rf d 271 94 ls s h = rf d 271 98 ls s h := rf_goto ⟨okD_ok (i := .goto (4)) (len := 3) (by decide +kernel), rfl⟩
theorem e271_97 : rf d 271 97 ls s h = rf d 271 98 ls (.int 0 :: s) h := rf_pure (i := .iconst (0)) (len := 1) (okD_ok (by decide +kernel)) rfl
theorem e271_98 : rf d 271 98 ls (.int y :: .int x :: s) h = rf d 271 99 ls (.int (x + y) :: s) h := rf_pure (i := .iadd) (len := 1) (okD_ok (by decide +kernel)) rfl
theorem e271_99 (hn : ip_nl l2 = true) : rf d 271 99 [l0, l1, l2, l3, l4] (.int x :: s) h = rf d 271 100 [l0, l1, l2, some (.int x), l4] s h := g_sti (i := .istore_n 3) (len := 1) (q := 2) (p := 1) (by decide +kernel) rfl rfl hn
theorem e271_100 : rf d 271 100 [l0, l1, l2, l3, some (.int x)] s h = rf d 271 102 [l0, l1, l2, l3, some (.int x)] (.int x :: s) h := rf_pure (i := .iload 4) (len := 2) (okD_ok (by decide +kernel)) rfl
theorem e271_102 : rf d 271 102 ls s h = rf d 271 103 ls (.int 1 :: s) h := rf_pure (i := .iconst (1)) (len := 1) (okD_ok (by decide +kernel)) rfl
theorem e271_103 : rf d 271 103 ls (.int y :: .int x :: s) h = rf d 271 104 ls (.int (x - y) :: s) h := rf_pure (i := .isub) (len := 1) (okD_ok (by decide +kernel)) rfl
theorem e271_104 : rf d 271 104 [some (.ref a), l1, l2, l3, l4] s h = rf d 271 105 [some (.ref a), l1, l2, l3, l4] (.ref a :: s) h := rf_pure (i := .aload_n 0) (len := 1) (okD_ok (by decide +kernel)) rfl
theorem e271_105 (hR : LYR R) : rf d 271 105 ls (.ref 265 :: s) (SH n, I, L, R, nc, ns, nx) = rf d 271 108 ls (.ref 293 :: s) (SH n, I, L, R, nc, ns, nx) := g_R (idx := 97) (by decide +kernel) ow271 f_8_97 rfl rfl (by decide) (ly_265_43 hR)
theorem e271_108 : rf d 271 108 [some (.ref a), l1, l2, l3, l4] s h = rf d 271 109 [some (.ref a), l1, l2, l3, l4] (.ref a :: s) h := rf_pure (i := .aload_n 0) (len := 1) (okD_ok (by decide +kernel)) rfl
theorem e271_109 : rf d 271 109 ls (.ref 265 :: s) (SH n, I, L, R, nc, ns, nx) = rf d 271 112 ls (.int (I 265 38) :: s) (SH n, I, L, R, nc, ns, nx) := g_I (idx := 306) (by decide +kernel) ow271 f_8_306 rfl rfl (by decide)
theorem e271_112 (q : ia n a j) : rf d 271 112 ls (.int j :: .ref a :: s) (SH n, I, L, R, nc, ns, nx) = rf d 271 113 ls (.int (I a j.toNatClampNeg) :: s) (SH n, I, L, R, nc, ns, nx) := g_ial (by decide +kernel) q
theorem e271_113 : rf d 271 113 ls (.int y :: .int x :: s) h = rf d 271 114 ls (.int (x &&& y) :: s) h := rf_pure (i := .iand) (len := 1) (okD_ok (by decide +kernel)) rfl
theorem e271_114 (hn : ip_nl l3 = true) : rf d 271 114 [l0, l1, l2, l3, l4] (.int x :: s) h = rf d 271 116 [l0, l1, l2, l3, some (.int x)] s h := g_sti (i := .istore 4) (len := 2) (q := 3) (p := 2) (by decide +kernel) rfl rfl hn
theorem e271_116 : rf d 271 116 ls s h = rf d 271 74 ls s h := rf_goto ⟨okD_ok (i := .goto (-42)) (len := 3) (by decide +kernel), rfl⟩
theorem e271_119 : rf d 271 119 [l0, l1, l2, some (.int x), l4] s h = rf d 271 120 [l0, l1, l2, some (.int x), l4] (.int x :: s) h := rf_pure (i := .iload_n 3) (len := 1) (okD_ok (by decide +kernel)) rfl
theorem e271_120 : rf d 271 120 ls [.int x] h = some (.inl (some (.int x)), h) := g_ri (by decide +kernel) rt271
theorem en272 : cf d 272 [.ref a, .int x0] h = rf d 272 0 [some (.ref a), some (.int x0), none, none] [] h := rfl
theorem e272_0 : rf d 272 0 [some (.ref a), l1, l2, l3] s h = rf d 272 1 [some (.ref a), l1, l2, l3] (.ref a :: s) h := rf_pure (i := .aload_n 0) (len := 1) (okD_ok (by decide +kernel)) rfl
theorem e272_1 : rf d 272 1 [some (.ref a), l1, l2, l3] s h = rf d 272 2 [some (.ref a), l1, l2, l3] (.ref a :: s) h := rf_pure (i := .aload_n 0) (len := 1) (okD_ok (by decide +kernel)) rfl
theorem e272_2 : rf d 272 2 [l0, some (.int x), l2, l3] s h = rf d 272 3 [l0, some (.int x), l2, l3] (.int x :: s) h := rf_pure (i := .iload_n 1) (len := 1) (okD_ok (by decide +kernel)) rfl
theorem e272_3 (hcat : ip_cat s ≤ 8) : rf (d + 1) 272 3 ls (.int x0 :: .ref 265 :: s) (SH n, I, L, R, nc, ns, nx) = rf_k (d + 1) 272 3 ls s (cf d 244 [.ref 265, .int x0] (SH n, I, L, R, nc, ns, nx)) := g_cv (idx := 401) (t := 8) [.int x0] (by decide +kernel) ow272 ms_8_401 mt_8_401 cy244_8 rfl rfl mL244 rfl rfl (by decide) hcat
theorem e272_6 : rf d 272 6 ls (.int x :: s) h = if x = 0 then rf d 272 13 ls s h else rf d 272 9 ls s h := g_if (c := .eq) (off := 7) _ (by decide +kernel) rfl cmp_d
theorem e272_9 : rf d 272 9 ls s h = rf d 272 10 ls (.int 0 :: s) h := rf_pure (i := .iconst (0)) (len := 1) (okD_ok (by decide +kernel)) rfl
theorem e272_10 : rf d 272 10 ls s h = rf d 272 14 ls s h := rf_goto ⟨okD_ok (i := .goto (4)) (len := 3) (by decide +kernel), rfl⟩
theorem e272_13 : rf d 272 13 ls s h = rf d 272 14 ls (.int 1 :: s) h := rf_pure (i := .iconst (1)) (len := 1) (okD_ok (by decide +kernel)) rfl
theorem e272_14 : rf d 272 14 ls (.int x :: .ref 265 :: s) (SH n, I, L, R, nc, ns, nx) = rf d 272 17 ls s (SH n, ip_up I 265 0 x, L, R, nc, ns, nx) := g_pI (idx := 142) (by decide +kernel) ow272 f_8_142 rfl (by decide +kernel) rfl (by decide)
theorem e272_17 : rf d 272 17 [some (.ref a), l1, l2, l3] s h = rf d 272 18 [some (.ref a), l1, l2, l3] (.ref a :: s) h := rf_pure (i := .aload_n 0) (len := 1) (okD_ok (by decide +kernel)) rfl
theorem e272_18 : rf d 272 18 ls (.ref 265 :: s) (SH n, I, L, R, nc, ns, nx) = rf d 272 21 ls (.int (I 265 0) :: s) (SH n, I, L, R, nc, ns, nx) := g_I (idx := 142) (by decide +kernel) ow272 f_8_142 rfl rfl (by decide)
theorem e272_21 : rf d 272 21 ls (.int x :: s) h = if x ≤ 0 then rf d 272 26 ls s h else rf d 272 24 ls s h := g_if (c := .le) (off := 5) _ (by decide +kernel) rfl cmp_d
theorem e272_24 : rf d 272 24 ls s h = rf d 272 25 ls (.int 0 :: s) h := rf_pure (i := .iconst (0)) (len := 1) (okD_ok (by decide +kernel)) rfl
theorem e272_25 : rf d 272 25 ls [.int x] h = some (.inl (some (.int x)), h) := g_ri (by decide +kernel) rt272
theorem e272_26 : rf d 272 26 [some (.ref a), l1, l2, l3] s h = rf d 272 27 [some (.ref a), l1, l2, l3] (.ref a :: s) h := rf_pure (i := .aload_n 0) (len := 1) (okD_ok (by decide +kernel)) rfl
theorem e272_27 : rf d 272 27 ls s h = rf d 272 28 ls (.int 0 :: s) h := rf_pure (i := .iconst (0)) (len := 1) (okD_ok (by decide +kernel)) rfl
theorem e272_28 : rf d 272 28 ls (.int x :: .ref 265 :: s) (SH n, I, L, R, nc, ns, nx) = rf d 272 31 ls s (SH n, ip_up I 265 70 x, L, R, nc, ns, nx) := g_pI (idx := 444) (by decide +kernel) ow272 f_8_444 rfl (by decide +kernel) rfl (by decide)
theorem e272_31 : rf d 272 31 [some (.ref a), l1, l2, l3] s h = rf d 272 32 [some (.ref a), l1, l2, l3] (.ref a :: s) h := rf_pure (i := .aload_n 0) (len := 1) (okD_ok (by decide +kernel)) rfl
theorem e272_32 : rf d 272 32 [some (.ref a), l1, l2, l3] s h = rf d 272 33 [some (.ref a), l1, l2, l3] (.ref a :: s) h := rf_pure (i := .aload_n 0) (len := 1) (okD_ok (by decide +kernel)) rfl
theorem e272_33 (hR : LYR R) : rf d 272 33 ls (.ref 265 :: s) (SH n, I, L, R, nc, ns, nx) = rf d 272 36 ls (.ref 289 :: s) (SH n, I, L, R, nc, ns, nx) := g_R (idx := 85) (by decide +kernel) ow272 f_8_85 rfl rfl (by decide) (ly_265_39 hR)
theorem e272_36 : rf d 272 36 [l0, some (.int x), l2, l3] s h = rf d 272 37 [l0, some (.int x), l2, l3] (.int x :: s) h := rf_pure (i := .iload_n 1) (len := 1) (okD_ok (by decide +kernel)) rfl
theorem e272_37 (q : ia n a j) : rf d 272 37 ls (.int j :: .ref a :: s) (SH n, I, L, R, nc, ns, nx) = rf d 272 38 ls (.int (I a j.toNatClampNeg) :: s) (SH n, I, L, R, nc, ns, nx) := g_ial (by decide +kernel) q
theorem e272_38 : rf d 272 38 ls (.int x :: s) h = if ¬ x = 0 then rf d 272 47 ls s h else rf d 272 41 ls s h := g_if (c := .ne) (off := 9) _ (by decide +kernel) rfl cmp_d
theorem e272_41 : rf d 272 41 ls s h = rf d 272 44 ls (.ref (tx 20) :: s) h := g_ks (idx := 450) (i := .ldc_w 450) (len := 3) (by decide +kernel) rfl rfl ow272 kn_8_450 ks_8_450
theorem e272_44 : rf d 272 44 ls s h = rf d 272 64 ls s h := rf_goto ⟨okD_ok (i := .goto (20)) (len := 3) (by decide +kernel), rfl⟩
theorem e272_47 : rf d 272 47 [some (.ref a), l1, l2, l3] s h = rf d 272 48 [some (.ref a), l1, l2, l3] (.ref a :: s) h := rf_pure (i := .aload_n 0) (len := 1) (okD_ok (by decide +kernel)) rfl
theorem e272_48 (hR : LYR R) : rf d 272 48 ls (.ref 265 :: s) (SH n, I, L, R, nc, ns, nx) = rf d 272 51 ls (.ref 289 :: s) (SH n, I, L, R, nc, ns, nx) := g_R (idx := 85) (by decide +kernel) ow272 f_8_85 rfl rfl (by decide) (ly_265_39 hR)
theorem e272_51 : rf d 272 51 [l0, some (.int x), l2, l3] s h = rf d 272 52 [l0, some (.int x), l2, l3] (.int x :: s) h := rf_pure (i := .iload_n 1) (len := 1) (okD_ok (by decide +kernel)) rfl
theorem e272_52 (q : ia n a j) : rf d 272 52 ls (.int j :: .ref a :: s) (SH n, I, L, R, nc, ns, nx) = rf d 272 53 ls (.int (I a j.toNatClampNeg) :: s) (SH n, I, L, R, nc, ns, nx) := g_ial (by decide +kernel) q
theorem e272_53 : rf d 272 53 ls s h = rf d 272 54 ls (.int 1 :: s) h := rf_pure (i := .iconst (1)) (len := 1) (okD_ok (by decide +kernel)) rfl
theorem e272_54 : rf d 272 54 ls (.int y :: .int x :: s) h = if ¬ x = y then rf d 272 62 ls s h else rf d 272 57 ls s h := g_ic (c := .ne) (off := 8) _ (by decide +kernel) rfl cmp_d
theorem e272_57 : rf d 272 57 ls s h = rf d 272 59 ls (.ref (tx 21) :: s) h := g_ks (idx := 188) (i := .ldc 188) (len := 2) (by decide +kernel) rfl rfl ow272 kn_8_188 ks_8_188
theorem e272_59 : rf d 272 59 ls s h = rf d 272 64 ls s h := rf_goto ⟨okD_ok (i := .goto (5)) (len := 3) (by decide +kernel), rfl⟩
theorem e272_62 : rf d 272 62 ls s h = rf d 272 64 ls (.ref (tx 22) :: s) h := g_ks (idx := 190) (i := .ldc 190) (len := 2) (by decide +kernel) rfl rfl ow272 kn_8_190 ks_8_190
theorem e272_64 (hcat : ip_cat s ≤ 8) : rf (d + 1) 272 64 ls (.ref a0 :: .ref 265 :: s) (SH n, I, L, R, nc, ns, nx) = rf_k (d + 1) 272 64 ls s (cf d 273 [.ref 265, .ref a0] (SH n, I, L, R, nc, ns, nx)) := g_cv (idx := 452) (t := 8) [.ref a0] (by decide +kernel) ow272 ms_8_452 mt_8_452 cy273_8 rfl rfl mL273 rfl rfl (by decide) hcat
theorem e272_67 : rf d 272 67 [some (.ref a), l1, l2, l3] s h = rf d 272 68 [some (.ref a), l1, l2, l3] (.ref a :: s) h := rf_pure (i := .aload_n 0) (len := 1) (okD_ok (by decide +kernel)) rfl
theorem e272_68 (hR : LYR R) : rf d 272 68 ls (.ref 265 :: s) (SH n, I, L, R, nc, ns, nx) = rf d 272 71 ls (.ref 289 :: s) (SH n, I, L, R, nc, ns, nx) := g_R (idx := 85) (by decide +kernel) ow272 f_8_85 rfl rfl (by decide) (ly_265_39 hR)
theorem e272_71 : rf d 272 71 [l0, some (.int x), l2, l3] s h = rf d 272 72 [l0, some (.int x), l2, l3] (.int x :: s) h := rf_pure (i := .iload_n 1) (len := 1) (okD_ok (by decide +kernel)) rfl
theorem e272_72 (q : ia n a j) : rf d 272 72 ls (.int j :: .ref a :: s) (SH n, I, L, R, nc, ns, nx) = rf d 272 73 ls (.int (I a j.toNatClampNeg) :: s) (SH n, I, L, R, nc, ns, nx) := g_ial (by decide +kernel) q
theorem e272_73 : rf d 272 73 ls (.int x :: s) h = if x = 0 then rf d 272 130 ls s h else rf d 272 76 ls s h := g_if (c := .eq) (off := 57) _ (by decide +kernel) rfl cmp_d
theorem e272_76 : rf d 272 76 [some (.ref a), l1, l2, l3] s h = rf d 272 77 [some (.ref a), l1, l2, l3] (.ref a :: s) h := rf_pure (i := .aload_n 0) (len := 1) (okD_ok (by decide +kernel)) rfl
theorem e272_77 : rf d 272 77 [some (.ref a), l1, l2, l3] s h = rf d 272 78 [some (.ref a), l1, l2, l3] (.ref a :: s) h := rf_pure (i := .aload_n 0) (len := 1) (okD_ok (by decide +kernel)) rfl
theorem e272_78 (hR : LYR R) : rf d 272 78 ls (.ref 265 :: s) (SH n, I, L, R, nc, ns, nx) = rf d 272 81 ls (.ref 291 :: s) (SH n, I, L, R, nc, ns, nx) := g_R (idx := 91) (by decide +kernel) ow272 f_8_91 rfl rfl (by decide) (ly_265_41 hR)
theorem e272_81 : rf d 272 81 [l0, some (.int x), l2, l3] s h = rf d 272 82 [l0, some (.int x), l2, l3] (.int x :: s) h := rf_pure (i := .iload_n 1) (len := 1) (okD_ok (by decide +kernel)) rfl
theorem e272_82 (q : ia n a j) : rf d 272 82 ls (.int j :: .ref a :: s) (SH n, I, L, R, nc, ns, nx) = rf d 272 83 ls (.int (I a j.toNatClampNeg) :: s) (SH n, I, L, R, nc, ns, nx) := g_ial (by decide +kernel) q
theorem e272_83 : rf d 272 83 ls (.int x :: s) h = if ¬ x = 0 then rf d 272 92 ls s h else rf d 272 86 ls s h := g_if (c := .ne) (off := 9) _ (by decide +kernel) rfl cmp_d
theorem e272_86 : rf d 272 86 ls s h = rf d 272 89 ls (.ref (tx 23) :: s) h := g_ks (idx := 456) (i := .ldc_w 456) (len := 3) (by decide +kernel) rfl rfl ow272 kn_8_456 ks_8_456
theorem e272_89 : rf d 272 89 ls s h = rf d 272 127 ls s h := rf_goto ⟨okD_ok (i := .goto (38)) (len := 3) (by decide +kernel), rfl⟩
theorem e272_92 : rf d 272 92 [some (.ref a), l1, l2, l3] s h = rf d 272 93 [some (.ref a), l1, l2, l3] (.ref a :: s) h := rf_pure (i := .aload_n 0) (len := 1) (okD_ok (by decide +kernel)) rfl
theorem e272_93 (hR : LYR R) : rf d 272 93 ls (.ref 265 :: s) (SH n, I, L, R, nc, ns, nx) = rf d 272 96 ls (.ref 291 :: s) (SH n, I, L, R, nc, ns, nx) := g_R (idx := 91) (by decide +kernel) ow272 f_8_91 rfl rfl (by decide) (ly_265_41 hR)
theorem e272_96 : rf d 272 96 [l0, some (.int x), l2, l3] s h = rf d 272 97 [l0, some (.int x), l2, l3] (.int x :: s) h := rf_pure (i := .iload_n 1) (len := 1) (okD_ok (by decide +kernel)) rfl
theorem e272_97 (q : ia n a j) : rf d 272 97 ls (.int j :: .ref a :: s) (SH n, I, L, R, nc, ns, nx) = rf d 272 98 ls (.int (I a j.toNatClampNeg) :: s) (SH n, I, L, R, nc, ns, nx) := g_ial (by decide +kernel) q
theorem e272_98 : rf d 272 98 ls s h = rf d 272 99 ls (.int 1 :: s) h := rf_pure (i := .iconst (1)) (len := 1) (okD_ok (by decide +kernel)) rfl
theorem e272_99 : rf d 272 99 ls (.int y :: .int x :: s) h = if ¬ x = y then rf d 272 108 ls s h else rf d 272 102 ls s h := g_ic (c := .ne) (off := 9) _ (by decide +kernel) rfl cmp_d
theorem e272_102 : rf d 272 102 ls s h = rf d 272 105 ls (.ref (tx 24) :: s) h := g_ks (idx := 458) (i := .ldc_w 458) (len := 3) (by decide +kernel) rfl rfl ow272 kn_8_458 ks_8_458
theorem e272_105 : rf d 272 105 ls s h = rf d 272 127 ls s h := rf_goto ⟨okD_ok (i := .goto (22)) (len := 3) (by decide +kernel), rfl⟩
theorem e272_108 : rf d 272 108 [some (.ref a), l1, l2, l3] s h = rf d 272 109 [some (.ref a), l1, l2, l3] (.ref a :: s) h := rf_pure (i := .aload_n 0) (len := 1) (okD_ok (by decide +kernel)) rfl
theorem e272_109 (hR : LYR R) : rf d 272 109 ls (.ref 265 :: s) (SH n, I, L, R, nc, ns, nx) = rf d 272 112 ls (.ref 291 :: s) (SH n, I, L, R, nc, ns, nx) := g_R (idx := 91) (by decide +kernel) ow272 f_8_91 rfl rfl (by decide) (ly_265_41 hR)
theorem e272_112 : rf d 272 112 [l0, some (.int x), l2, l3] s h = rf d 272 113 [l0, some (.int x), l2, l3] (.int x :: s) h := rf_pure (i := .iload_n 1) (len := 1) (okD_ok (by decide +kernel)) rfl
theorem e272_113 (q : ia n a j) : rf d 272 113 ls (.int j :: .ref a :: s) (SH n, I, L, R, nc, ns, nx) = rf d 272 114 ls (.int (I a j.toNatClampNeg) :: s) (SH n, I, L, R, nc, ns, nx) := g_ial (by decide +kernel) q
theorem e272_114 : rf d 272 114 ls s h = rf d 272 115 ls (.int 2 :: s) h := rf_pure (i := .iconst (2)) (len := 1) (okD_ok (by decide +kernel)) rfl
theorem e272_115 : rf d 272 115 ls (.int y :: .int x :: s) h = if ¬ x = y then rf d 272 124 ls s h else rf d 272 118 ls s h := g_ic (c := .ne) (off := 9) _ (by decide +kernel) rfl cmp_d
theorem e272_118 : rf d 272 118 ls s h = rf d 272 121 ls (.ref (tx 25) :: s) h := g_ks (idx := 460) (i := .ldc_w 460) (len := 3) (by decide +kernel) rfl rfl ow272 kn_8_460 ks_8_460
theorem e272_121 : rf d 272 121 ls s h = rf d 272 127 ls s h := rf_goto ⟨okD_ok (i := .goto (6)) (len := 3) (by decide +kernel), rfl⟩
theorem e272_124 : rf d 272 124 ls s h = rf d 272 127 ls (.ref (tx 26) :: s) h := g_ks (idx := 462) (i := .ldc_w 462) (len := 3) (by decide +kernel) rfl rfl ow272 kn_8_462 ks_8_462
theorem e272_127 (hcat : ip_cat s ≤ 8) : rf (d + 1) 272 127 ls (.ref a0 :: .ref 265 :: s) (SH n, I, L, R, nc, ns, nx) = rf_k (d + 1) 272 127 ls s (cf d 273 [.ref 265, .ref a0] (SH n, I, L, R, nc, ns, nx)) := g_cv (idx := 452) (t := 8) [.ref a0] (by decide +kernel) ow272 ms_8_452 mt_8_452 cy273_8 rfl rfl mL273 rfl rfl (by decide) hcat
theorem e272_130 : rf d 272 130 ls s h = rf d 272 131 ls (.int 0 :: s) h := rf_pure (i := .iconst (0)) (len := 1) (okD_ok (by decide +kernel)) rfl
theorem e272_131 (hn : ip_nl l1 = true) : rf d 272 131 [l0, l1, l2, l3] (.int x :: s) h = rf d 272 132 [l0, l1, some (.int x), l3] s h := g_sti (i := .istore_n 2) (len := 1) (q := 1) (p := 1) (by decide +kernel) rfl rfl hn
theorem e272_132 : rf d 272 132 [l0, l1, some (.int x), l3] s h = rf d 272 133 [l0, l1, some (.int x), l3] (.int x :: s) h := rf_pure (i := .iload_n 2) (len := 1) (okD_ok (by decide +kernel)) rfl
theorem e272_133 : rf d 272 133 [some (.ref a), l1, l2, l3] s h = rf d 272 134 [some (.ref a), l1, l2, l3] (.ref a :: s) h := rf_pure (i := .aload_n 0) (len := 1) (okD_ok (by decide +kernel)) rfl
theorem e272_134 : rf d 272 134 ls (.ref 265 :: s) (SH n, I, L, R, nc, ns, nx) = rf d 272 137 ls (.int (I 265 17) :: s) (SH n, I, L, R, nc, ns, nx) := g_I (idx := 291) (by decide +kernel) ow272 f_8_291 rfl rfl (by decide)
theorem e272_137 : rf d 272 137 ls (.int y :: .int x :: s) h = if y ≤ x then rf d 272 258 ls s h else rf d 272 140 ls s h := g_ic (c := .ge) (off := 121) _ (by decide +kernel) rfl cmp_d
theorem e272_140 : rf d 272 140 [some (.ref a), l1, l2, l3] s h = rf d 272 141 [some (.ref a), l1, l2, l3] (.ref a :: s) h := rf_pure (i := .aload_n 0) (len := 1) (okD_ok (by decide +kernel)) rfl
theorem e272_141 : rf d 272 141 ls s h = rf d 272 143 ls (.int 32 :: s) h := rf_pure (i := .bipush (32)) (len := 2) (okD_ok (by decide +kernel)) rfl
theorem e272_143 (hcat : ip_cat s ≤ 8) : rf (d + 1) 272 143 ls (.int x0 :: .ref 265 :: s) (SH n, I, L, R, nc, ns, nx) = rf_k (d + 1) 272 143 ls s (cf d 274 [.ref 265, .int x0] (SH n, I, L, R, nc, ns, nx)) := g_cv (idx := 447) (t := 8) [.int x0] (by decide +kernel) ow272 ms_8_447 mt_8_447 cy274_8 rfl rfl mL274 rfl rfl (by decide) hcat
theorem e272_146 : rf d 272 146 ls s h = rf d 272 147 ls (.int 0 :: s) h := rf_pure (i := .iconst (0)) (len := 1) (okD_ok (by decide +kernel)) rfl
theorem e272_147 (hn : ip_nl l2 = true) : rf d 272 147 [l0, l1, l2, l3] (.int x :: s) h = rf d 272 148 [l0, l1, l2, some (.int x)] s h := g_sti (i := .istore_n 3) (len := 1) (q := 2) (p := 1) (by decide +kernel) rfl rfl hn
theorem e272_148 : rf d 272 148 [l0, l1, l2, some (.int x)] s h = rf d 272 149 [l0, l1, l2, some (.int x)] (.int x :: s) h := rf_pure (i := .iload_n 3) (len := 1) (okD_ok (by decide +kernel)) rfl
theorem e272_149 : rf d 272 149 [some (.ref a), l1, l2, l3] s h = rf d 272 150 [some (.ref a), l1, l2, l3] (.ref a :: s) h := rf_pure (i := .aload_n 0) (len := 1) (okD_ok (by decide +kernel)) rfl
theorem e272_150 (hR : LYR R) : rf d 272 150 ls (.ref 265 :: s) (SH n, I, L, R, nc, ns, nx) = rf d 272 153 ls (.ref 274 :: s) (SH n, I, L, R, nc, ns, nx) := g_R (idx := 39) (by decide +kernel) ow272 f_8_39 rfl rfl (by decide) (ly_265_20 hR)
theorem e272_153 : rf d 272 153 [l0, l1, some (.int x), l3] s h = rf d 272 154 [l0, l1, some (.int x), l3] (.int x :: s) h := rf_pure (i := .iload_n 2) (len := 1) (okD_ok (by decide +kernel)) rfl
theorem e272_154 (q : la n a j) : rf d 272 154 ls (.int j :: .ref a :: s) (SH n, I, L, R, nc, ns, nx) = rf d 272 155 ls (.long (L a j.toNatClampNeg) :: s) (SH n, I, L, R, nc, ns, nx) := g_lal (by decide +kernel) q
theorem e272_155 (hcat : ip_cat s ≤ 8) : rf (d + 1) 272 155 ls (.long u0 :: s) h = rf_k (d + 1) 272 155 ls s (cf d 220 [.long u0] h) := g_cs (idx := 210) [.long u0] (by decide +kernel) ow272 ms_8_210 mt_8_210 (by decide) rfl mL220 rfl hcat
theorem e272_158 : rf d 272 158 ls (.int y :: .int x :: s) h = if y ≤ x then rf d 272 181 ls s h else rf d 272 161 ls s h := g_ic (c := .ge) (off := 23) _ (by decide +kernel) rfl cmp_d
theorem e272_161 : rf d 272 161 [some (.ref a), l1, l2, l3] s h = rf d 272 162 [some (.ref a), l1, l2, l3] (.ref a :: s) h := rf_pure (i := .aload_n 0) (len := 1) (okD_ok (by decide +kernel)) rfl
theorem e272_162 : rf d 272 162 [some (.ref a), l1, l2, l3] s h = rf d 272 163 [some (.ref a), l1, l2, l3] (.ref a :: s) h := rf_pure (i := .aload_n 0) (len := 1) (okD_ok (by decide +kernel)) rfl
theorem e272_163 (hR : LYR R) : rf d 272 163 ls (.ref 265 :: s) (SH n, I, L, R, nc, ns, nx) = rf d 272 166 ls (.ref 274 :: s) (SH n, I, L, R, nc, ns, nx) := g_R (idx := 39) (by decide +kernel) ow272 f_8_39 rfl rfl (by decide) (ly_265_20 hR)
theorem e272_166 : rf d 272 166 [l0, l1, some (.int x), l3] s h = rf d 272 167 [l0, l1, some (.int x), l3] (.int x :: s) h := rf_pure (i := .iload_n 2) (len := 1) (okD_ok (by decide +kernel)) rfl
theorem e272_167 (q : la n a j) : rf d 272 167 ls (.int j :: .ref a :: s) (SH n, I, L, R, nc, ns, nx) = rf d 272 168 ls (.long (L a j.toNatClampNeg) :: s) (SH n, I, L, R, nc, ns, nx) := g_lal (by decide +kernel) q
theorem e272_168 : rf d 272 168 [l0, l1, l2, some (.int x)] s h = rf d 272 169 [l0, l1, l2, some (.int x)] (.int x :: s) h := rf_pure (i := .iload_n 3) (len := 1) (okD_ok (by decide +kernel)) rfl
theorem e272_169 (hcat : ip_cat s ≤ 8) : rf (d + 1) 272 169 ls (.int x1 :: .long u0 :: s) h = rf_k (d + 1) 272 169 ls s (cf d 221 [.long u0, .int x1] h) := g_cs (idx := 326) [.int x1, .long u0] (by decide +kernel) ow272 ms_8_326 mt_8_326 (by decide) rfl mL221 rfl hcat
theorem e272_172 (hcat : ip_cat s ≤ 8) : rf (d + 1) 272 172 ls (.int x0 :: .ref 265 :: s) (SH n, I, L, R, nc, ns, nx) = rf_k (d + 1) 272 172 ls s (cf d 274 [.ref 265, .int x0] (SH n, I, L, R, nc, ns, nx)) := g_cv (idx := 447) (t := 8) [.int x0] (by decide +kernel) ow272 ms_8_447 mt_8_447 cy274_8 rfl rfl mL274 rfl rfl (by decide) hcat
theorem e272_175 (hn : ip_nl l2 = true) : rf d 272 175 [l0, l1, l2, some (.int x)] s h = rf d 272 178 [l0, l1, l2, some (.int (x + 1))] s h := g_inc (q := 2) (z := 1) (w := 1) (x := x) (by decide) (by decide +kernel) rfl rfl hn
theorem e272_178 : rf d 272 178 ls s h = rf d 272 148 ls s h := rf_goto ⟨okD_ok (i := .goto (-30)) (len := 3) (by decide +kernel), rfl⟩
theorem e272_181 : rf d 272 181 [some (.ref a), l1, l2, l3] s h = rf d 272 182 [some (.ref a), l1, l2, l3] (.ref a :: s) h := rf_pure (i := .aload_n 0) (len := 1) (okD_ok (by decide +kernel)) rfl
theorem e272_182 (hR : LYR R) : rf d 272 182 ls (.ref 265 :: s) (SH n, I, L, R, nc, ns, nx) = rf d 272 185 ls (.ref 293 :: s) (SH n, I, L, R, nc, ns, nx) := g_R (idx := 97) (by decide +kernel) ow272 f_8_97 rfl rfl (by decide) (ly_265_43 hR)
theorem e272_185 : rf d 272 185 [l0, some (.int x), l2, l3] s h = rf d 272 186 [l0, some (.int x), l2, l3] (.int x :: s) h := rf_pure (i := .iload_n 1) (len := 1) (okD_ok (by decide +kernel)) rfl
theorem e272_186 (q : ia n a j) : rf d 272 186 ls (.int j :: .ref a :: s) (SH n, I, L, R, nc, ns, nx) = rf d 272 187 ls (.int (I a j.toNatClampNeg) :: s) (SH n, I, L, R, nc, ns, nx) := g_ial (by decide +kernel) q
theorem e272_187 : rf d 272 187 [l0, l1, some (.int x), l3] s h = rf d 272 188 [l0, l1, some (.int x), l3] (.int x :: s) h := rf_pure (i := .iload_n 2) (len := 1) (okD_ok (by decide +kernel)) rfl
theorem e272_188 (hcat : ip_cat s ≤ 8) : rf (d + 1) 272 188 ls (.int x1 :: .int x0 :: s) h = rf_k (d + 1) 272 188 ls s (cf d 186 [.int x0, .int x1] h) := g_cs (idx := 234) [.int x1, .int x0] (by decide +kernel) ow272 ms_8_234 mt_8_234 (by decide) rfl mL186 rfl hcat
theorem e272_191 : rf d 272 191 ls (.int x :: s) h = if x = 0 then rf d 272 203 ls s h else rf d 272 194 ls s h := g_if (c := .eq) (off := 12) _ (by decide +kernel) rfl cmp_d
theorem e272_194 : rf d 272 194 [some (.ref a), l1, l2, l3] s h = rf d 272 195 [some (.ref a), l1, l2, l3] (.ref a :: s) h := rf_pure (i := .aload_n 0) (len := 1) (okD_ok (by decide +kernel)) rfl
theorem e272_195 : rf d 272 195 ls s h = rf d 272 197 ls (.int 63 :: s) h := rf_pure (i := .bipush (63)) (len := 2) (okD_ok (by decide +kernel)) rfl
theorem e272_197 (hcat : ip_cat s ≤ 8) : rf (d + 1) 272 197 ls (.int x0 :: .ref 265 :: s) (SH n, I, L, R, nc, ns, nx) = rf_k (d + 1) 272 197 ls s (cf d 274 [.ref 265, .int x0] (SH n, I, L, R, nc, ns, nx)) := g_cv (idx := 447) (t := 8) [.int x0] (by decide +kernel) ow272 ms_8_447 mt_8_447 cy274_8 rfl rfl mL274 rfl rfl (by decide) hcat
theorem e272_200 : rf d 272 200 ls s h = rf d 272 233 ls s h := rf_goto ⟨okD_ok (i := .goto (33)) (len := 3) (by decide +kernel), rfl⟩
theorem e272_203 : rf d 272 203 [some (.ref a), l1, l2, l3] s h = rf d 272 204 [some (.ref a), l1, l2, l3] (.ref a :: s) h := rf_pure (i := .aload_n 0) (len := 1) (okD_ok (by decide +kernel)) rfl
theorem e272_204 : rf d 272 204 ls s h = rf d 272 206 ls (.int 61 :: s) h := rf_pure (i := .bipush (61)) (len := 2) (okD_ok (by decide +kernel)) rfl
theorem e272_206 (hcat : ip_cat s ≤ 8) : rf (d + 1) 272 206 ls (.int x0 :: .ref 265 :: s) (SH n, I, L, R, nc, ns, nx) = rf_k (d + 1) 272 206 ls s (cf d 274 [.ref 265, .int x0] (SH n, I, L, R, nc, ns, nx)) := g_cv (idx := 447) (t := 8) [.int x0] (by decide +kernel) ow272 ms_8_447 mt_8_447 cy274_8 rfl rfl mL274 rfl rfl (by decide) hcat
theorem e272_209 : rf d 272 209 [some (.ref a), l1, l2, l3] s h = rf d 272 210 [some (.ref a), l1, l2, l3] (.ref a :: s) h := rf_pure (i := .aload_n 0) (len := 1) (okD_ok (by decide +kernel)) rfl
theorem e272_210 : rf d 272 210 [some (.ref a), l1, l2, l3] s h = rf d 272 211 [some (.ref a), l1, l2, l3] (.ref a :: s) h := rf_pure (i := .aload_n 0) (len := 1) (okD_ok (by decide +kernel)) rfl
theorem e272_211 (hR : LYR R) : rf d 272 211 ls (.ref 265 :: s) (SH n, I, L, R, nc, ns, nx) = rf d 272 214 ls (.ref 296 :: s) (SH n, I, L, R, nc, ns, nx) := g_R (idx := 106) (by decide +kernel) ow272 f_8_106 rfl rfl (by decide) (ly_265_46 hR)
theorem e272_214 : rf d 272 214 [l0, some (.int x), l2, l3] s h = rf d 272 215 [l0, some (.int x), l2, l3] (.int x :: s) h := rf_pure (i := .iload_n 1) (len := 1) (okD_ok (by decide +kernel)) rfl
theorem e272_215 (q : ia n a j) : rf d 272 215 ls (.int j :: .ref a :: s) (SH n, I, L, R, nc, ns, nx) = rf d 272 216 ls (.int (I a j.toNatClampNeg) :: s) (SH n, I, L, R, nc, ns, nx) := g_ial (by decide +kernel) q
theorem e272_216 : rf d 272 216 [l0, l1, some (.int x), l3] s h = rf d 272 217 [l0, l1, some (.int x), l3] (.int x :: s) h := rf_pure (i := .iload_n 2) (len := 1) (okD_ok (by decide +kernel)) rfl
theorem e272_217 (hcat : ip_cat s ≤ 8) : rf (d + 1) 272 217 ls (.int x1 :: .int x0 :: s) h = rf_k (d + 1) 272 217 ls s (cf d 186 [.int x0, .int x1] h) := g_cs (idx := 234) [.int x1, .int x0] (by decide +kernel) ow272 ms_8_234 mt_8_234 (by decide) rfl mL186 rfl hcat
theorem e272_220 : rf d 272 220 ls (.int x :: s) h = if x = 0 then rf d 272 228 ls s h else rf d 272 223 ls s h := g_if (c := .eq) (off := 8) _ (by decide +kernel) rfl cmp_d
theorem e272_223 : rf d 272 223 ls s h = rf d 272 225 ls (.int 48 :: s) h := rf_pure (i := .bipush (48)) (len := 2) (okD_ok (by decide +kernel)) rfl
theorem e272_225 : rf d 272 225 ls s h = rf d 272 230 ls s h := rf_goto ⟨okD_ok (i := .goto (5)) (len := 3) (by decide +kernel), rfl⟩
theorem e272_228 : rf d 272 228 ls s h = rf d 272 230 ls (.int 49 :: s) h := rf_pure (i := .bipush (49)) (len := 2) (okD_ok (by decide +kernel)) rfl
theorem e272_230 (hcat : ip_cat s ≤ 8) : rf (d + 1) 272 230 ls (.int x0 :: .ref 265 :: s) (SH n, I, L, R, nc, ns, nx) = rf_k (d + 1) 272 230 ls s (cf d 274 [.ref 265, .int x0] (SH n, I, L, R, nc, ns, nx)) := g_cv (idx := 447) (t := 8) [.int x0] (by decide +kernel) ow272 ms_8_447 mt_8_447 cy274_8 rfl rfl mL274 rfl rfl (by decide) hcat
theorem e272_233 : rf d 272 233 [some (.ref a), l1, l2, l3] s h = rf d 272 234 [some (.ref a), l1, l2, l3] (.ref a :: s) h := rf_pure (i := .aload_n 0) (len := 1) (okD_ok (by decide +kernel)) rfl
theorem e272_234 (hR : LYR R) : rf d 272 234 ls (.ref 265 :: s) (SH n, I, L, R, nc, ns, nx) = rf d 272 237 ls (.ref 294 :: s) (SH n, I, L, R, nc, ns, nx) := g_R (idx := 100) (by decide +kernel) ow272 f_8_100 rfl rfl (by decide) (ly_265_44 hR)
theorem e272_237 : rf d 272 237 [l0, some (.int x), l2, l3] s h = rf d 272 238 [l0, some (.int x), l2, l3] (.int x :: s) h := rf_pure (i := .iload_n 1) (len := 1) (okD_ok (by decide +kernel)) rfl
theorem e272_238 (q : ia n a j) : rf d 272 238 ls (.int j :: .ref a :: s) (SH n, I, L, R, nc, ns, nx) = rf d 272 239 ls (.int (I a j.toNatClampNeg) :: s) (SH n, I, L, R, nc, ns, nx) := g_ial (by decide +kernel) q
theorem e272_239 : rf d 272 239 [l0, l1, some (.int x), l3] s h = rf d 272 240 [l0, l1, some (.int x), l3] (.int x :: s) h := rf_pure (i := .iload_n 2) (len := 1) (okD_ok (by decide +kernel)) rfl
theorem e272_240 (hcat : ip_cat s ≤ 8) : rf (d + 1) 272 240 ls (.int x1 :: .int x0 :: s) h = rf_k (d + 1) 272 240 ls s (cf d 186 [.int x0, .int x1] h) := g_cs (idx := 234) [.int x1, .int x0] (by decide +kernel) ow272 ms_8_234 mt_8_234 (by decide) rfl mL186 rfl hcat
theorem e272_243 : rf d 272 243 ls (.int x :: s) h = if x = 0 then rf d 272 252 ls s h else rf d 272 246 ls s h := g_if (c := .eq) (off := 9) _ (by decide +kernel) rfl cmp_d
theorem e272_246 : rf d 272 246 [some (.ref a), l1, l2, l3] s h = rf d 272 247 [some (.ref a), l1, l2, l3] (.ref a :: s) h := rf_pure (i := .aload_n 0) (len := 1) (okD_ok (by decide +kernel)) rfl
theorem e272_247 : rf d 272 247 ls s h = rf d 272 249 ls (.int 33 :: s) h := rf_pure (i := .bipush (33)) (len := 2) (okD_ok (by decide +kernel)) rfl
theorem e272_249 (hcat : ip_cat s ≤ 8) : rf (d + 1) 272 249 ls (.int x0 :: .ref 265 :: s) (SH n, I, L, R, nc, ns, nx) = rf_k (d + 1) 272 249 ls s (cf d 274 [.ref 265, .int x0] (SH n, I, L, R, nc, ns, nx)) := g_cv (idx := 447) (t := 8) [.int x0] (by decide +kernel) ow272 ms_8_447 mt_8_447 cy274_8 rfl rfl mL274 rfl rfl (by decide) hcat
theorem e272_252 (hn : ip_nl l1 = true) : rf d 272 252 [l0, l1, some (.int x), l3] s h = rf d 272 255 [l0, l1, some (.int (x + 1)), l3] s h := g_inc (q := 1) (z := 1) (w := 1) (x := x) (by decide) (by decide +kernel) rfl rfl hn
theorem e272_255 : rf d 272 255 ls s h = rf d 272 132 ls s h := rf_goto ⟨okD_ok (i := .goto (-123)) (len := 3) (by decide +kernel), rfl⟩
theorem e272_258 : rf d 272 258 [some (.ref a), l1, l2, l3] s h = rf d 272 259 [some (.ref a), l1, l2, l3] (.ref a :: s) h := rf_pure (i := .aload_n 0) (len := 1) (okD_ok (by decide +kernel)) rfl
theorem e272_259 : rf d 272 259 ls (.ref 265 :: s) (SH n, I, L, R, nc, ns, nx) = rf d 272 262 ls (.int (I 265 70) :: s) (SH n, I, L, R, nc, ns, nx) := g_I (idx := 444) (by decide +kernel) ow272 f_8_444 rfl rfl (by decide)
theorem e272_262 : rf d 272 262 ls [.int x] h = some (.inl (some (.int x)), h) := g_ri (by decide +kernel) rt272
theorem en273 : cf d 273 [.ref a, .ref a0] h = rf d 273 0 [some (.ref a), some (.ref a0), none] [] h := rfl
theorem e273_0 : rf d 273 0 ls s h = rf d 273 1 ls (.int 0 :: s) h := rf_pure (i := .iconst (0)) (len := 1) (okD_ok (by decide +kernel)) rfl
theorem e273_1 (hn : ip_nl l1 = true) : rf d 273 1 [l0, l1, l2] (.int x :: s) h = rf d 273 2 [l0, l1, some (.int x)] s h := g_sti (i := .istore_n 2) (len := 1) (q := 1) (p := 1) (by decide +kernel) rfl rfl hn
theorem e273_2 : rf d 273 2 [l0, l1, some (.int x)] s h = rf d 273 3 [l0, l1, some (.int x)] (.int x :: s) h := rf_pure (i := .iload_n 2) (len := 1) (okD_ok (by decide +kernel)) rfl
theorem e273_3 : rf d 273 3 [l0, some (.ref a), l2] s h = rf d 273 4 [l0, some (.ref a), l2] (.ref a :: s) h := rf_pure (i := .aload_n 1) (len := 1) (okD_ok (by decide +kernel)) rfl
theorem e273_4 (ht : t < 39) (hcat : ip_cat s ≤ 8) : rf d 273 4 ls (.ref (tx t) :: s) h = rf d 273 7 ls (.int (Int32.ofNat (ip_tb.getD t []).length) :: s) h := g_sl (idx := 161) (by decide +kernel) ow273 (by decide +kernel) ht hcat
theorem e273_7 : rf d 273 7 ls (.int y :: .int x :: s) h = if y ≤ x then rf d 273 25 ls s h else rf d 273 10 ls s h := g_ic (c := .ge) (off := 18) _ (by decide +kernel) rfl cmp_d
theorem e273_10 : rf d 273 10 [some (.ref a), l1, l2] s h = rf d 273 11 [some (.ref a), l1, l2] (.ref a :: s) h := rf_pure (i := .aload_n 0) (len := 1) (okD_ok (by decide +kernel)) rfl
theorem e273_11 : rf d 273 11 [l0, some (.ref a), l2] s h = rf d 273 12 [l0, some (.ref a), l2] (.ref a :: s) h := rf_pure (i := .aload_n 1) (len := 1) (okD_ok (by decide +kernel)) rfl
theorem e273_12 : rf d 273 12 [l0, l1, some (.int x)] s h = rf d 273 13 [l0, l1, some (.int x)] (.int x :: s) h := rf_pure (i := .iload_n 2) (len := 1) (okD_ok (by decide +kernel)) rfl
theorem e273_13 (ht : t < 39) (hcat : ip_cat s ≤ 8) (hj : inb j (ip_tb.getD t []).length) : rf d 273 13 ls (.int j :: .ref (tx t) :: s) h = rf d 273 16 ls (.int (Int32.ofNat ((ip_tb.getD t []).getD j.toNatClampNeg 0)) :: s) h := g_sc (idx := 166) (by decide +kernel) ow273 (by decide +kernel) ht hcat hj
theorem e273_16 (hcat : ip_cat s ≤ 8) : rf (d + 1) 273 16 ls (.int x0 :: .ref 265 :: s) (SH n, I, L, R, nc, ns, nx) = rf_k (d + 1) 273 16 ls s (cf d 274 [.ref 265, .int x0] (SH n, I, L, R, nc, ns, nx)) := g_cv (idx := 447) (t := 8) [.int x0] (by decide +kernel) ow273 ms_8_447 mt_8_447 cy274_8 rfl rfl mL274 rfl rfl (by decide) hcat
theorem e273_19 (hn : ip_nl l1 = true) : rf d 273 19 [l0, l1, some (.int x)] s h = rf d 273 22 [l0, l1, some (.int (x + 1))] s h := g_inc (q := 1) (z := 1) (w := 1) (x := x) (by decide) (by decide +kernel) rfl rfl hn
theorem e273_22 : rf d 273 22 ls s h = rf d 273 2 ls s h := rf_goto ⟨okD_ok (i := .goto (-20)) (len := 3) (by decide +kernel), rfl⟩
theorem e273_25 : rf d 273 25 ls [] h = some (.inl none, h) := g_rv (by decide +kernel) rt273
theorem en274 : cf d 274 [.ref a, .int x0] h = rf d 274 0 [some (.ref a), some (.int x0)] [] h := rfl
theorem e274_0 : rf d 274 0 [some (.ref a), l1] s h = rf d 274 1 [some (.ref a), l1] (.ref a :: s) h := rf_pure (i := .aload_n 0) (len := 1) (okD_ok (by decide +kernel)) rfl
theorem e274_1 (hR : LYR R) : rf d 274 1 ls (.ref 265 :: s) (SH n, I, L, R, nc, ns, nx) = rf d 274 4 ls (.ref 306 :: s) (SH n, I, L, R, nc, ns, nx) := g_R (idx := 136) (by decide +kernel) ow274 f_8_136 rfl rfl (by decide) (ly_265_69 hR)
theorem e274_4 : rf d 274 4 [some (.ref a), l1] s h = rf d 274 5 [some (.ref a), l1] (.ref a :: s) h := rf_pure (i := .aload_n 0) (len := 1) (okD_ok (by decide +kernel)) rfl
theorem e274_5 : rf d 274 5 ls (.ref 265 :: s) (SH n, I, L, R, nc, ns, nx) = rf d 274 8 ls (.int (I 265 70) :: s) (SH n, I, L, R, nc, ns, nx) := g_I (idx := 444) (by decide +kernel) ow274 f_8_444 rfl rfl (by decide)
theorem e274_8 : rf d 274 8 [l0, some (.int x)] s h = rf d 274 9 [l0, some (.int x)] (.int x :: s) h := rf_pure (i := .iload_n 1) (len := 1) (okD_ok (by decide +kernel)) rfl
theorem e274_9 (q : ia n a j) : rf d 274 9 ls (.int x :: .int j :: .ref a :: s) (SH n, I, L, R, nc, ns, nx) = rf d 274 10 ls s (SH n, ip_up I a j.toNatClampNeg x, L, R, nc, ns, nx) := g_ias (by decide +kernel) q
theorem e274_10 : rf d 274 10 [some (.ref a), l1] s h = rf d 274 11 [some (.ref a), l1] (.ref a :: s) h := rf_pure (i := .aload_n 0) (len := 1) (okD_ok (by decide +kernel)) rfl
theorem e274_11 : rf d 274 11 ls (.int x :: s) h = rf d 274 12 ls (.int x :: .int x :: s) h := rf_pure (i := .dup) (len := 1) (okD_ok (by decide +kernel)) rfl
theorem e274_11r : rf d 274 11 ls (.ref a :: s) h = rf d 274 12 ls (.ref a :: .ref a :: s) h := rf_pure (i := .dup) (len := 1) (okD_ok (by decide +kernel)) rfl
theorem e274_12 : rf d 274 12 ls (.ref 265 :: s) (SH n, I, L, R, nc, ns, nx) = rf d 274 15 ls (.int (I 265 70) :: s) (SH n, I, L, R, nc, ns, nx) := g_I (idx := 444) (by decide +kernel) ow274 f_8_444 rfl rfl (by decide)
theorem e274_15 : rf d 274 15 ls s h = rf d 274 16 ls (.int 1 :: s) h := rf_pure (i := .iconst (1)) (len := 1) (okD_ok (by decide +kernel)) rfl
theorem e274_16 : rf d 274 16 ls (.int y :: .int x :: s) h = rf d 274 17 ls (.int (x + y) :: s) h := rf_pure (i := .iadd) (len := 1) (okD_ok (by decide +kernel)) rfl
theorem e274_17 : rf d 274 17 ls (.int x :: .ref 265 :: s) (SH n, I, L, R, nc, ns, nx) = rf d 274 20 ls s (SH n, ip_up I 265 70 x, L, R, nc, ns, nx) := g_pI (idx := 444) (by decide +kernel) ow274 f_8_444 rfl (by decide +kernel) rfl (by decide)
theorem e274_20 : rf d 274 20 ls [] h = some (.inl none, h) := g_rv (by decide +kernel) rt274
theorem en275 : cf d 275 [.ref a, .int x0] h = rf d 275 0 [some (.ref a), some (.int x0)] [] h := rfl
theorem e275_0 : rf d 275 0 [some (.ref a), l1] s h = rf d 275 1 [some (.ref a), l1] (.ref a :: s) h := rf_pure (i := .aload_n 0) (len := 1) (okD_ok (by decide +kernel)) rfl
theorem e275_1 : rf d 275 1 ls s h = rf d 275 2 ls (.int 0 :: s) h := rf_pure (i := .iconst (0)) (len := 1) (okD_ok (by decide +kernel)) rfl
theorem e275_2 : rf d 275 2 ls (.int x :: .ref 265 :: s) (SH n, I, L, R, nc, ns, nx) = rf d 275 5 ls s (SH n, ip_up I 265 0 x, L, R, nc, ns, nx) := g_pI (idx := 142) (by decide +kernel) ow275 f_8_142 rfl (by decide +kernel) rfl (by decide)
theorem e275_5 : rf d 275 5 [l0, some (.int x)] s h = rf d 275 6 [l0, some (.int x)] (.int x :: s) h := rf_pure (i := .iload_n 1) (len := 1) (okD_ok (by decide +kernel)) rfl
theorem e275_6 : rf d 275 6 ls s h = rf d 275 7 ls (.int 0 :: s) h := rf_pure (i := .iconst (0)) (len := 1) (okD_ok (by decide +kernel)) rfl
theorem e275_7 : rf d 275 7 [some (.ref a), l1] s h = rf d 275 8 [some (.ref a), l1] (.ref a :: s) h := rf_pure (i := .aload_n 0) (len := 1) (okD_ok (by decide +kernel)) rfl
theorem e275_8 : rf d 275 8 ls (.ref 265 :: s) (SH n, I, L, R, nc, ns, nx) = rf d 275 11 ls (.int (I 265 70) :: s) (SH n, I, L, R, nc, ns, nx) := g_I (idx := 444) (by decide +kernel) ow275 f_8_444 rfl rfl (by decide)
theorem e275_11 : rf d 275 11 ls s h = rf d 275 12 ls (.int 1 :: s) h := rf_pure (i := .iconst (1)) (len := 1) (okD_ok (by decide +kernel)) rfl
theorem e275_12 : rf d 275 12 ls (.int y :: .int x :: s) h = rf d 275 13 ls (.int (x - y) :: s) h := rf_pure (i := .isub) (len := 1) (okD_ok (by decide +kernel)) rfl
theorem e275_13 (hcat : ip_cat s ≤ 8) : rf (d + 1) 275 13 ls (.int x2 :: .int x1 :: .int x0 :: s) h = rf_k (d + 1) 275 13 ls s (cf d 217 [.int x0, .int x1, .int x2] h) := g_cs (idx := 315) [.int x2, .int x1, .int x0] (by decide +kernel) ow275 ms_8_315 mt_8_315 (by decide) rfl mL217 rfl hcat
theorem e275_16 : rf d 275 16 ls (.int x :: s) h = if x = 0 then rf d 275 28 ls s h else rf d 275 19 ls s h := g_if (c := .eq) (off := 12) _ (by decide +kernel) rfl cmp_d
theorem e275_19 : rf d 275 19 [some (.ref a), l1] s h = rf d 275 20 [some (.ref a), l1] (.ref a :: s) h := rf_pure (i := .aload_n 0) (len := 1) (okD_ok (by decide +kernel)) rfl
theorem e275_20 (hR : LYR R) : rf d 275 20 ls (.ref 265 :: s) (SH n, I, L, R, nc, ns, nx) = rf d 275 23 ls (.ref 306 :: s) (SH n, I, L, R, nc, ns, nx) := g_R (idx := 136) (by decide +kernel) ow275 f_8_136 rfl rfl (by decide) (ly_265_69 hR)
theorem e275_23 : rf d 275 23 [l0, some (.int x)] s h = rf d 275 24 [l0, some (.int x)] (.int x :: s) h := rf_pure (i := .iload_n 1) (len := 1) (okD_ok (by decide +kernel)) rfl
theorem e275_24 (q : ia n a j) : rf d 275 24 ls (.int j :: .ref a :: s) (SH n, I, L, R, nc, ns, nx) = rf d 275 25 ls (.int (I a j.toNatClampNeg) :: s) (SH n, I, L, R, nc, ns, nx) := g_ial (by decide +kernel) q
theorem e275_25 : rf d 275 25 ls s h = rf d 275 29 ls s h := rf_goto ⟨okD_ok (i := .goto (4)) (len := 3) (by decide +kernel), rfl⟩
theorem e275_28 : rf d 275 28 ls s h = rf d 275 29 ls (.int (-1) :: s) h := rf_pure (i := .iconst (-1)) (len := 1) (okD_ok (by decide +kernel)) rfl
theorem e275_29 : rf d 275 29 ls [.int x] h = some (.inl (some (.int x)), h) := g_ri (by decide +kernel) rt275
theorem en276 : cf d 276 [.ref a, .int x0, .int x1, .int x2] h = rf d 276 0 [some (.ref a), some (.int x0), some (.int x1), some (.int x2), none, none, none] [] h := rfl
theorem e276_0 : rf d 276 0 [some (.ref a), l1, l2, l3, l4, l5, l6] s h = rf d 276 1 [some (.ref a), l1, l2, l3, l4, l5, l6] (.ref a :: s) h := rf_pure (i := .aload_n 0) (len := 1) (okD_ok (by decide +kernel)) rfl
theorem e276_1 : rf d 276 1 [some (.ref a), l1, l2, l3, l4, l5, l6] s h = rf d 276 2 [some (.ref a), l1, l2, l3, l4, l5, l6] (.ref a :: s) h := rf_pure (i := .aload_n 0) (len := 1) (okD_ok (by decide +kernel)) rfl
theorem e276_2 : rf d 276 2 [l0, some (.int x), l2, l3, l4, l5, l6] s h = rf d 276 3 [l0, some (.int x), l2, l3, l4, l5, l6] (.int x :: s) h := rf_pure (i := .iload_n 1) (len := 1) (okD_ok (by decide +kernel)) rfl
theorem e276_3 (hcat : ip_cat s ≤ 8) : rf (d + 1) 276 3 ls (.int x0 :: .ref 265 :: s) (SH n, I, L, R, nc, ns, nx) = rf_k (d + 1) 276 3 ls s (cf d 244 [.ref 265, .int x0] (SH n, I, L, R, nc, ns, nx)) := g_cv (idx := 401) (t := 8) [.int x0] (by decide +kernel) ow276 ms_8_401 mt_8_401 cy244_8 rfl rfl mL244 rfl rfl (by decide) hcat
theorem e276_6 : rf d 276 6 ls (.int x :: s) h = if ¬ x = 0 then rf d 276 13 ls s h else rf d 276 9 ls s h := g_if (c := .ne) (off := 7) _ (by decide +kernel) rfl cmp_d
theorem e276_9 : rf d 276 9 ls s h = rf d 276 10 ls (.int 1 :: s) h := rf_pure (i := .iconst (1)) (len := 1) (okD_ok (by decide +kernel)) rfl
theorem e276_10 : rf d 276 10 ls s h = rf d 276 36 ls s h := rf_goto ⟨okD_ok (i := .goto (26)) (len := 3) (by decide +kernel), rfl⟩
theorem e276_13 : rf d 276 13 [l0, l1, some (.int x), l3, l4, l5, l6] s h = rf d 276 14 [l0, l1, some (.int x), l3, l4, l5, l6] (.int x :: s) h := rf_pure (i := .iload_n 2) (len := 1) (okD_ok (by decide +kernel)) rfl
theorem e276_14 : rf d 276 14 ls s h = rf d 276 15 ls (.int (-1) :: s) h := rf_pure (i := .iconst (-1)) (len := 1) (okD_ok (by decide +kernel)) rfl
theorem e276_15 : rf d 276 15 ls s h = rf d 276 16 ls (.int 1 :: s) h := rf_pure (i := .iconst (1)) (len := 1) (okD_ok (by decide +kernel)) rfl
theorem e276_16 (hcat : ip_cat s ≤ 8) : rf (d + 1) 276 16 ls (.int x2 :: .int x1 :: .int x0 :: s) h = rf_k (d + 1) 276 16 ls s (cf d 217 [.int x0, .int x1, .int x2] h) := g_cs (idx := 315) [.int x2, .int x1, .int x0] (by decide +kernel) ow276 ms_8_315 mt_8_315 (by decide) rfl mL217 rfl hcat
theorem e276_19 : rf d 276 19 ls (.int x :: s) h = if x = 0 then rf d 276 31 ls s h else rf d 276 22 ls s h := g_if (c := .eq) (off := 12) _ (by decide +kernel) rfl cmp_d
theorem e276_22 : rf d 276 22 [l0, l1, l2, some (.int x), l4, l5, l6] s h = rf d 276 23 [l0, l1, l2, some (.int x), l4, l5, l6] (.int x :: s) h := rf_pure (i := .iload_n 3) (len := 1) (okD_ok (by decide +kernel)) rfl
theorem e276_23 : rf d 276 23 ls s h = rf d 276 24 ls (.int (-1) :: s) h := rf_pure (i := .iconst (-1)) (len := 1) (okD_ok (by decide +kernel)) rfl
theorem e276_24 : rf d 276 24 ls s h = rf d 276 25 ls (.int 2 :: s) h := rf_pure (i := .iconst (2)) (len := 1) (okD_ok (by decide +kernel)) rfl
theorem e276_25 (hcat : ip_cat s ≤ 8) : rf (d + 1) 276 25 ls (.int x2 :: .int x1 :: .int x0 :: s) h = rf_k (d + 1) 276 25 ls s (cf d 217 [.int x0, .int x1, .int x2] h) := g_cs (idx := 315) [.int x2, .int x1, .int x0] (by decide +kernel) ow276 ms_8_315 mt_8_315 (by decide) rfl mL217 rfl hcat
theorem e276_28 : rf d 276 28 ls (.int x :: s) h = if ¬ x = 0 then rf d 276 35 ls s h else rf d 276 31 ls s h := g_if (c := .ne) (off := 7) _ (by decide +kernel) rfl cmp_d
theorem e276_31 : rf d 276 31 ls s h = rf d 276 32 ls (.int 2 :: s) h := rf_pure (i := .iconst (2)) (len := 1) (okD_ok (by decide +kernel)) rfl
theorem e276_32 : rf d 276 32 ls s h = rf d 276 36 ls s h := rf_goto ⟨okD_ok (i := .goto (4)) (len := 3) (by decide +kernel), rfl⟩
theorem e276_35 : rf d 276 35 ls s h = rf d 276 36 ls (.int 0 :: s) h := rf_pure (i := .iconst (0)) (len := 1) (okD_ok (by decide +kernel)) rfl
theorem e276_36 : rf d 276 36 ls (.int x :: .ref 265 :: s) (SH n, I, L, R, nc, ns, nx) = rf d 276 39 ls s (SH n, ip_up I 265 0 x, L, R, nc, ns, nx) := g_pI (idx := 142) (by decide +kernel) ow276 f_8_142 rfl (by decide +kernel) rfl (by decide)
theorem e276_39 : rf d 276 39 [some (.ref a), l1, l2, l3, l4, l5, l6] s h = rf d 276 40 [some (.ref a), l1, l2, l3, l4, l5, l6] (.ref a :: s) h := rf_pure (i := .aload_n 0) (len := 1) (okD_ok (by decide +kernel)) rfl
theorem e276_40 : rf d 276 40 ls (.ref 265 :: s) (SH n, I, L, R, nc, ns, nx) = rf d 276 43 ls (.int (I 265 0) :: s) (SH n, I, L, R, nc, ns, nx) := g_I (idx := 142) (by decide +kernel) ow276 f_8_142 rfl rfl (by decide)
theorem e276_43 : rf d 276 43 ls (.int x :: s) h = if x ≤ 0 then rf d 276 48 ls s h else rf d 276 46 ls s h := g_if (c := .le) (off := 5) _ (by decide +kernel) rfl cmp_d
theorem e276_46 : rf d 276 46 ls s h = rf d 276 47 ls (.int 0 :: s) h := rf_pure (i := .iconst (0)) (len := 1) (okD_ok (by decide +kernel)) rfl
theorem e276_47 : rf d 276 47 ls [.int x] h = some (.inl (some (.int x)), h) := g_ri (by decide +kernel) rt276
theorem e276_48 : rf d 276 48 ls s h = rf d 276 49 ls (.int 0 :: s) h := rf_pure (i := .iconst (0)) (len := 1) (okD_ok (by decide +kernel)) rfl
theorem e276_49 (hn : ip_nl l3 = true) : rf d 276 49 [l0, l1, l2, l3, l4, l5, l6] (.int x :: s) h = rf d 276 51 [l0, l1, l2, l3, some (.int x), l5, l6] s h := g_sti (i := .istore 4) (len := 2) (q := 3) (p := 2) (by decide +kernel) rfl rfl hn
theorem e276_51 : rf d 276 51 ls s h = rf d 276 52 ls (.int 0 :: s) h := rf_pure (i := .iconst (0)) (len := 1) (okD_ok (by decide +kernel)) rfl
theorem e276_52 (hn : ip_nl l4 = true) : rf d 276 52 [l0, l1, l2, l3, l4, l5, l6] (.int x :: s) h = rf d 276 54 [l0, l1, l2, l3, l4, some (.int x), l6] s h := g_sti (i := .istore 5) (len := 2) (q := 4) (p := 2) (by decide +kernel) rfl rfl hn
theorem e276_54 : rf d 276 54 [l0, l1, l2, l3, l4, some (.int x), l6] s h = rf d 276 56 [l0, l1, l2, l3, l4, some (.int x), l6] (.int x :: s) h := rf_pure (i := .iload 5) (len := 2) (okD_ok (by decide +kernel)) rfl
theorem e276_56 : rf d 276 56 [some (.ref a), l1, l2, l3, l4, l5, l6] s h = rf d 276 57 [some (.ref a), l1, l2, l3, l4, l5, l6] (.ref a :: s) h := rf_pure (i := .aload_n 0) (len := 1) (okD_ok (by decide +kernel)) rfl
theorem e276_57 : rf d 276 57 ls (.ref 265 :: s) (SH n, I, L, R, nc, ns, nx) = rf d 276 60 ls (.int (I 265 17) :: s) (SH n, I, L, R, nc, ns, nx) := g_I (idx := 291) (by decide +kernel) ow276 f_8_291 rfl rfl (by decide)
theorem e276_60 : rf d 276 60 ls (.int y :: .int x :: s) h = if y ≤ x then rf d 276 140 ls s h else rf d 276 63 ls s h := g_ic (c := .ge) (off := 80) _ (by decide +kernel) rfl cmp_d
theorem e276_63 : rf d 276 63 [some (.ref a), l1, l2, l3, l4, l5, l6] s h = rf d 276 64 [some (.ref a), l1, l2, l3, l4, l5, l6] (.ref a :: s) h := rf_pure (i := .aload_n 0) (len := 1) (okD_ok (by decide +kernel)) rfl
theorem e276_64 (hR : LYR R) : rf d 276 64 ls (.ref 265 :: s) (SH n, I, L, R, nc, ns, nx) = rf d 276 67 ls (.ref 293 :: s) (SH n, I, L, R, nc, ns, nx) := g_R (idx := 97) (by decide +kernel) ow276 f_8_97 rfl rfl (by decide) (ly_265_43 hR)
theorem e276_67 : rf d 276 67 [l0, some (.int x), l2, l3, l4, l5, l6] s h = rf d 276 68 [l0, some (.int x), l2, l3, l4, l5, l6] (.int x :: s) h := rf_pure (i := .iload_n 1) (len := 1) (okD_ok (by decide +kernel)) rfl
theorem e276_68 (q : ia n a j) : rf d 276 68 ls (.int j :: .ref a :: s) (SH n, I, L, R, nc, ns, nx) = rf d 276 69 ls (.int (I a j.toNatClampNeg) :: s) (SH n, I, L, R, nc, ns, nx) := g_ial (by decide +kernel) q
theorem e276_69 : rf d 276 69 [l0, l1, l2, l3, l4, some (.int x), l6] s h = rf d 276 71 [l0, l1, l2, l3, l4, some (.int x), l6] (.int x :: s) h := rf_pure (i := .iload 5) (len := 2) (okD_ok (by decide +kernel)) rfl
theorem e276_71 (hcat : ip_cat s ≤ 8) : rf (d + 1) 276 71 ls (.int x1 :: .int x0 :: s) h = rf_k (d + 1) 276 71 ls s (cf d 186 [.int x0, .int x1] h) := g_cs (idx := 234) [.int x1, .int x0] (by decide +kernel) ow276 ms_8_234 mt_8_234 (by decide) rfl mL186 rfl hcat
theorem e276_74 : rf d 276 74 ls (.int x :: s) h = if x = 0 then rf d 276 81 ls s h else rf d 276 77 ls s h := g_if (c := .eq) (off := 7) _ (by decide +kernel) rfl cmp_d
theorem e276_77 : rf d 276 77 ls s h = rf d 276 78 ls (.int (-1) :: s) h := rf_pure (i := .iconst (-1)) (len := 1) (okD_ok (by decide +kernel)) rfl
theorem e276_78 : rf d 276 78 ls s h = rf d 276 100 ls s h := rf_goto ⟨okD_ok (i := .goto (22)) (len := 3) (by decide +kernel), rfl⟩
theorem e276_81 : rf d 276 81 [some (.ref a), l1, l2, l3, l4, l5, l6] s h = rf d 276 82 [some (.ref a), l1, l2, l3, l4, l5, l6] (.ref a :: s) h := rf_pure (i := .aload_n 0) (len := 1) (okD_ok (by decide +kernel)) rfl
theorem e276_82 (hR : LYR R) : rf d 276 82 ls (.ref 265 :: s) (SH n, I, L, R, nc, ns, nx) = rf d 276 85 ls (.ref 296 :: s) (SH n, I, L, R, nc, ns, nx) := g_R (idx := 106) (by decide +kernel) ow276 f_8_106 rfl rfl (by decide) (ly_265_46 hR)
theorem e276_85 : rf d 276 85 [l0, some (.int x), l2, l3, l4, l5, l6] s h = rf d 276 86 [l0, some (.int x), l2, l3, l4, l5, l6] (.int x :: s) h := rf_pure (i := .iload_n 1) (len := 1) (okD_ok (by decide +kernel)) rfl
theorem e276_86 (q : ia n a j) : rf d 276 86 ls (.int j :: .ref a :: s) (SH n, I, L, R, nc, ns, nx) = rf d 276 87 ls (.int (I a j.toNatClampNeg) :: s) (SH n, I, L, R, nc, ns, nx) := g_ial (by decide +kernel) q
theorem e276_87 : rf d 276 87 [l0, l1, l2, l3, l4, some (.int x), l6] s h = rf d 276 89 [l0, l1, l2, l3, l4, some (.int x), l6] (.int x :: s) h := rf_pure (i := .iload 5) (len := 2) (okD_ok (by decide +kernel)) rfl
theorem e276_89 (hcat : ip_cat s ≤ 8) : rf (d + 1) 276 89 ls (.int x1 :: .int x0 :: s) h = rf_k (d + 1) 276 89 ls s (cf d 186 [.int x0, .int x1] h) := g_cs (idx := 234) [.int x1, .int x0] (by decide +kernel) ow276 ms_8_234 mt_8_234 (by decide) rfl mL186 rfl hcat
theorem e276_92 : rf d 276 92 ls (.int x :: s) h = if x = 0 then rf d 276 99 ls s h else rf d 276 95 ls s h := g_if (c := .eq) (off := 7) _ (by decide +kernel) rfl cmp_d
theorem e276_95 : rf d 276 95 ls s h = rf d 276 96 ls (.int 0 :: s) h := rf_pure (i := .iconst (0)) (len := 1) (okD_ok (by decide +kernel)) rfl
theorem e276_96 : rf d 276 96 ls s h = rf d 276 100 ls s h := rf_goto ⟨okD_ok (i := .goto (4)) (len := 3) (by decide +kernel), rfl⟩
theorem e276_99 : rf d 276 99 ls s h = rf d 276 100 ls (.int 1 :: s) h := rf_pure (i := .iconst (1)) (len := 1) (okD_ok (by decide +kernel)) rfl
theorem e276_100 (hn : ip_nl l5 = true) : rf d 276 100 [l0, l1, l2, l3, l4, l5, l6] (.int x :: s) h = rf d 276 102 [l0, l1, l2, l3, l4, l5, some (.int x)] s h := g_sti (i := .istore 6) (len := 2) (q := 5) (p := 2) (by decide +kernel) rfl rfl hn
theorem e276_102 : rf d 276 102 [l0, l1, l2, l3, some (.int x), l5, l6] s h = rf d 276 104 [l0, l1, l2, l3, some (.int x), l5, l6] (.int x :: s) h := rf_pure (i := .iload 4) (len := 2) (okD_ok (by decide +kernel)) rfl
theorem e276_104 : rf d 276 104 [l0, l1, l2, l3, l4, l5, some (.int x)] s h = rf d 276 106 [l0, l1, l2, l3, l4, l5, some (.int x)] (.int x :: s) h := rf_pure (i := .iload 6) (len := 2) (okD_ok (by decide +kernel)) rfl
theorem e276_106 : rf d 276 106 [l0, l1, some (.int x), l3, l4, l5, l6] s h = rf d 276 107 [l0, l1, some (.int x), l3, l4, l5, l6] (.int x :: s) h := rf_pure (i := .iload_n 2) (len := 1) (okD_ok (by decide +kernel)) rfl
theorem e276_107 : rf d 276 107 ls (.int y :: .int x :: s) h = if ¬ x = y then rf d 276 130 ls s h else rf d 276 110 ls s h := g_ic (c := .ne) (off := 23) _ (by decide +kernel) rfl cmp_d
theorem e276_110 : rf d 276 110 [l0, l1, l2, some (.int x), l4, l5, l6] s h = rf d 276 111 [l0, l1, l2, some (.int x), l4, l5, l6] (.int x :: s) h := rf_pure (i := .iload_n 3) (len := 1) (okD_ok (by decide +kernel)) rfl
theorem e276_111 : rf d 276 111 ls s h = rf d 276 112 ls (.int (-1) :: s) h := rf_pure (i := .iconst (-1)) (len := 1) (okD_ok (by decide +kernel)) rfl
theorem e276_112 : rf d 276 112 ls (.int y :: .int x :: s) h = if x = y then rf d 276 126 ls s h else rf d 276 115 ls s h := g_ic (c := .eq) (off := 14) _ (by decide +kernel) rfl cmp_d
theorem e276_115 : rf d 276 115 [some (.ref a), l1, l2, l3, l4, l5, l6] s h = rf d 276 116 [some (.ref a), l1, l2, l3, l4, l5, l6] (.ref a :: s) h := rf_pure (i := .aload_n 0) (len := 1) (okD_ok (by decide +kernel)) rfl
theorem e276_116 (hR : LYR R) : rf d 276 116 ls (.ref 265 :: s) (SH n, I, L, R, nc, ns, nx) = rf d 276 119 ls (.ref 275 :: s) (SH n, I, L, R, nc, ns, nx) := g_R (idx := 42) (by decide +kernel) ow276 f_8_42 rfl rfl (by decide) (ly_265_21 hR)
theorem e276_119 : rf d 276 119 [l0, l1, l2, l3, l4, some (.int x), l6] s h = rf d 276 121 [l0, l1, l2, l3, l4, some (.int x), l6] (.int x :: s) h := rf_pure (i := .iload 5) (len := 2) (okD_ok (by decide +kernel)) rfl
theorem e276_121 (q : ia n a j) : rf d 276 121 ls (.int j :: .ref a :: s) (SH n, I, L, R, nc, ns, nx) = rf d 276 122 ls (.int (I a j.toNatClampNeg) :: s) (SH n, I, L, R, nc, ns, nx) := g_ial (by decide +kernel) q
theorem e276_122 : rf d 276 122 [l0, l1, l2, some (.int x), l4, l5, l6] s h = rf d 276 123 [l0, l1, l2, some (.int x), l4, l5, l6] (.int x :: s) h := rf_pure (i := .iload_n 3) (len := 1) (okD_ok (by decide +kernel)) rfl
theorem e276_123 : rf d 276 123 ls (.int y :: .int x :: s) h = if ¬ x = y then rf d 276 130 ls s h else rf d 276 126 ls s h := g_ic (c := .ne) (off := 7) _ (by decide +kernel) rfl cmp_d
theorem e276_126 : rf d 276 126 ls s h = rf d 276 127 ls (.int 1 :: s) h := rf_pure (i := .iconst (1)) (len := 1) (okD_ok (by decide +kernel)) rfl
theorem e276_127 : rf d 276 127 ls s h = rf d 276 131 ls s h := rf_goto ⟨okD_ok (i := .goto (4)) (len := 3) (by decide +kernel), rfl⟩
theorem e276_130 : rf d 276 130 ls s h = rf d 276 131 ls (.int 0 :: s) h := rf_pure (i := .iconst (0)) (len := 1) (okD_ok (by decide +kernel)) rfl
theorem e276_131 : rf d 276 131 ls (.int y :: .int x :: s) h = rf d 276 132 ls (.int (x + y) :: s) h := rf_pure (i := .iadd) (len := 1) (okD_ok (by decide +kernel)) rfl
theorem e276_132 (hn : ip_nl l3 = true) : rf d 276 132 [l0, l1, l2, l3, l4, l5, l6] (.int x :: s) h = rf d 276 134 [l0, l1, l2, l3, some (.int x), l5, l6] s h := g_sti (i := .istore 4) (len := 2) (q := 3) (p := 2) (by decide +kernel) rfl rfl hn
theorem e276_134 (hn : ip_nl l4 = true) : rf d 276 134 [l0, l1, l2, l3, l4, some (.int x), l6] s h = rf d 276 137 [l0, l1, l2, l3, l4, some (.int (x + 1)), l6] s h := g_inc (q := 4) (z := 1) (w := 1) (x := x) (by decide) (by decide +kernel) rfl rfl hn
theorem e276_137 : rf d 276 137 ls s h = rf d 276 54 ls s h := rf_goto ⟨okD_ok (i := .goto (-83)) (len := 3) (by decide +kernel), rfl⟩
theorem e276_140 : rf d 276 140 [l0, l1, l2, l3, some (.int x), l5, l6] s h = rf d 276 142 [l0, l1, l2, l3, some (.int x), l5, l6] (.int x :: s) h := rf_pure (i := .iload 4) (len := 2) (okD_ok (by decide +kernel)) rfl
theorem e276_142 : rf d 276 142 ls [.int x] h = some (.inl (some (.int x)), h) := g_ri (by decide +kernel) rt276
theorem en277 : cf d 277 [.ref a] h = rf d 277 0 [some (.ref a), none, none, none, none] [] h := rfl
theorem e277_0 : rf d 277 0 [some (.ref a), l1, l2, l3, l4] s h = rf d 277 1 [some (.ref a), l1, l2, l3, l4] (.ref a :: s) h := rf_pure (i := .aload_n 0) (len := 1) (okD_ok (by decide +kernel)) rfl
theorem e277_1 : rf d 277 1 ls s h = rf d 277 2 ls (.int 0 :: s) h := rf_pure (i := .iconst (0)) (len := 1) (okD_ok (by decide +kernel)) rfl
theorem e277_2 : rf d 277 2 ls (.int x :: .ref 265 :: s) (SH n, I, L, R, nc, ns, nx) = rf d 277 5 ls s (SH n, ip_up I 265 0 x, L, R, nc, ns, nx) := g_pI (idx := 142) (by decide +kernel) ow277 f_8_142 rfl (by decide +kernel) rfl (by decide)
theorem e277_5 : rf d 277 5 [some (.ref a), l1, l2, l3, l4] s h = rf d 277 6 [some (.ref a), l1, l2, l3, l4] (.ref a :: s) h := rf_pure (i := .aload_n 0) (len := 1) (okD_ok (by decide +kernel)) rfl
theorem e277_6 : rf d 277 6 ls s h = rf d 277 7 ls (.int 0 :: s) h := rf_pure (i := .iconst (0)) (len := 1) (okD_ok (by decide +kernel)) rfl
theorem e277_7 : rf d 277 7 ls (.int x :: .ref 265 :: s) (SH n, I, L, R, nc, ns, nx) = rf d 277 10 ls s (SH n, ip_up I 265 70 x, L, R, nc, ns, nx) := g_pI (idx := 444) (by decide +kernel) ow277 f_8_444 rfl (by decide +kernel) rfl (by decide)
theorem e277_10 : rf d 277 10 ls s h = rf d 277 11 ls (.int 0 :: s) h := rf_pure (i := .iconst (0)) (len := 1) (okD_ok (by decide +kernel)) rfl
theorem e277_11 (hn : ip_nl l0 = true) : rf d 277 11 [l0, l1, l2, l3, l4] (.int x :: s) h = rf d 277 12 [l0, some (.int x), l2, l3, l4] s h := g_sti (i := .istore_n 1) (len := 1) (q := 0) (p := 1) (by decide +kernel) rfl rfl hn
theorem e277_12 : rf d 277 12 ls s h = rf d 277 13 ls (.int 0 :: s) h := rf_pure (i := .iconst (0)) (len := 1) (okD_ok (by decide +kernel)) rfl
theorem e277_13 (hn : ip_nl l1 = true) : rf d 277 13 [l0, l1, l2, l3, l4] (.int x :: s) h = rf d 277 14 [l0, l1, some (.int x), l3, l4] s h := g_sti (i := .istore_n 2) (len := 1) (q := 1) (p := 1) (by decide +kernel) rfl rfl hn
theorem e277_14 : rf d 277 14 [some (.ref a), l1, l2, l3, l4] s h = rf d 277 15 [some (.ref a), l1, l2, l3, l4] (.ref a :: s) h := rf_pure (i := .aload_n 0) (len := 1) (okD_ok (by decide +kernel)) rfl
theorem e277_15 : rf d 277 15 ls s h = rf d 277 16 ls (.int 0 :: s) h := rf_pure (i := .iconst (0)) (len := 1) (okD_ok (by decide +kernel)) rfl
theorem e277_16 (hcat : ip_cat s ≤ 8) : rf (d + 1) 277 16 ls (.int x0 :: .ref 265 :: s) (SH n, I, L, R, nc, ns, nx) = rf_k (d + 1) 277 16 ls s (cf d 278 [.ref 265, .int x0] (SH n, I, L, R, nc, ns, nx)) := g_cv (idx := 464) (t := 8) [.int x0] (by decide +kernel) ow277 ms_8_464 mt_8_464 cy278_8 rfl rfl mL278 rfl rfl (by decide) hcat
theorem e277_19 : rf d 277 19 [l0, some (.int x), l2, l3, l4] s h = rf d 277 20 [l0, some (.int x), l2, l3, l4] (.int x :: s) h := rf_pure (i := .iload_n 1) (len := 1) (okD_ok (by decide +kernel)) rfl
theorem e277_20 : rf d 277 20 ls s h = rf d 277 21 ls (.int (-1) :: s) h := rf_pure (i := .iconst (-1)) (len := 1) (okD_ok (by decide +kernel)) rfl
theorem e277_21 : rf d 277 21 ls (.int y :: .int x :: s) h = if x = y then rf d 277 114 ls s h else rf d 277 24 ls s h := g_ic (c := .eq) (off := 93) _ (by decide +kernel) rfl cmp_d
theorem e277_24 : rf d 277 24 [some (.ref a), l1, l2, l3, l4] s h = rf d 277 25 [some (.ref a), l1, l2, l3, l4] (.ref a :: s) h := rf_pure (i := .aload_n 0) (len := 1) (okD_ok (by decide +kernel)) rfl
theorem e277_25 : rf d 277 25 [l0, some (.int x), l2, l3, l4] s h = rf d 277 26 [l0, some (.int x), l2, l3, l4] (.int x :: s) h := rf_pure (i := .iload_n 1) (len := 1) (okD_ok (by decide +kernel)) rfl
theorem e277_26 : rf d 277 26 [l0, l1, some (.int x), l3, l4] s h = rf d 277 27 [l0, l1, some (.int x), l3, l4] (.int x :: s) h := rf_pure (i := .iload_n 2) (len := 1) (okD_ok (by decide +kernel)) rfl
theorem e277_27 (hcat : ip_cat s ≤ 8) : rf (d + 1) 277 27 ls (.int x1 :: .int x0 :: .ref 265 :: s) (SH n, I, L, R, nc, ns, nx) = rf_k (d + 1) 277 27 ls s (cf d 262 [.ref 265, .int x0, .int x1] (SH n, I, L, R, nc, ns, nx)) := g_cv (idx := 438) (t := 8) [.int x1, .int x0] (by decide +kernel) ow277 ms_8_438 mt_8_438 cy262_8 rfl rfl mL262 rfl rfl (by decide) hcat
theorem e277_30 (hn : ip_nl l2 = true) : rf d 277 30 [l0, l1, l2, l3, l4] (.int x :: s) h = rf d 277 31 [l0, l1, l2, some (.int x), l4] s h := g_sti (i := .istore_n 3) (len := 1) (q := 2) (p := 1) (by decide +kernel) rfl rfl hn
theorem e277_31 : rf d 277 31 [l0, l1, l2, some (.int x), l4] s h = rf d 277 32 [l0, l1, l2, some (.int x), l4] (.int x :: s) h := rf_pure (i := .iload_n 3) (len := 1) (okD_ok (by decide +kernel)) rfl
theorem e277_32 : rf d 277 32 ls s h = rf d 277 33 ls (.int (-1) :: s) h := rf_pure (i := .iconst (-1)) (len := 1) (okD_ok (by decide +kernel)) rfl
theorem e277_33 : rf d 277 33 ls (.int y :: .int x :: s) h = if x = y then rf d 277 50 ls s h else rf d 277 36 ls s h := g_ic (c := .eq) (off := 17) _ (by decide +kernel) rfl cmp_d
theorem e277_36 : rf d 277 36 [l0, l1, l2, some (.int x), l4] s h = rf d 277 37 [l0, l1, l2, some (.int x), l4] (.int x :: s) h := rf_pure (i := .iload_n 3) (len := 1) (okD_ok (by decide +kernel)) rfl
theorem e277_37 : rf d 277 37 [some (.ref a), l1, l2, l3, l4] s h = rf d 277 38 [some (.ref a), l1, l2, l3, l4] (.ref a :: s) h := rf_pure (i := .aload_n 0) (len := 1) (okD_ok (by decide +kernel)) rfl
theorem e277_38 : rf d 277 38 [l0, some (.int x), l2, l3, l4] s h = rf d 277 39 [l0, some (.int x), l2, l3, l4] (.int x :: s) h := rf_pure (i := .iload_n 1) (len := 1) (okD_ok (by decide +kernel)) rfl
theorem e277_39 : rf d 277 39 ls s h = rf d 277 40 ls (.int 0 :: s) h := rf_pure (i := .iconst (0)) (len := 1) (okD_ok (by decide +kernel)) rfl
theorem e277_40 (hcat : ip_cat s ≤ 8) : rf (d + 1) 277 40 ls (.int x1 :: .int x0 :: .ref 265 :: s) (SH n, I, L, R, nc, ns, nx) = rf_k (d + 1) 277 40 ls s (cf d 262 [.ref 265, .int x0, .int x1] (SH n, I, L, R, nc, ns, nx)) := g_cv (idx := 438) (t := 8) [.int x1, .int x0] (by decide +kernel) ow277 ms_8_438 mt_8_438 cy262_8 rfl rfl mL262 rfl rfl (by decide) hcat
theorem e277_43 : rf d 277 43 ls (.int y :: .int x :: s) h = if ¬ x = y then rf d 277 50 ls s h else rf d 277 46 ls s h := g_ic (c := .ne) (off := 7) _ (by decide +kernel) rfl cmp_d
theorem e277_46 : rf d 277 46 ls s h = rf d 277 47 ls (.int 1 :: s) h := rf_pure (i := .iconst (1)) (len := 1) (okD_ok (by decide +kernel)) rfl
theorem e277_47 : rf d 277 47 ls s h = rf d 277 51 ls s h := rf_goto ⟨okD_ok (i := .goto (4)) (len := 3) (by decide +kernel), rfl⟩
theorem e277_50 : rf d 277 50 ls s h = rf d 277 51 ls (.int 0 :: s) h := rf_pure (i := .iconst (0)) (len := 1) (okD_ok (by decide +kernel)) rfl
theorem e277_51 (hn : ip_nl l3 = true) : rf d 277 51 [l0, l1, l2, l3, l4] (.int x :: s) h = rf d 277 53 [l0, l1, l2, l3, some (.int x)] s h := g_sti (i := .istore 4) (len := 2) (q := 3) (p := 2) (by decide +kernel) rfl rfl hn
theorem e277_53 : rf d 277 53 [l0, l1, l2, some (.int x), l4] s h = rf d 277 54 [l0, l1, l2, some (.int x), l4] (.int x :: s) h := rf_pure (i := .iload_n 3) (len := 1) (okD_ok (by decide +kernel)) rfl
theorem e277_54 : rf d 277 54 ls s h = rf d 277 55 ls (.int (-1) :: s) h := rf_pure (i := .iconst (-1)) (len := 1) (okD_ok (by decide +kernel)) rfl
theorem e277_55 : rf d 277 55 ls (.int y :: .int x :: s) h = if x = y then rf d 277 86 ls s h else rf d 277 58 ls s h := g_ic (c := .eq) (off := 31) _ (by decide +kernel) rfl cmp_d
theorem e277_58 : rf d 277 58 [some (.ref a), l1, l2, l3, l4] s h = rf d 277 59 [some (.ref a), l1, l2, l3, l4] (.ref a :: s) h := rf_pure (i := .aload_n 0) (len := 1) (okD_ok (by decide +kernel)) rfl
theorem e277_59 : rf d 277 59 [l0, l1, l2, l3, some (.int x)] s h = rf d 277 61 [l0, l1, l2, l3, some (.int x)] (.int x :: s) h := rf_pure (i := .iload 4) (len := 2) (okD_ok (by decide +kernel)) rfl
theorem e277_61 : rf d 277 61 ls (.int x :: s) h = if x = 0 then rf d 277 69 ls s h else rf d 277 64 ls s h := g_if (c := .eq) (off := 8) _ (by decide +kernel) rfl cmp_d
theorem e277_64 : rf d 277 64 ls s h = rf d 277 66 ls (.int 40 :: s) h := rf_pure (i := .bipush (40)) (len := 2) (okD_ok (by decide +kernel)) rfl
theorem e277_66 : rf d 277 66 ls s h = rf d 277 71 ls s h := rf_goto ⟨okD_ok (i := .goto (5)) (len := 3) (by decide +kernel), rfl⟩
theorem e277_69 : rf d 277 69 ls s h = rf d 277 71 ls (.int 44 :: s) h := rf_pure (i := .bipush (44)) (len := 2) (okD_ok (by decide +kernel)) rfl
theorem e277_71 (hcat : ip_cat s ≤ 8) : rf (d + 1) 277 71 ls (.int x0 :: .ref 265 :: s) (SH n, I, L, R, nc, ns, nx) = rf_k (d + 1) 277 71 ls s (cf d 274 [.ref 265, .int x0] (SH n, I, L, R, nc, ns, nx)) := g_cv (idx := 447) (t := 8) [.int x0] (by decide +kernel) ow277 ms_8_447 mt_8_447 cy274_8 rfl rfl mL274 rfl rfl (by decide) hcat
theorem e277_74 : rf d 277 74 [some (.ref a), l1, l2, l3, l4] s h = rf d 277 75 [some (.ref a), l1, l2, l3, l4] (.ref a :: s) h := rf_pure (i := .aload_n 0) (len := 1) (okD_ok (by decide +kernel)) rfl
theorem e277_75 : rf d 277 75 [l0, l1, l2, some (.int x), l4] s h = rf d 277 76 [l0, l1, l2, some (.int x), l4] (.int x :: s) h := rf_pure (i := .iload_n 3) (len := 1) (okD_ok (by decide +kernel)) rfl
theorem e277_76 (hcat : ip_cat s ≤ 8) : rf (d + 1) 277 76 ls (.int x0 :: .ref 265 :: s) (SH n, I, L, R, nc, ns, nx) = rf_k (d + 1) 277 76 ls s (cf d 278 [.ref 265, .int x0] (SH n, I, L, R, nc, ns, nx)) := g_cv (idx := 464) (t := 8) [.int x0] (by decide +kernel) ow277 ms_8_464 mt_8_464 cy278_8 rfl rfl mL278 rfl rfl (by decide) hcat
theorem e277_79 : rf d 277 79 [l0, l1, l2, some (.int x), l4] s h = rf d 277 80 [l0, l1, l2, some (.int x), l4] (.int x :: s) h := rf_pure (i := .iload_n 3) (len := 1) (okD_ok (by decide +kernel)) rfl
theorem e277_80 (hn : ip_nl l0 = true) : rf d 277 80 [l0, l1, l2, l3, l4] (.int x :: s) h = rf d 277 81 [l0, some (.int x), l2, l3, l4] s h := g_sti (i := .istore_n 1) (len := 1) (q := 0) (p := 1) (by decide +kernel) rfl rfl hn
theorem e277_81 : rf d 277 81 ls s h = rf d 277 82 ls (.int 0 :: s) h := rf_pure (i := .iconst (0)) (len := 1) (okD_ok (by decide +kernel)) rfl
theorem e277_82 (hn : ip_nl l1 = true) : rf d 277 82 [l0, l1, l2, l3, l4] (.int x :: s) h = rf d 277 83 [l0, l1, some (.int x), l3, l4] s h := g_sti (i := .istore_n 2) (len := 1) (q := 1) (p := 1) (by decide +kernel) rfl rfl hn
theorem e277_83 : rf d 277 83 ls s h = rf d 277 111 ls s h := rf_goto ⟨okD_ok (i := .goto (28)) (len := 3) (by decide +kernel), rfl⟩
theorem e277_86 : rf d 277 86 [some (.ref a), l1, l2, l3, l4] s h = rf d 277 87 [some (.ref a), l1, l2, l3, l4] (.ref a :: s) h := rf_pure (i := .aload_n 0) (len := 1) (okD_ok (by decide +kernel)) rfl
theorem e277_87 : rf d 277 87 [l0, some (.int x), l2, l3, l4] s h = rf d 277 88 [l0, some (.int x), l2, l3, l4] (.int x :: s) h := rf_pure (i := .iload_n 1) (len := 1) (okD_ok (by decide +kernel)) rfl
theorem e277_88 : rf d 277 88 ls s h = rf d 277 89 ls (.int 0 :: s) h := rf_pure (i := .iconst (0)) (len := 1) (okD_ok (by decide +kernel)) rfl
theorem e277_89 (hcat : ip_cat s ≤ 8) : rf (d + 1) 277 89 ls (.int x1 :: .int x0 :: .ref 265 :: s) (SH n, I, L, R, nc, ns, nx) = rf_k (d + 1) 277 89 ls s (cf d 262 [.ref 265, .int x0, .int x1] (SH n, I, L, R, nc, ns, nx)) := g_cv (idx := 438) (t := 8) [.int x1, .int x0] (by decide +kernel) ow277 ms_8_438 mt_8_438 cy262_8 rfl rfl mL262 rfl rfl (by decide) hcat
theorem e277_92 : rf d 277 92 ls s h = rf d 277 93 ls (.int (-1) :: s) h := rf_pure (i := .iconst (-1)) (len := 1) (okD_ok (by decide +kernel)) rfl
theorem e277_93 : rf d 277 93 ls (.int y :: .int x :: s) h = if x = y then rf d 277 102 ls s h else rf d 277 96 ls s h := g_ic (c := .eq) (off := 9) _ (by decide +kernel) rfl cmp_d
theorem e277_96 : rf d 277 96 [some (.ref a), l1, l2, l3, l4] s h = rf d 277 97 [some (.ref a), l1, l2, l3, l4] (.ref a :: s) h := rf_pure (i := .aload_n 0) (len := 1) (okD_ok (by decide +kernel)) rfl
theorem e277_97 : rf d 277 97 ls s h = rf d 277 99 ls (.int 41 :: s) h := rf_pure (i := .bipush (41)) (len := 2) (okD_ok (by decide +kernel)) rfl
theorem e277_99 (hcat : ip_cat s ≤ 8) : rf (d + 1) 277 99 ls (.int x0 :: .ref 265 :: s) (SH n, I, L, R, nc, ns, nx) = rf_k (d + 1) 277 99 ls s (cf d 274 [.ref 265, .int x0] (SH n, I, L, R, nc, ns, nx)) := g_cv (idx := 447) (t := 8) [.int x0] (by decide +kernel) ow277 ms_8_447 mt_8_447 cy274_8 rfl rfl mL274 rfl rfl (by decide) hcat
theorem e277_102 : rf d 277 102 [l0, some (.int x), l2, l3, l4] s h = rf d 277 103 [l0, some (.int x), l2, l3, l4] (.int x :: s) h := rf_pure (i := .iload_n 1) (len := 1) (okD_ok (by decide +kernel)) rfl
theorem e277_103 (hn : ip_nl l1 = true) : rf d 277 103 [l0, l1, l2, l3, l4] (.int x :: s) h = rf d 277 104 [l0, l1, some (.int x), l3, l4] s h := g_sti (i := .istore_n 2) (len := 1) (q := 1) (p := 1) (by decide +kernel) rfl rfl hn
theorem e277_104 : rf d 277 104 [some (.ref a), l1, l2, l3, l4] s h = rf d 277 105 [some (.ref a), l1, l2, l3, l4] (.ref a :: s) h := rf_pure (i := .aload_n 0) (len := 1) (okD_ok (by decide +kernel)) rfl
theorem e277_105 (hR : LYR R) : rf d 277 105 ls (.ref 265 :: s) (SH n, I, L, R, nc, ns, nx) = rf d 277 108 ls (.ref 290 :: s) (SH n, I, L, R, nc, ns, nx) := g_R (idx := 88) (by decide +kernel) ow277 f_8_88 rfl rfl (by decide) (ly_265_40 hR)
theorem e277_108 : rf d 277 108 [l0, some (.int x), l2, l3, l4] s h = rf d 277 109 [l0, some (.int x), l2, l3, l4] (.int x :: s) h := rf_pure (i := .iload_n 1) (len := 1) (okD_ok (by decide +kernel)) rfl
theorem e277_109 (q : ia n a j) : rf d 277 109 ls (.int j :: .ref a :: s) (SH n, I, L, R, nc, ns, nx) = rf d 277 110 ls (.int (I a j.toNatClampNeg) :: s) (SH n, I, L, R, nc, ns, nx) := g_ial (by decide +kernel) q
theorem e277_110 (hn : ip_nl l0 = true) : rf d 277 110 [l0, l1, l2, l3, l4] (.int x :: s) h = rf d 277 111 [l0, some (.int x), l2, l3, l4] s h := g_sti (i := .istore_n 1) (len := 1) (q := 0) (p := 1) (by decide +kernel) rfl rfl hn
theorem e277_111 : rf d 277 111 ls s h = rf d 277 19 ls s h := rf_goto ⟨okD_ok (i := .goto (-92)) (len := 3) (by decide +kernel), rfl⟩
theorem e277_114 : rf d 277 114 [some (.ref a), l1, l2, l3, l4] s h = rf d 277 115 [some (.ref a), l1, l2, l3, l4] (.ref a :: s) h := rf_pure (i := .aload_n 0) (len := 1) (okD_ok (by decide +kernel)) rfl
theorem e277_115 : rf d 277 115 ls (.ref 265 :: s) (SH n, I, L, R, nc, ns, nx) = rf d 277 118 ls (.int (I 265 70) :: s) (SH n, I, L, R, nc, ns, nx) := g_I (idx := 444) (by decide +kernel) ow277 f_8_444 rfl rfl (by decide)
theorem e277_118 : rf d 277 118 ls [.int x] h = some (.inl (some (.int x)), h) := g_ri (by decide +kernel) rt277
theorem en278 : cf d 278 [.ref a, .int x0] h = rf d 278 0 [some (.ref a), some (.int x0)] [] h := rfl
theorem e278_0 : rf d 278 0 [l0, some (.int x)] s h = rf d 278 1 [l0, some (.int x)] (.int x :: s) h := rf_pure (i := .iload_n 1) (len := 1) (okD_ok (by decide +kernel)) rfl
theorem e278_1 : rf d 278 1 ls s h = rf d 278 3 ls (.int 9 :: s) h := rf_pure (i := .bipush (9)) (len := 2) (okD_ok (by decide +kernel)) rfl
theorem e278_3 : rf d 278 3 ls (.int y :: .int x :: s) h = if x ≤ y then rf d 278 17 ls s h else rf d 278 6 ls s h := g_ic (c := .le) (off := 14) _ (by decide +kernel) rfl cmp_d
theorem e278_6 : rf d 278 6 [some (.ref a), l1] s h = rf d 278 7 [some (.ref a), l1] (.ref a :: s) h := rf_pure (i := .aload_n 0) (len := 1) (okD_ok (by decide +kernel)) rfl
theorem e278_7 : rf d 278 7 ls s h = rf d 278 9 ls (.int 48 :: s) h := rf_pure (i := .bipush (48)) (len := 2) (okD_ok (by decide +kernel)) rfl
theorem e278_9 : rf d 278 9 [l0, some (.int x)] s h = rf d 278 10 [l0, some (.int x)] (.int x :: s) h := rf_pure (i := .iload_n 1) (len := 1) (okD_ok (by decide +kernel)) rfl
theorem e278_10 : rf d 278 10 ls s h = rf d 278 12 ls (.int 10 :: s) h := rf_pure (i := .bipush (10)) (len := 2) (okD_ok (by decide +kernel)) rfl
theorem e278_12 (hy : ¬ y = 0) : rf d 278 12 ls (.int y :: .int x :: s) h = rf d 278 13 ls (.int (x / y) :: s) h := g_iz (i := .idiv) (len := 1) (f := fun x y => x / y) (by decide +kernel) rfl hy
theorem e278_13 : rf d 278 13 ls (.int y :: .int x :: s) h = rf d 278 14 ls (.int (x + y) :: s) h := rf_pure (i := .iadd) (len := 1) (okD_ok (by decide +kernel)) rfl
theorem e278_14 (hcat : ip_cat s ≤ 8) : rf (d + 1) 278 14 ls (.int x0 :: .ref 265 :: s) (SH n, I, L, R, nc, ns, nx) = rf_k (d + 1) 278 14 ls s (cf d 274 [.ref 265, .int x0] (SH n, I, L, R, nc, ns, nx)) := g_cv (idx := 447) (t := 8) [.int x0] (by decide +kernel) ow278 ms_8_447 mt_8_447 cy274_8 rfl rfl mL274 rfl rfl (by decide) hcat
theorem e278_17 : rf d 278 17 [some (.ref a), l1] s h = rf d 278 18 [some (.ref a), l1] (.ref a :: s) h := rf_pure (i := .aload_n 0) (len := 1) (okD_ok (by decide +kernel)) rfl
theorem e278_18 : rf d 278 18 ls s h = rf d 278 20 ls (.int 48 :: s) h := rf_pure (i := .bipush (48)) (len := 2) (okD_ok (by decide +kernel)) rfl
theorem e278_20 : rf d 278 20 [l0, some (.int x)] s h = rf d 278 21 [l0, some (.int x)] (.int x :: s) h := rf_pure (i := .iload_n 1) (len := 1) (okD_ok (by decide +kernel)) rfl
theorem e278_21 : rf d 278 21 ls s h = rf d 278 23 ls (.int 10 :: s) h := rf_pure (i := .bipush (10)) (len := 2) (okD_ok (by decide +kernel)) rfl
theorem e278_23 (hy : ¬ y = 0) : rf d 278 23 ls (.int y :: .int x :: s) h = rf d 278 24 ls (.int (x - x / y * y) :: s) h := g_iz (i := .irem) (len := 1) (f := fun x y => x - x / y * y) (by decide +kernel) rfl hy
theorem e278_24 : rf d 278 24 ls (.int y :: .int x :: s) h = rf d 278 25 ls (.int (x + y) :: s) h := rf_pure (i := .iadd) (len := 1) (okD_ok (by decide +kernel)) rfl
theorem e278_25 (hcat : ip_cat s ≤ 8) : rf (d + 1) 278 25 ls (.int x0 :: .ref 265 :: s) (SH n, I, L, R, nc, ns, nx) = rf_k (d + 1) 278 25 ls s (cf d 274 [.ref 265, .int x0] (SH n, I, L, R, nc, ns, nx)) := g_cv (idx := 447) (t := 8) [.int x0] (by decide +kernel) ow278 ms_8_447 mt_8_447 cy274_8 rfl rfl mL274 rfl rfl (by decide) hcat
theorem e278_28 : rf d 278 28 [some (.ref a), l1] s h = rf d 278 29 [some (.ref a), l1] (.ref a :: s) h := rf_pure (i := .aload_n 0) (len := 1) (okD_ok (by decide +kernel)) rfl
theorem e278_29 : rf d 278 29 [some (.ref a), l1] s h = rf d 278 30 [some (.ref a), l1] (.ref a :: s) h := rf_pure (i := .aload_n 0) (len := 1) (okD_ok (by decide +kernel)) rfl
theorem e278_30 (hR : LYR R) : rf d 278 30 ls (.ref 265 :: s) (SH n, I, L, R, nc, ns, nx) = rf d 278 33 ls (.ref 289 :: s) (SH n, I, L, R, nc, ns, nx) := g_R (idx := 85) (by decide +kernel) ow278 f_8_85 rfl rfl (by decide) (ly_265_39 hR)
theorem e278_33 : rf d 278 33 [l0, some (.int x)] s h = rf d 278 34 [l0, some (.int x)] (.int x :: s) h := rf_pure (i := .iload_n 1) (len := 1) (okD_ok (by decide +kernel)) rfl
theorem e278_34 (q : ia n a j) : rf d 278 34 ls (.int j :: .ref a :: s) (SH n, I, L, R, nc, ns, nx) = rf d 278 35 ls (.int (I a j.toNatClampNeg) :: s) (SH n, I, L, R, nc, ns, nx) := g_ial (by decide +kernel) q
theorem e278_35 : rf d 278 35 ls (.int x :: s) h = if ¬ x = 0 then rf d 278 43 ls s h else rf d 278 38 ls s h := g_if (c := .ne) (off := 8) _ (by decide +kernel) rfl cmp_d
theorem e278_38 : rf d 278 38 ls s h = rf d 278 40 ls (.int 114 :: s) h := rf_pure (i := .bipush (114)) (len := 2) (okD_ok (by decide +kernel)) rfl
theorem e278_40 : rf d 278 40 ls s h = rf d 278 89 ls s h := rf_goto ⟨okD_ok (i := .goto (49)) (len := 3) (by decide +kernel), rfl⟩
theorem e278_43 : rf d 278 43 [some (.ref a), l1] s h = rf d 278 44 [some (.ref a), l1] (.ref a :: s) h := rf_pure (i := .aload_n 0) (len := 1) (okD_ok (by decide +kernel)) rfl
theorem e278_44 (hR : LYR R) : rf d 278 44 ls (.ref 265 :: s) (SH n, I, L, R, nc, ns, nx) = rf d 278 47 ls (.ref 291 :: s) (SH n, I, L, R, nc, ns, nx) := g_R (idx := 91) (by decide +kernel) ow278 f_8_91 rfl rfl (by decide) (ly_265_41 hR)
theorem e278_47 : rf d 278 47 [l0, some (.int x)] s h = rf d 278 48 [l0, some (.int x)] (.int x :: s) h := rf_pure (i := .iload_n 1) (len := 1) (okD_ok (by decide +kernel)) rfl
theorem e278_48 (q : ia n a j) : rf d 278 48 ls (.int j :: .ref a :: s) (SH n, I, L, R, nc, ns, nx) = rf d 278 49 ls (.int (I a j.toNatClampNeg) :: s) (SH n, I, L, R, nc, ns, nx) := g_ial (by decide +kernel) q
theorem e278_49 : rf d 278 49 ls (.int x :: s) h = if ¬ x = 0 then rf d 278 57 ls s h else rf d 278 52 ls s h := g_if (c := .ne) (off := 8) _ (by decide +kernel) rfl cmp_d
theorem e278_52 : rf d 278 52 ls s h = rf d 278 54 ls (.int 97 :: s) h := rf_pure (i := .bipush (97)) (len := 2) (okD_ok (by decide +kernel)) rfl
theorem e278_54 : rf d 278 54 ls s h = rf d 278 89 ls s h := rf_goto ⟨okD_ok (i := .goto (35)) (len := 3) (by decide +kernel), rfl⟩
theorem e278_57 : rf d 278 57 [some (.ref a), l1] s h = rf d 278 58 [some (.ref a), l1] (.ref a :: s) h := rf_pure (i := .aload_n 0) (len := 1) (okD_ok (by decide +kernel)) rfl
theorem e278_58 (hR : LYR R) : rf d 278 58 ls (.ref 265 :: s) (SH n, I, L, R, nc, ns, nx) = rf d 278 61 ls (.ref 291 :: s) (SH n, I, L, R, nc, ns, nx) := g_R (idx := 91) (by decide +kernel) ow278 f_8_91 rfl rfl (by decide) (ly_265_41 hR)
theorem e278_61 : rf d 278 61 [l0, some (.int x)] s h = rf d 278 62 [l0, some (.int x)] (.int x :: s) h := rf_pure (i := .iload_n 1) (len := 1) (okD_ok (by decide +kernel)) rfl
theorem e278_62 (q : ia n a j) : rf d 278 62 ls (.int j :: .ref a :: s) (SH n, I, L, R, nc, ns, nx) = rf d 278 63 ls (.int (I a j.toNatClampNeg) :: s) (SH n, I, L, R, nc, ns, nx) := g_ial (by decide +kernel) q
theorem e278_63 : rf d 278 63 ls s h = rf d 278 64 ls (.int 1 :: s) h := rf_pure (i := .iconst (1)) (len := 1) (okD_ok (by decide +kernel)) rfl
theorem e278_64 : rf d 278 64 ls (.int y :: .int x :: s) h = if ¬ x = y then rf d 278 72 ls s h else rf d 278 67 ls s h := g_ic (c := .ne) (off := 8) _ (by decide +kernel) rfl cmp_d
theorem e278_67 : rf d 278 67 ls s h = rf d 278 69 ls (.int 111 :: s) h := rf_pure (i := .bipush (111)) (len := 2) (okD_ok (by decide +kernel)) rfl
theorem e278_69 : rf d 278 69 ls s h = rf d 278 89 ls s h := rf_goto ⟨okD_ok (i := .goto (20)) (len := 3) (by decide +kernel), rfl⟩
theorem e278_72 : rf d 278 72 [some (.ref a), l1] s h = rf d 278 73 [some (.ref a), l1] (.ref a :: s) h := rf_pure (i := .aload_n 0) (len := 1) (okD_ok (by decide +kernel)) rfl
theorem e278_73 (hR : LYR R) : rf d 278 73 ls (.ref 265 :: s) (SH n, I, L, R, nc, ns, nx) = rf d 278 76 ls (.ref 291 :: s) (SH n, I, L, R, nc, ns, nx) := g_R (idx := 91) (by decide +kernel) ow278 f_8_91 rfl rfl (by decide) (ly_265_41 hR)
theorem e278_76 : rf d 278 76 [l0, some (.int x)] s h = rf d 278 77 [l0, some (.int x)] (.int x :: s) h := rf_pure (i := .iload_n 1) (len := 1) (okD_ok (by decide +kernel)) rfl
theorem e278_77 (q : ia n a j) : rf d 278 77 ls (.int j :: .ref a :: s) (SH n, I, L, R, nc, ns, nx) = rf d 278 78 ls (.int (I a j.toNatClampNeg) :: s) (SH n, I, L, R, nc, ns, nx) := g_ial (by decide +kernel) q
theorem e278_78 : rf d 278 78 ls s h = rf d 278 79 ls (.int 2 :: s) h := rf_pure (i := .iconst (2)) (len := 1) (okD_ok (by decide +kernel)) rfl
theorem e278_79 : rf d 278 79 ls (.int y :: .int x :: s) h = if ¬ x = y then rf d 278 87 ls s h else rf d 278 82 ls s h := g_ic (c := .ne) (off := 8) _ (by decide +kernel) rfl cmp_d
theorem e278_82 : rf d 278 82 ls s h = rf d 278 84 ls (.int 118 :: s) h := rf_pure (i := .bipush (118)) (len := 2) (okD_ok (by decide +kernel)) rfl
theorem e278_84 : rf d 278 84 ls s h = rf d 278 89 ls s h := rf_goto ⟨okD_ok (i := .goto (5)) (len := 3) (by decide +kernel), rfl⟩
theorem e278_87 : rf d 278 87 ls s h = rf d 278 89 ls (.int 109 :: s) h := rf_pure (i := .bipush (109)) (len := 2) (okD_ok (by decide +kernel)) rfl
theorem e278_89 (hcat : ip_cat s ≤ 8) : rf (d + 1) 278 89 ls (.int x0 :: .ref 265 :: s) (SH n, I, L, R, nc, ns, nx) = rf_k (d + 1) 278 89 ls s (cf d 274 [.ref 265, .int x0] (SH n, I, L, R, nc, ns, nx)) := g_cv (idx := 447) (t := 8) [.int x0] (by decide +kernel) ow278 ms_8_447 mt_8_447 cy274_8 rfl rfl mL274 rfl rfl (by decide) hcat
theorem e278_92 : rf d 278 92 ls [] h = some (.inl none, h) := g_rv (by decide +kernel) rt278
theorem en279 : cf d 279 [.ref a, .int x0, .int x1] h = rf d 279 0 [some (.ref a), some (.int x0), some (.int x1), none, none, none] [] h := rfl
theorem e279_0 : rf d 279 0 [some (.ref a), l1, l2, l3, l4, l5] s h = rf d 279 1 [some (.ref a), l1, l2, l3, l4, l5] (.ref a :: s) h := rf_pure (i := .aload_n 0) (len := 1) (okD_ok (by decide +kernel)) rfl
theorem e279_1 : rf d 279 1 [some (.ref a), l1, l2, l3, l4, l5] s h = rf d 279 2 [some (.ref a), l1, l2, l3, l4, l5] (.ref a :: s) h := rf_pure (i := .aload_n 0) (len := 1) (okD_ok (by decide +kernel)) rfl
theorem e279_2 : rf d 279 2 [l0, some (.int x), l2, l3, l4, l5] s h = rf d 279 3 [l0, some (.int x), l2, l3, l4, l5] (.int x :: s) h := rf_pure (i := .iload_n 1) (len := 1) (okD_ok (by decide +kernel)) rfl
theorem e279_3 (hcat : ip_cat s ≤ 8) : rf (d + 1) 279 3 ls (.int x0 :: .ref 265 :: s) (SH n, I, L, R, nc, ns, nx) = rf_k (d + 1) 279 3 ls s (cf d 244 [.ref 265, .int x0] (SH n, I, L, R, nc, ns, nx)) := g_cv (idx := 401) (t := 8) [.int x0] (by decide +kernel) ow279 ms_8_401 mt_8_401 cy244_8 rfl rfl mL244 rfl rfl (by decide) hcat
theorem e279_6 : rf d 279 6 ls (.int x :: s) h = if x = 0 then rf d 279 13 ls s h else rf d 279 9 ls s h := g_if (c := .eq) (off := 7) _ (by decide +kernel) rfl cmp_d
theorem e279_9 : rf d 279 9 ls s h = rf d 279 10 ls (.int 0 :: s) h := rf_pure (i := .iconst (0)) (len := 1) (okD_ok (by decide +kernel)) rfl
theorem e279_10 : rf d 279 10 ls s h = rf d 279 14 ls s h := rf_goto ⟨okD_ok (i := .goto (4)) (len := 3) (by decide +kernel), rfl⟩
theorem e279_13 : rf d 279 13 ls s h = rf d 279 14 ls (.int 1 :: s) h := rf_pure (i := .iconst (1)) (len := 1) (okD_ok (by decide +kernel)) rfl
theorem e279_14 : rf d 279 14 ls (.int x :: .ref 265 :: s) (SH n, I, L, R, nc, ns, nx) = rf d 279 17 ls s (SH n, ip_up I 265 0 x, L, R, nc, ns, nx) := g_pI (idx := 142) (by decide +kernel) ow279 f_8_142 rfl (by decide +kernel) rfl (by decide)
theorem e279_17 : rf d 279 17 [some (.ref a), l1, l2, l3, l4, l5] s h = rf d 279 18 [some (.ref a), l1, l2, l3, l4, l5] (.ref a :: s) h := rf_pure (i := .aload_n 0) (len := 1) (okD_ok (by decide +kernel)) rfl
theorem e279_18 : rf d 279 18 ls (.ref 265 :: s) (SH n, I, L, R, nc, ns, nx) = rf d 279 21 ls (.int (I 265 0) :: s) (SH n, I, L, R, nc, ns, nx) := g_I (idx := 142) (by decide +kernel) ow279 f_8_142 rfl rfl (by decide)
theorem e279_21 : rf d 279 21 ls (.int x :: s) h = if x ≤ 0 then rf d 279 26 ls s h else rf d 279 24 ls s h := g_if (c := .le) (off := 5) _ (by decide +kernel) rfl cmp_d
theorem e279_24 : rf d 279 24 ls s h = rf d 279 25 ls (.int 0 :: s) h := rf_pure (i := .iconst (0)) (len := 1) (okD_ok (by decide +kernel)) rfl
theorem e279_25 : rf d 279 25 ls [.int x] h = some (.inl (some (.int x)), h) := g_ri (by decide +kernel) rt279
theorem e279_26 : rf d 279 26 [some (.ref a), l1, l2, l3, l4, l5] s h = rf d 279 27 [some (.ref a), l1, l2, l3, l4, l5] (.ref a :: s) h := rf_pure (i := .aload_n 0) (len := 1) (okD_ok (by decide +kernel)) rfl
theorem e279_27 : rf d 279 27 [l0, some (.int x), l2, l3, l4, l5] s h = rf d 279 28 [l0, some (.int x), l2, l3, l4, l5] (.int x :: s) h := rf_pure (i := .iload_n 1) (len := 1) (okD_ok (by decide +kernel)) rfl
theorem e279_28 (hcat : ip_cat s ≤ 8) : rf (d + 1) 279 28 ls (.int x0 :: .ref 265 :: s) (SH n, I, L, R, nc, ns, nx) = rf_k (d + 1) 279 28 ls s (cf d 280 [.ref 265, .int x0] (SH n, I, L, R, nc, ns, nx)) := g_cv (idx := 467) (t := 8) [.int x0] (by decide +kernel) ow279 ms_8_467 mt_8_467 cy280_8 rfl rfl mL280 rfl rfl (by decide) hcat
theorem e279_31 : rf d 279 31 [l0, l1, some (.int x), l3, l4, l5] s h = rf d 279 32 [l0, l1, some (.int x), l3, l4, l5] (.int x :: s) h := rf_pure (i := .iload_n 2) (len := 1) (okD_ok (by decide +kernel)) rfl
theorem e279_32 : rf d 279 32 ls (.int y :: .int x :: s) h = rf d 279 33 ls (.int (x - y) :: s) h := rf_pure (i := .isub) (len := 1) (okD_ok (by decide +kernel)) rfl
theorem e279_33 (hn : ip_nl l2 = true) : rf d 279 33 [l0, l1, l2, l3, l4, l5] (.int x :: s) h = rf d 279 34 [l0, l1, l2, some (.int x), l4, l5] s h := g_sti (i := .istore_n 3) (len := 1) (q := 2) (p := 1) (by decide +kernel) rfl rfl hn
theorem e279_34 : rf d 279 34 [l0, l1, some (.int x), l3, l4, l5] s h = rf d 279 35 [l0, l1, some (.int x), l3, l4, l5] (.int x :: s) h := rf_pure (i := .iload_n 2) (len := 1) (okD_ok (by decide +kernel)) rfl
theorem e279_35 : rf d 279 35 ls (.int x :: s) h = if x < 0 then rf d 279 42 ls s h else rf d 279 38 ls s h := g_if (c := .lt) (off := 7) _ (by decide +kernel) rfl cmp_d
theorem e279_38 : rf d 279 38 [l0, l1, l2, some (.int x), l4, l5] s h = rf d 279 39 [l0, l1, l2, some (.int x), l4, l5] (.int x :: s) h := rf_pure (i := .iload_n 3) (len := 1) (okD_ok (by decide +kernel)) rfl
theorem e279_39 : rf d 279 39 ls (.int x :: s) h = if 0 ≤ x then rf d 279 44 ls s h else rf d 279 42 ls s h := g_if (c := .ge) (off := 5) _ (by decide +kernel) rfl cmp_d
theorem e279_42 : rf d 279 42 ls s h = rf d 279 43 ls (.int (-1) :: s) h := rf_pure (i := .iconst (-1)) (len := 1) (okD_ok (by decide +kernel)) rfl
theorem e279_43 : rf d 279 43 ls [.int x] h = some (.inl (some (.int x)), h) := g_ri (by decide +kernel) rt279
theorem e279_44 : rf d 279 44 [l0, some (.int x), l2, l3, l4, l5] s h = rf d 279 45 [l0, some (.int x), l2, l3, l4, l5] (.int x :: s) h := rf_pure (i := .iload_n 1) (len := 1) (okD_ok (by decide +kernel)) rfl
theorem e279_45 (hn : ip_nl l3 = true) : rf d 279 45 [l0, l1, l2, l3, l4, l5] (.int x :: s) h = rf d 279 47 [l0, l1, l2, l3, some (.int x), l5] s h := g_sti (i := .istore 4) (len := 2) (q := 3) (p := 2) (by decide +kernel) rfl rfl hn
theorem e279_47 : rf d 279 47 ls s h = rf d 279 48 ls (.int 0 :: s) h := rf_pure (i := .iconst (0)) (len := 1) (okD_ok (by decide +kernel)) rfl
theorem e279_48 (hn : ip_nl l4 = true) : rf d 279 48 [l0, l1, l2, l3, l4, l5] (.int x :: s) h = rf d 279 50 [l0, l1, l2, l3, l4, some (.int x)] s h := g_sti (i := .istore 5) (len := 2) (q := 4) (p := 2) (by decide +kernel) rfl rfl hn
theorem e279_50 : rf d 279 50 [l0, l1, l2, l3, l4, some (.int x)] s h = rf d 279 52 [l0, l1, l2, l3, l4, some (.int x)] (.int x :: s) h := rf_pure (i := .iload 5) (len := 2) (okD_ok (by decide +kernel)) rfl
theorem e279_52 : rf d 279 52 [l0, l1, l2, some (.int x), l4, l5] s h = rf d 279 53 [l0, l1, l2, some (.int x), l4, l5] (.int x :: s) h := rf_pure (i := .iload_n 3) (len := 1) (okD_ok (by decide +kernel)) rfl
theorem e279_53 : rf d 279 53 ls (.int y :: .int x :: s) h = if y ≤ x then rf d 279 71 ls s h else rf d 279 56 ls s h := g_ic (c := .ge) (off := 18) _ (by decide +kernel) rfl cmp_d
theorem e279_56 : rf d 279 56 [some (.ref a), l1, l2, l3, l4, l5] s h = rf d 279 57 [some (.ref a), l1, l2, l3, l4, l5] (.ref a :: s) h := rf_pure (i := .aload_n 0) (len := 1) (okD_ok (by decide +kernel)) rfl
theorem e279_57 (hR : LYR R) : rf d 279 57 ls (.ref 265 :: s) (SH n, I, L, R, nc, ns, nx) = rf d 279 60 ls (.ref 290 :: s) (SH n, I, L, R, nc, ns, nx) := g_R (idx := 88) (by decide +kernel) ow279 f_8_88 rfl rfl (by decide) (ly_265_40 hR)
theorem e279_60 : rf d 279 60 [l0, l1, l2, l3, some (.int x), l5] s h = rf d 279 62 [l0, l1, l2, l3, some (.int x), l5] (.int x :: s) h := rf_pure (i := .iload 4) (len := 2) (okD_ok (by decide +kernel)) rfl
theorem e279_62 (q : ia n a j) : rf d 279 62 ls (.int j :: .ref a :: s) (SH n, I, L, R, nc, ns, nx) = rf d 279 63 ls (.int (I a j.toNatClampNeg) :: s) (SH n, I, L, R, nc, ns, nx) := g_ial (by decide +kernel) q
theorem e279_63 (hn : ip_nl l3 = true) : rf d 279 63 [l0, l1, l2, l3, l4, l5] (.int x :: s) h = rf d 279 65 [l0, l1, l2, l3, some (.int x), l5] s h := g_sti (i := .istore 4) (len := 2) (q := 3) (p := 2) (by decide +kernel) rfl rfl hn
theorem e279_65 (hn : ip_nl l4 = true) : rf d 279 65 [l0, l1, l2, l3, l4, some (.int x)] s h = rf d 279 68 [l0, l1, l2, l3, l4, some (.int (x + 1))] s h := g_inc (q := 4) (z := 1) (w := 1) (x := x) (by decide) (by decide +kernel) rfl rfl hn
theorem e279_68 : rf d 279 68 ls s h = rf d 279 50 ls s h := rf_goto ⟨okD_ok (i := .goto (-18)) (len := 3) (by decide +kernel), rfl⟩
theorem e279_71 : rf d 279 71 [l0, l1, l2, l3, some (.int x), l5] s h = rf d 279 73 [l0, l1, l2, l3, some (.int x), l5] (.int x :: s) h := rf_pure (i := .iload 4) (len := 2) (okD_ok (by decide +kernel)) rfl
theorem e279_73 : rf d 279 73 ls [.int x] h = some (.inl (some (.int x)), h) := g_ri (by decide +kernel) rt279
theorem en280 : cf d 280 [.ref a, .int x0] h = rf d 280 0 [some (.ref a), some (.int x0), none, none] [] h := rfl
theorem e280_0 : rf d 280 0 ls s h = rf d 280 1 ls (.int 0 :: s) h := rf_pure (i := .iconst (0)) (len := 1) (okD_ok (by decide +kernel)) rfl
theorem e280_1 (hn : ip_nl l1 = true) : rf d 280 1 [l0, l1, l2, l3] (.int x :: s) h = rf d 280 2 [l0, l1, some (.int x), l3] s h := g_sti (i := .istore_n 2) (len := 1) (q := 1) (p := 1) (by decide +kernel) rfl rfl hn
theorem e280_2 : rf d 280 2 [some (.ref a), l1, l2, l3] s h = rf d 280 3 [some (.ref a), l1, l2, l3] (.ref a :: s) h := rf_pure (i := .aload_n 0) (len := 1) (okD_ok (by decide +kernel)) rfl
theorem e280_3 (hR : LYR R) : rf d 280 3 ls (.ref 265 :: s) (SH n, I, L, R, nc, ns, nx) = rf d 280 6 ls (.ref 290 :: s) (SH n, I, L, R, nc, ns, nx) := g_R (idx := 88) (by decide +kernel) ow280 f_8_88 rfl rfl (by decide) (ly_265_40 hR)
theorem e280_6 : rf d 280 6 [l0, some (.int x), l2, l3] s h = rf d 280 7 [l0, some (.int x), l2, l3] (.int x :: s) h := rf_pure (i := .iload_n 1) (len := 1) (okD_ok (by decide +kernel)) rfl
theorem e280_7 (q : ia n a j) : rf d 280 7 ls (.int j :: .ref a :: s) (SH n, I, L, R, nc, ns, nx) = rf d 280 8 ls (.int (I a j.toNatClampNeg) :: s) (SH n, I, L, R, nc, ns, nx) := g_ial (by decide +kernel) q
theorem e280_8 (hn : ip_nl l2 = true) : rf d 280 8 [l0, l1, l2, l3] (.int x :: s) h = rf d 280 9 [l0, l1, l2, some (.int x)] s h := g_sti (i := .istore_n 3) (len := 1) (q := 2) (p := 1) (by decide +kernel) rfl rfl hn
theorem e280_9 : rf d 280 9 [l0, l1, l2, some (.int x)] s h = rf d 280 10 [l0, l1, l2, some (.int x)] (.int x :: s) h := rf_pure (i := .iload_n 3) (len := 1) (okD_ok (by decide +kernel)) rfl
theorem e280_10 : rf d 280 10 ls s h = rf d 280 11 ls (.int (-1) :: s) h := rf_pure (i := .iconst (-1)) (len := 1) (okD_ok (by decide +kernel)) rfl
theorem e280_11 : rf d 280 11 ls (.int y :: .int x :: s) h = if x = y then rf d 280 27 ls s h else rf d 280 14 ls s h := g_ic (c := .eq) (off := 16) _ (by decide +kernel) rfl cmp_d
theorem e280_14 (hn : ip_nl l1 = true) : rf d 280 14 [l0, l1, some (.int x), l3] s h = rf d 280 17 [l0, l1, some (.int (x + 1)), l3] s h := g_inc (q := 1) (z := 1) (w := 1) (x := x) (by decide) (by decide +kernel) rfl rfl hn
theorem e280_17 : rf d 280 17 [some (.ref a), l1, l2, l3] s h = rf d 280 18 [some (.ref a), l1, l2, l3] (.ref a :: s) h := rf_pure (i := .aload_n 0) (len := 1) (okD_ok (by decide +kernel)) rfl
theorem e280_18 (hR : LYR R) : rf d 280 18 ls (.ref 265 :: s) (SH n, I, L, R, nc, ns, nx) = rf d 280 21 ls (.ref 290 :: s) (SH n, I, L, R, nc, ns, nx) := g_R (idx := 88) (by decide +kernel) ow280 f_8_88 rfl rfl (by decide) (ly_265_40 hR)
theorem e280_21 : rf d 280 21 [l0, l1, l2, some (.int x)] s h = rf d 280 22 [l0, l1, l2, some (.int x)] (.int x :: s) h := rf_pure (i := .iload_n 3) (len := 1) (okD_ok (by decide +kernel)) rfl
theorem e280_22 (q : ia n a j) : rf d 280 22 ls (.int j :: .ref a :: s) (SH n, I, L, R, nc, ns, nx) = rf d 280 23 ls (.int (I a j.toNatClampNeg) :: s) (SH n, I, L, R, nc, ns, nx) := g_ial (by decide +kernel) q
theorem e280_23 (hn : ip_nl l2 = true) : rf d 280 23 [l0, l1, l2, l3] (.int x :: s) h = rf d 280 24 [l0, l1, l2, some (.int x)] s h := g_sti (i := .istore_n 3) (len := 1) (q := 2) (p := 1) (by decide +kernel) rfl rfl hn
theorem e280_24 : rf d 280 24 ls s h = rf d 280 9 ls s h := rf_goto ⟨okD_ok (i := .goto (-15)) (len := 3) (by decide +kernel), rfl⟩
theorem e280_27 : rf d 280 27 [l0, l1, some (.int x), l3] s h = rf d 280 28 [l0, l1, some (.int x), l3] (.int x :: s) h := rf_pure (i := .iload_n 2) (len := 1) (okD_ok (by decide +kernel)) rfl
theorem e280_28 : rf d 280 28 ls [.int x] h = some (.inl (some (.int x)), h) := g_ri (by decide +kernel) rt280
theorem en281 : cf d 281 [.ref a, .int x0, .int x1] h = rf d 281 0 [some (.ref a), some (.int x0), some (.int x1), none, none] [] h := rfl
theorem e281_0 : rf d 281 0 [some (.ref a), l1, l2, l3, l4] s h = rf d 281 1 [some (.ref a), l1, l2, l3, l4] (.ref a :: s) h := rf_pure (i := .aload_n 0) (len := 1) (okD_ok (by decide +kernel)) rfl
theorem e281_1 : rf d 281 1 [some (.ref a), l1, l2, l3, l4] s h = rf d 281 2 [some (.ref a), l1, l2, l3, l4] (.ref a :: s) h := rf_pure (i := .aload_n 0) (len := 1) (okD_ok (by decide +kernel)) rfl
theorem e281_2 : rf d 281 2 [l0, some (.int x), l2, l3, l4] s h = rf d 281 3 [l0, some (.int x), l2, l3, l4] (.int x :: s) h := rf_pure (i := .iload_n 1) (len := 1) (okD_ok (by decide +kernel)) rfl
theorem e281_3 (hcat : ip_cat s ≤ 8) : rf (d + 1) 281 3 ls (.int x0 :: .ref 265 :: s) (SH n, I, L, R, nc, ns, nx) = rf_k (d + 1) 281 3 ls s (cf d 244 [.ref 265, .int x0] (SH n, I, L, R, nc, ns, nx)) := g_cv (idx := 401) (t := 8) [.int x0] (by decide +kernel) ow281 ms_8_401 mt_8_401 cy244_8 rfl rfl mL244 rfl rfl (by decide) hcat
theorem e281_6 : rf d 281 6 ls (.int x :: s) h = if x = 0 then rf d 281 21 ls s h else rf d 281 9 ls s h := g_if (c := .eq) (off := 15) _ (by decide +kernel) rfl cmp_d
theorem e281_9 : rf d 281 9 [some (.ref a), l1, l2, l3, l4] s h = rf d 281 10 [some (.ref a), l1, l2, l3, l4] (.ref a :: s) h := rf_pure (i := .aload_n 0) (len := 1) (okD_ok (by decide +kernel)) rfl
theorem e281_10 : rf d 281 10 [l0, l1, some (.int x), l3, l4] s h = rf d 281 11 [l0, l1, some (.int x), l3, l4] (.int x :: s) h := rf_pure (i := .iload_n 2) (len := 1) (okD_ok (by decide +kernel)) rfl
theorem e281_11 (hcat : ip_cat s ≤ 8) : rf (d + 1) 281 11 ls (.int x0 :: .ref 265 :: s) (SH n, I, L, R, nc, ns, nx) = rf_k (d + 1) 281 11 ls s (cf d 244 [.ref 265, .int x0] (SH n, I, L, R, nc, ns, nx)) := g_cv (idx := 401) (t := 8) [.int x0] (by decide +kernel) ow281 ms_8_401 mt_8_401 cy244_8 rfl rfl mL244 rfl rfl (by decide) hcat
theorem e281_14 : rf d 281 14 ls (.int x :: s) h = if x = 0 then rf d 281 21 ls s h else rf d 281 17 ls s h := g_if (c := .eq) (off := 7) _ (by decide +kernel) rfl cmp_d
theorem e281_17 : rf d 281 17 ls s h = rf d 281 18 ls (.int 0 :: s) h := rf_pure (i := .iconst (0)) (len := 1) (okD_ok (by decide +kernel)) rfl
theorem e281_18 : rf d 281 18 ls s h = rf d 281 22 ls s h := rf_goto ⟨okD_ok (i := .goto (4)) (len := 3) (by decide +kernel), rfl⟩
theorem e281_21 : rf d 281 21 ls s h = rf d 281 22 ls (.int 1 :: s) h := rf_pure (i := .iconst (1)) (len := 1) (okD_ok (by decide +kernel)) rfl
theorem e281_22 : rf d 281 22 ls (.int x :: .ref 265 :: s) (SH n, I, L, R, nc, ns, nx) = rf d 281 25 ls s (SH n, ip_up I 265 0 x, L, R, nc, ns, nx) := g_pI (idx := 142) (by decide +kernel) ow281 f_8_142 rfl (by decide +kernel) rfl (by decide)
theorem e281_25 : rf d 281 25 [some (.ref a), l1, l2, l3, l4] s h = rf d 281 26 [some (.ref a), l1, l2, l3, l4] (.ref a :: s) h := rf_pure (i := .aload_n 0) (len := 1) (okD_ok (by decide +kernel)) rfl
theorem e281_26 : rf d 281 26 ls (.ref 265 :: s) (SH n, I, L, R, nc, ns, nx) = rf d 281 29 ls (.int (I 265 0) :: s) (SH n, I, L, R, nc, ns, nx) := g_I (idx := 142) (by decide +kernel) ow281 f_8_142 rfl rfl (by decide)
theorem e281_29 : rf d 281 29 ls (.int x :: s) h = if x ≤ 0 then rf d 281 34 ls s h else rf d 281 32 ls s h := g_if (c := .le) (off := 5) _ (by decide +kernel) rfl cmp_d
theorem e281_32 : rf d 281 32 ls s h = rf d 281 33 ls (.int 0 :: s) h := rf_pure (i := .iconst (0)) (len := 1) (okD_ok (by decide +kernel)) rfl
theorem e281_33 : rf d 281 33 ls [.int x] h = some (.inl (some (.int x)), h) := g_ri (by decide +kernel) rt281
theorem e281_34 : rf d 281 34 [l0, some (.int x), l2, l3, l4] s h = rf d 281 35 [l0, some (.int x), l2, l3, l4] (.int x :: s) h := rf_pure (i := .iload_n 1) (len := 1) (okD_ok (by decide +kernel)) rfl
theorem e281_35 (hn : ip_nl l2 = true) : rf d 281 35 [l0, l1, l2, l3, l4] (.int x :: s) h = rf d 281 36 [l0, l1, l2, some (.int x), l4] s h := g_sti (i := .istore_n 3) (len := 1) (q := 2) (p := 1) (by decide +kernel) rfl rfl hn
theorem e281_36 : rf d 281 36 [l0, l1, some (.int x), l3, l4] s h = rf d 281 37 [l0, l1, some (.int x), l3, l4] (.int x :: s) h := rf_pure (i := .iload_n 2) (len := 1) (okD_ok (by decide +kernel)) rfl
theorem e281_37 (hn : ip_nl l3 = true) : rf d 281 37 [l0, l1, l2, l3, l4] (.int x :: s) h = rf d 281 39 [l0, l1, l2, l3, some (.int x)] s h := g_sti (i := .istore 4) (len := 2) (q := 3) (p := 2) (by decide +kernel) rfl rfl hn
theorem e281_39 : rf d 281 39 [l0, l1, l2, some (.int x), l4] s h = rf d 281 40 [l0, l1, l2, some (.int x), l4] (.int x :: s) h := rf_pure (i := .iload_n 3) (len := 1) (okD_ok (by decide +kernel)) rfl
theorem e281_40 : rf d 281 40 [l0, l1, l2, l3, some (.int x)] s h = rf d 281 42 [l0, l1, l2, l3, some (.int x)] (.int x :: s) h := rf_pure (i := .iload 4) (len := 2) (okD_ok (by decide +kernel)) rfl
theorem e281_42 : rf d 281 42 ls (.int y :: .int x :: s) h = if x = y then rf d 281 73 ls s h else rf d 281 45 ls s h := g_ic (c := .eq) (off := 31) _ (by decide +kernel) rfl cmp_d
theorem e281_45 : rf d 281 45 [l0, l1, l2, some (.int x), l4] s h = rf d 281 46 [l0, l1, l2, some (.int x), l4] (.int x :: s) h := rf_pure (i := .iload_n 3) (len := 1) (okD_ok (by decide +kernel)) rfl
theorem e281_46 : rf d 281 46 [l0, l1, l2, l3, some (.int x)] s h = rf d 281 48 [l0, l1, l2, l3, some (.int x)] (.int x :: s) h := rf_pure (i := .iload 4) (len := 2) (okD_ok (by decide +kernel)) rfl
theorem e281_48 : rf d 281 48 ls (.int y :: .int x :: s) h = if x ≤ y then rf d 281 61 ls s h else rf d 281 51 ls s h := g_ic (c := .le) (off := 13) _ (by decide +kernel) rfl cmp_d
theorem e281_51 : rf d 281 51 [some (.ref a), l1, l2, l3, l4] s h = rf d 281 52 [some (.ref a), l1, l2, l3, l4] (.ref a :: s) h := rf_pure (i := .aload_n 0) (len := 1) (okD_ok (by decide +kernel)) rfl
theorem e281_52 (hR : LYR R) : rf d 281 52 ls (.ref 265 :: s) (SH n, I, L, R, nc, ns, nx) = rf d 281 55 ls (.ref 290 :: s) (SH n, I, L, R, nc, ns, nx) := g_R (idx := 88) (by decide +kernel) ow281 f_8_88 rfl rfl (by decide) (ly_265_40 hR)
theorem e281_55 : rf d 281 55 [l0, l1, l2, some (.int x), l4] s h = rf d 281 56 [l0, l1, l2, some (.int x), l4] (.int x :: s) h := rf_pure (i := .iload_n 3) (len := 1) (okD_ok (by decide +kernel)) rfl
theorem e281_56 (q : ia n a j) : rf d 281 56 ls (.int j :: .ref a :: s) (SH n, I, L, R, nc, ns, nx) = rf d 281 57 ls (.int (I a j.toNatClampNeg) :: s) (SH n, I, L, R, nc, ns, nx) := g_ial (by decide +kernel) q
theorem e281_57 (hn : ip_nl l2 = true) : rf d 281 57 [l0, l1, l2, l3, l4] (.int x :: s) h = rf d 281 58 [l0, l1, l2, some (.int x), l4] s h := g_sti (i := .istore_n 3) (len := 1) (q := 2) (p := 1) (by decide +kernel) rfl rfl hn
theorem e281_58 : rf d 281 58 ls s h = rf d 281 39 ls s h := rf_goto ⟨okD_ok (i := .goto (-19)) (len := 3) (by decide +kernel), rfl⟩
theorem e281_61 : rf d 281 61 [some (.ref a), l1, l2, l3, l4] s h = rf d 281 62 [some (.ref a), l1, l2, l3, l4] (.ref a :: s) h := rf_pure (i := .aload_n 0) (len := 1) (okD_ok (by decide +kernel)) rfl
theorem e281_62 (hR : LYR R) : rf d 281 62 ls (.ref 265 :: s) (SH n, I, L, R, nc, ns, nx) = rf d 281 65 ls (.ref 290 :: s) (SH n, I, L, R, nc, ns, nx) := g_R (idx := 88) (by decide +kernel) ow281 f_8_88 rfl rfl (by decide) (ly_265_40 hR)
theorem e281_65 : rf d 281 65 [l0, l1, l2, l3, some (.int x)] s h = rf d 281 67 [l0, l1, l2, l3, some (.int x)] (.int x :: s) h := rf_pure (i := .iload 4) (len := 2) (okD_ok (by decide +kernel)) rfl
theorem e281_67 (q : ia n a j) : rf d 281 67 ls (.int j :: .ref a :: s) (SH n, I, L, R, nc, ns, nx) = rf d 281 68 ls (.int (I a j.toNatClampNeg) :: s) (SH n, I, L, R, nc, ns, nx) := g_ial (by decide +kernel) q
theorem e281_68 (hn : ip_nl l3 = true) : rf d 281 68 [l0, l1, l2, l3, l4] (.int x :: s) h = rf d 281 70 [l0, l1, l2, l3, some (.int x)] s h := g_sti (i := .istore 4) (len := 2) (q := 3) (p := 2) (by decide +kernel) rfl rfl hn
theorem e281_70 : rf d 281 70 ls s h = rf d 281 39 ls s h := rf_goto ⟨okD_ok (i := .goto (-31)) (len := 3) (by decide +kernel), rfl⟩
theorem e281_73 : rf d 281 73 [l0, l1, l2, some (.int x), l4] s h = rf d 281 74 [l0, l1, l2, some (.int x), l4] (.int x :: s) h := rf_pure (i := .iload_n 3) (len := 1) (okD_ok (by decide +kernel)) rfl
theorem e281_74 : rf d 281 74 ls [.int x] h = some (.inl (some (.int x)), h) := g_ri (by decide +kernel) rt281
theorem en282 : cf d 282 [.ref a, .int x0, .int x1] h = rf d 282 0 [some (.ref a), some (.int x0), some (.int x1), none, none] [] h := rfl
theorem e282_0 : rf d 282 0 [some (.ref a), l1, l2, l3, l4] s h = rf d 282 1 [some (.ref a), l1, l2, l3, l4] (.ref a :: s) h := rf_pure (i := .aload_n 0) (len := 1) (okD_ok (by decide +kernel)) rfl
theorem e282_1 : rf d 282 1 [some (.ref a), l1, l2, l3, l4] s h = rf d 282 2 [some (.ref a), l1, l2, l3, l4] (.ref a :: s) h := rf_pure (i := .aload_n 0) (len := 1) (okD_ok (by decide +kernel)) rfl
theorem e282_2 : rf d 282 2 [l0, some (.int x), l2, l3, l4] s h = rf d 282 3 [l0, some (.int x), l2, l3, l4] (.int x :: s) h := rf_pure (i := .iload_n 1) (len := 1) (okD_ok (by decide +kernel)) rfl
theorem e282_3 (hcat : ip_cat s ≤ 8) : rf (d + 1) 282 3 ls (.int x0 :: .ref 265 :: s) (SH n, I, L, R, nc, ns, nx) = rf_k (d + 1) 282 3 ls s (cf d 244 [.ref 265, .int x0] (SH n, I, L, R, nc, ns, nx)) := g_cv (idx := 401) (t := 8) [.int x0] (by decide +kernel) ow282 ms_8_401 mt_8_401 cy244_8 rfl rfl mL244 rfl rfl (by decide) hcat
theorem e282_6 : rf d 282 6 ls (.int x :: s) h = if x = 0 then rf d 282 13 ls s h else rf d 282 9 ls s h := g_if (c := .eq) (off := 7) _ (by decide +kernel) rfl cmp_d
theorem e282_9 : rf d 282 9 ls s h = rf d 282 10 ls (.int 0 :: s) h := rf_pure (i := .iconst (0)) (len := 1) (okD_ok (by decide +kernel)) rfl
theorem e282_10 : rf d 282 10 ls s h = rf d 282 14 ls s h := rf_goto ⟨okD_ok (i := .goto (4)) (len := 3) (by decide +kernel), rfl⟩
theorem e282_13 : rf d 282 13 ls s h = rf d 282 14 ls (.int 1 :: s) h := rf_pure (i := .iconst (1)) (len := 1) (okD_ok (by decide +kernel)) rfl
theorem e282_14 : rf d 282 14 ls (.int x :: .ref 265 :: s) (SH n, I, L, R, nc, ns, nx) = rf d 282 17 ls s (SH n, ip_up I 265 0 x, L, R, nc, ns, nx) := g_pI (idx := 142) (by decide +kernel) ow282 f_8_142 rfl (by decide +kernel) rfl (by decide)
theorem e282_17 : rf d 282 17 [some (.ref a), l1, l2, l3, l4] s h = rf d 282 18 [some (.ref a), l1, l2, l3, l4] (.ref a :: s) h := rf_pure (i := .aload_n 0) (len := 1) (okD_ok (by decide +kernel)) rfl
theorem e282_18 : rf d 282 18 ls (.ref 265 :: s) (SH n, I, L, R, nc, ns, nx) = rf d 282 21 ls (.int (I 265 0) :: s) (SH n, I, L, R, nc, ns, nx) := g_I (idx := 142) (by decide +kernel) ow282 f_8_142 rfl rfl (by decide)
theorem e282_21 : rf d 282 21 ls (.int x :: s) h = if x ≤ 0 then rf d 282 26 ls s h else rf d 282 24 ls s h := g_if (c := .le) (off := 5) _ (by decide +kernel) rfl cmp_d
theorem e282_24 : rf d 282 24 ls s h = rf d 282 25 ls (.int 0 :: s) h := rf_pure (i := .iconst (0)) (len := 1) (okD_ok (by decide +kernel)) rfl
theorem e282_25 : rf d 282 25 ls [.int x] h = some (.inl (some (.int x)), h) := g_ri (by decide +kernel) rt282
theorem e282_26 : rf d 282 26 [l0, l1, some (.int x), l3, l4] s h = rf d 282 27 [l0, l1, some (.int x), l3, l4] (.int x :: s) h := rf_pure (i := .iload_n 2) (len := 1) (okD_ok (by decide +kernel)) rfl
theorem e282_27 (hn : ip_nl l2 = true) : rf d 282 27 [l0, l1, l2, l3, l4] (.int x :: s) h = rf d 282 28 [l0, l1, l2, some (.int x), l4] s h := g_sti (i := .istore_n 3) (len := 1) (q := 2) (p := 1) (by decide +kernel) rfl rfl hn
theorem e282_28 : rf d 282 28 [some (.ref a), l1, l2, l3, l4] s h = rf d 282 29 [some (.ref a), l1, l2, l3, l4] (.ref a :: s) h := rf_pure (i := .aload_n 0) (len := 1) (okD_ok (by decide +kernel)) rfl
theorem e282_29 : rf d 282 29 [l0, some (.int x), l2, l3, l4] s h = rf d 282 30 [l0, some (.int x), l2, l3, l4] (.int x :: s) h := rf_pure (i := .iload_n 1) (len := 1) (okD_ok (by decide +kernel)) rfl
theorem e282_30 : rf d 282 30 ls s h = rf d 282 31 ls (.int 0 :: s) h := rf_pure (i := .iconst (0)) (len := 1) (okD_ok (by decide +kernel)) rfl
theorem e282_31 (hcat : ip_cat s ≤ 8) : rf (d + 1) 282 31 ls (.int x1 :: .int x0 :: .ref 265 :: s) (SH n, I, L, R, nc, ns, nx) = rf_k (d + 1) 282 31 ls s (cf d 262 [.ref 265, .int x0, .int x1] (SH n, I, L, R, nc, ns, nx)) := g_cv (idx := 438) (t := 8) [.int x1, .int x0] (by decide +kernel) ow282 ms_8_438 mt_8_438 cy262_8 rfl rfl mL262 rfl rfl (by decide) hcat
theorem e282_34 (hn : ip_nl l3 = true) : rf d 282 34 [l0, l1, l2, l3, l4] (.int x :: s) h = rf d 282 36 [l0, l1, l2, l3, some (.int x)] s h := g_sti (i := .istore 4) (len := 2) (q := 3) (p := 2) (by decide +kernel) rfl rfl hn
theorem e282_36 : rf d 282 36 [l0, l1, l2, l3, some (.int x)] s h = rf d 282 38 [l0, l1, l2, l3, some (.int x)] (.int x :: s) h := rf_pure (i := .iload 4) (len := 2) (okD_ok (by decide +kernel)) rfl
theorem e282_38 : rf d 282 38 ls s h = rf d 282 39 ls (.int (-1) :: s) h := rf_pure (i := .iconst (-1)) (len := 1) (okD_ok (by decide +kernel)) rfl
theorem e282_39 : rf d 282 39 ls (.int y :: .int x :: s) h = if x = y then rf d 282 68 ls s h else rf d 282 42 ls s h := g_ic (c := .eq) (off := 29) _ (by decide +kernel) rfl cmp_d
theorem e282_42 : rf d 282 42 [l0, l1, some (.int x), l3, l4] s h = rf d 282 43 [l0, l1, some (.int x), l3, l4] (.int x :: s) h := rf_pure (i := .iload_n 2) (len := 1) (okD_ok (by decide +kernel)) rfl
theorem e282_43 : rf d 282 43 ls (.int x :: s) h = if x < 0 then rf d 282 68 ls s h else rf d 282 46 ls s h := g_if (c := .lt) (off := 25) _ (by decide +kernel) rfl cmp_d
theorem e282_46 : rf d 282 46 [l0, l1, l2, some (.int x), l4] s h = rf d 282 47 [l0, l1, l2, some (.int x), l4] (.int x :: s) h := rf_pure (i := .iload_n 3) (len := 1) (okD_ok (by decide +kernel)) rfl
theorem e282_47 : rf d 282 47 ls (.int x :: s) h = if ¬ x = 0 then rf d 282 53 ls s h else rf d 282 50 ls s h := g_if (c := .ne) (off := 6) _ (by decide +kernel) rfl cmp_d
theorem e282_50 : rf d 282 50 [l0, l1, l2, l3, some (.int x)] s h = rf d 282 52 [l0, l1, l2, l3, some (.int x)] (.int x :: s) h := rf_pure (i := .iload 4) (len := 2) (okD_ok (by decide +kernel)) rfl
theorem e282_52 : rf d 282 52 ls [.int x] h = some (.inl (some (.int x)), h) := g_ri (by decide +kernel) rt282
theorem e282_53 (hn : ip_nl l2 = true) : rf d 282 53 [l0, l1, l2, some (.int x), l4] s h = rf d 282 56 [l0, l1, l2, some (.int (x + (-1))), l4] s h := g_inc (q := 2) (z := -1) (w := (-1)) (x := x) (by decide) (by decide +kernel) rfl rfl hn
theorem e282_56 : rf d 282 56 [some (.ref a), l1, l2, l3, l4] s h = rf d 282 57 [some (.ref a), l1, l2, l3, l4] (.ref a :: s) h := rf_pure (i := .aload_n 0) (len := 1) (okD_ok (by decide +kernel)) rfl
theorem e282_57 : rf d 282 57 [l0, some (.int x), l2, l3, l4] s h = rf d 282 58 [l0, some (.int x), l2, l3, l4] (.int x :: s) h := rf_pure (i := .iload_n 1) (len := 1) (okD_ok (by decide +kernel)) rfl
theorem e282_58 : rf d 282 58 [l0, l1, l2, l3, some (.int x)] s h = rf d 282 60 [l0, l1, l2, l3, some (.int x)] (.int x :: s) h := rf_pure (i := .iload 4) (len := 2) (okD_ok (by decide +kernel)) rfl
theorem e282_60 (hcat : ip_cat s ≤ 8) : rf (d + 1) 282 60 ls (.int x1 :: .int x0 :: .ref 265 :: s) (SH n, I, L, R, nc, ns, nx) = rf_k (d + 1) 282 60 ls s (cf d 262 [.ref 265, .int x0, .int x1] (SH n, I, L, R, nc, ns, nx)) := g_cv (idx := 438) (t := 8) [.int x1, .int x0] (by decide +kernel) ow282 ms_8_438 mt_8_438 cy262_8 rfl rfl mL262 rfl rfl (by decide) hcat
theorem e282_63 (hn : ip_nl l3 = true) : rf d 282 63 [l0, l1, l2, l3, l4] (.int x :: s) h = rf d 282 65 [l0, l1, l2, l3, some (.int x)] s h := g_sti (i := .istore 4) (len := 2) (q := 3) (p := 2) (by decide +kernel) rfl rfl hn
theorem e282_65 : rf d 282 65 ls s h = rf d 282 36 ls s h := rf_goto ⟨okD_ok (i := .goto (-29)) (len := 3) (by decide +kernel), rfl⟩
theorem e282_68 : rf d 282 68 ls s h = rf d 282 69 ls (.int (-1) :: s) h := rf_pure (i := .iconst (-1)) (len := 1) (okD_ok (by decide +kernel)) rfl
theorem e282_69 : rf d 282 69 ls [.int x] h = some (.inl (some (.int x)), h) := g_ri (by decide +kernel) rt282
theorem en283 : cf d 283 [.ref a, .int x0] h = rf d 283 0 [some (.ref a), some (.int x0), none, none, none] [] h := rfl
theorem e283_0 : rf d 283 0 [some (.ref a), l1, l2, l3, l4] s h = rf d 283 1 [some (.ref a), l1, l2, l3, l4] (.ref a :: s) h := rf_pure (i := .aload_n 0) (len := 1) (okD_ok (by decide +kernel)) rfl
theorem e283_1 : rf d 283 1 ls s h = rf d 283 2 ls (.int 0 :: s) h := rf_pure (i := .iconst (0)) (len := 1) (okD_ok (by decide +kernel)) rfl
theorem e283_2 : rf d 283 2 ls (.int x :: .ref 265 :: s) (SH n, I, L, R, nc, ns, nx) = rf d 283 5 ls s (SH n, ip_up I 265 0 x, L, R, nc, ns, nx) := g_pI (idx := 142) (by decide +kernel) ow283 f_8_142 rfl (by decide +kernel) rfl (by decide)
theorem e283_5 : rf d 283 5 ls s h = rf d 283 6 ls (.int 0 :: s) h := rf_pure (i := .iconst (0)) (len := 1) (okD_ok (by decide +kernel)) rfl
theorem e283_6 (hn : ip_nl l1 = true) : rf d 283 6 [l0, l1, l2, l3, l4] (.int x :: s) h = rf d 283 7 [l0, l1, some (.int x), l3, l4] s h := g_sti (i := .istore_n 2) (len := 1) (q := 1) (p := 1) (by decide +kernel) rfl rfl hn
theorem e283_7 : rf d 283 7 ls s h = rf d 283 8 ls (.int 0 :: s) h := rf_pure (i := .iconst (0)) (len := 1) (okD_ok (by decide +kernel)) rfl
theorem e283_8 (hn : ip_nl l2 = true) : rf d 283 8 [l0, l1, l2, l3, l4] (.int x :: s) h = rf d 283 9 [l0, l1, l2, some (.int x), l4] s h := g_sti (i := .istore_n 3) (len := 1) (q := 2) (p := 1) (by decide +kernel) rfl rfl hn
theorem e283_9 : rf d 283 9 ls s h = rf d 283 10 ls (.int 0 :: s) h := rf_pure (i := .iconst (0)) (len := 1) (okD_ok (by decide +kernel)) rfl
theorem e283_10 (hn : ip_nl l3 = true) : rf d 283 10 [l0, l1, l2, l3, l4] (.int x :: s) h = rf d 283 12 [l0, l1, l2, l3, some (.int x)] s h := g_sti (i := .istore 4) (len := 2) (q := 3) (p := 2) (by decide +kernel) rfl rfl hn
theorem e283_12 : rf d 283 12 [l0, l1, l2, l3, some (.int x)] s h = rf d 283 14 [l0, l1, l2, l3, some (.int x)] (.int x :: s) h := rf_pure (i := .iload 4) (len := 2) (okD_ok (by decide +kernel)) rfl
theorem e283_14 : rf d 283 14 [some (.ref a), l1, l2, l3, l4] s h = rf d 283 15 [some (.ref a), l1, l2, l3, l4] (.ref a :: s) h := rf_pure (i := .aload_n 0) (len := 1) (okD_ok (by decide +kernel)) rfl
theorem e283_15 : rf d 283 15 ls (.ref 265 :: s) (SH n, I, L, R, nc, ns, nx) = rf d 283 18 ls (.int (I 265 37) :: s) (SH n, I, L, R, nc, ns, nx) := g_I (idx := 303) (by decide +kernel) ow283 f_8_303 rfl rfl (by decide)
theorem e283_18 : rf d 283 18 ls (.int y :: .int x :: s) h = if y ≤ x then rf d 283 76 ls s h else rf d 283 21 ls s h := g_ic (c := .ge) (off := 58) _ (by decide +kernel) rfl cmp_d
theorem e283_21 : rf d 283 21 [l0, l1, some (.int x), l3, l4] s h = rf d 283 22 [l0, l1, some (.int x), l3, l4] (.int x :: s) h := rf_pure (i := .iload_n 2) (len := 1) (okD_ok (by decide +kernel)) rfl
theorem e283_22 : rf d 283 22 [some (.ref a), l1, l2, l3, l4] s h = rf d 283 23 [some (.ref a), l1, l2, l3, l4] (.ref a :: s) h := rf_pure (i := .aload_n 0) (len := 1) (okD_ok (by decide +kernel)) rfl
theorem e283_23 (hR : LYR R) : rf d 283 23 ls (.ref 265 :: s) (SH n, I, L, R, nc, ns, nx) = rf d 283 26 ls (.ref 289 :: s) (SH n, I, L, R, nc, ns, nx) := g_R (idx := 85) (by decide +kernel) ow283 f_8_85 rfl rfl (by decide) (ly_265_39 hR)
theorem e283_26 : rf d 283 26 [l0, l1, l2, l3, some (.int x)] s h = rf d 283 28 [l0, l1, l2, l3, some (.int x)] (.int x :: s) h := rf_pure (i := .iload 4) (len := 2) (okD_ok (by decide +kernel)) rfl
theorem e283_28 (q : ia n a j) : rf d 283 28 ls (.int j :: .ref a :: s) (SH n, I, L, R, nc, ns, nx) = rf d 283 29 ls (.int (I a j.toNatClampNeg) :: s) (SH n, I, L, R, nc, ns, nx) := g_ial (by decide +kernel) q
theorem e283_29 : rf d 283 29 ls (.int x :: s) h = if ¬ x = 0 then rf d 283 36 ls s h else rf d 283 32 ls s h := g_if (c := .ne) (off := 7) _ (by decide +kernel) rfl cmp_d
theorem e283_32 : rf d 283 32 ls s h = rf d 283 33 ls (.int 1 :: s) h := rf_pure (i := .iconst (1)) (len := 1) (okD_ok (by decide +kernel)) rfl
theorem e283_33 : rf d 283 33 ls s h = rf d 283 37 ls s h := rf_goto ⟨okD_ok (i := .goto (4)) (len := 3) (by decide +kernel), rfl⟩
theorem e283_36 : rf d 283 36 ls s h = rf d 283 37 ls (.int 0 :: s) h := rf_pure (i := .iconst (0)) (len := 1) (okD_ok (by decide +kernel)) rfl
theorem e283_37 : rf d 283 37 ls (.int y :: .int x :: s) h = rf d 283 38 ls (.int (x + y) :: s) h := rf_pure (i := .iadd) (len := 1) (okD_ok (by decide +kernel)) rfl
theorem e283_38 (hn : ip_nl l1 = true) : rf d 283 38 [l0, l1, l2, l3, l4] (.int x :: s) h = rf d 283 39 [l0, l1, some (.int x), l3, l4] s h := g_sti (i := .istore_n 2) (len := 1) (q := 1) (p := 1) (by decide +kernel) rfl rfl hn
theorem e283_39 : rf d 283 39 [l0, l1, l2, some (.int x), l4] s h = rf d 283 40 [l0, l1, l2, some (.int x), l4] (.int x :: s) h := rf_pure (i := .iload_n 3) (len := 1) (okD_ok (by decide +kernel)) rfl
theorem e283_40 : rf d 283 40 [some (.ref a), l1, l2, l3, l4] s h = rf d 283 41 [some (.ref a), l1, l2, l3, l4] (.ref a :: s) h := rf_pure (i := .aload_n 0) (len := 1) (okD_ok (by decide +kernel)) rfl
theorem e283_41 (hR : LYR R) : rf d 283 41 ls (.ref 265 :: s) (SH n, I, L, R, nc, ns, nx) = rf d 283 44 ls (.ref 289 :: s) (SH n, I, L, R, nc, ns, nx) := g_R (idx := 85) (by decide +kernel) ow283 f_8_85 rfl rfl (by decide) (ly_265_39 hR)
theorem e283_44 : rf d 283 44 [l0, l1, l2, l3, some (.int x)] s h = rf d 283 46 [l0, l1, l2, l3, some (.int x)] (.int x :: s) h := rf_pure (i := .iload 4) (len := 2) (okD_ok (by decide +kernel)) rfl
theorem e283_46 (q : ia n a j) : rf d 283 46 ls (.int j :: .ref a :: s) (SH n, I, L, R, nc, ns, nx) = rf d 283 47 ls (.int (I a j.toNatClampNeg) :: s) (SH n, I, L, R, nc, ns, nx) := g_ial (by decide +kernel) q
theorem e283_47 : rf d 283 47 ls (.int x :: s) h = if x = 0 then rf d 283 67 ls s h else rf d 283 50 ls s h := g_if (c := .eq) (off := 20) _ (by decide +kernel) rfl cmp_d
theorem e283_50 : rf d 283 50 [some (.ref a), l1, l2, l3, l4] s h = rf d 283 51 [some (.ref a), l1, l2, l3, l4] (.ref a :: s) h := rf_pure (i := .aload_n 0) (len := 1) (okD_ok (by decide +kernel)) rfl
theorem e283_51 (hR : LYR R) : rf d 283 51 ls (.ref 265 :: s) (SH n, I, L, R, nc, ns, nx) = rf d 283 54 ls (.ref 291 :: s) (SH n, I, L, R, nc, ns, nx) := g_R (idx := 91) (by decide +kernel) ow283 f_8_91 rfl rfl (by decide) (ly_265_41 hR)
theorem e283_54 : rf d 283 54 [l0, l1, l2, l3, some (.int x)] s h = rf d 283 56 [l0, l1, l2, l3, some (.int x)] (.int x :: s) h := rf_pure (i := .iload 4) (len := 2) (okD_ok (by decide +kernel)) rfl
theorem e283_56 (q : ia n a j) : rf d 283 56 ls (.int j :: .ref a :: s) (SH n, I, L, R, nc, ns, nx) = rf d 283 57 ls (.int (I a j.toNatClampNeg) :: s) (SH n, I, L, R, nc, ns, nx) := g_ial (by decide +kernel) q
theorem e283_57 : rf d 283 57 [l0, some (.int x), l2, l3, l4] s h = rf d 283 58 [l0, some (.int x), l2, l3, l4] (.int x :: s) h := rf_pure (i := .iload_n 1) (len := 1) (okD_ok (by decide +kernel)) rfl
theorem e283_58 : rf d 283 58 ls s h = rf d 283 59 ls (.int 5 :: s) h := rf_pure (i := .iconst (5)) (len := 1) (okD_ok (by decide +kernel)) rfl
theorem e283_59 : rf d 283 59 ls (.int y :: .int x :: s) h = rf d 283 60 ls (.int (x - y) :: s) h := rf_pure (i := .isub) (len := 1) (okD_ok (by decide +kernel)) rfl
theorem e283_60 : rf d 283 60 ls (.int y :: .int x :: s) h = if ¬ x = y then rf d 283 67 ls s h else rf d 283 63 ls s h := g_ic (c := .ne) (off := 7) _ (by decide +kernel) rfl cmp_d
theorem e283_63 : rf d 283 63 ls s h = rf d 283 64 ls (.int 1 :: s) h := rf_pure (i := .iconst (1)) (len := 1) (okD_ok (by decide +kernel)) rfl
theorem e283_64 : rf d 283 64 ls s h = rf d 283 68 ls s h := rf_goto ⟨okD_ok (i := .goto (4)) (len := 3) (by decide +kernel), rfl⟩
theorem e283_67 : rf d 283 67 ls s h = rf d 283 68 ls (.int 0 :: s) h := rf_pure (i := .iconst (0)) (len := 1) (okD_ok (by decide +kernel)) rfl
theorem e283_68 : rf d 283 68 ls (.int y :: .int x :: s) h = rf d 283 69 ls (.int (x + y) :: s) h := rf_pure (i := .iadd) (len := 1) (okD_ok (by decide +kernel)) rfl
theorem e283_69 (hn : ip_nl l2 = true) : rf d 283 69 [l0, l1, l2, l3, l4] (.int x :: s) h = rf d 283 70 [l0, l1, l2, some (.int x), l4] s h := g_sti (i := .istore_n 3) (len := 1) (q := 2) (p := 1) (by decide +kernel) rfl rfl hn
theorem e283_70 (hn : ip_nl l3 = true) : rf d 283 70 [l0, l1, l2, l3, some (.int x)] s h = rf d 283 73 [l0, l1, l2, l3, some (.int (x + 1))] s h := g_inc (q := 3) (z := 1) (w := 1) (x := x) (by decide) (by decide +kernel) rfl rfl hn
theorem e283_73 : rf d 283 73 ls s h = rf d 283 12 ls s h := rf_goto ⟨okD_ok (i := .goto (-61)) (len := 3) (by decide +kernel), rfl⟩
theorem e283_76 : rf d 283 76 [l0, some (.int x), l2, l3, l4] s h = rf d 283 77 [l0, some (.int x), l2, l3, l4] (.int x :: s) h := rf_pure (i := .iload_n 1) (len := 1) (okD_ok (by decide +kernel)) rfl
theorem e283_136 : rf d 283 136 [some (.ref a), l1, l2, l3, l4] s h = rf d 283 137 [some (.ref a), l1, l2, l3, l4] (.ref a :: s) h := rf_pure (i := .aload_n 0) (len := 1) (okD_ok (by decide +kernel)) rfl
theorem e283_137 : rf d 283 137 ls (.ref 265 :: s) (SH n, I, L, R, nc, ns, nx) = rf d 283 140 ls (.int (I 265 17) :: s) (SH n, I, L, R, nc, ns, nx) := g_I (idx := 291) (by decide +kernel) ow283 f_8_291 rfl rfl (by decide)
theorem e283_140 : rf d 283 140 ls [.int x] h = some (.inl (some (.int x)), h) := g_ri (by decide +kernel) rt283
theorem e283_141 : rf d 283 141 [some (.ref a), l1, l2, l3, l4] s h = rf d 283 142 [some (.ref a), l1, l2, l3, l4] (.ref a :: s) h := rf_pure (i := .aload_n 0) (len := 1) (okD_ok (by decide +kernel)) rfl
theorem e283_142 : rf d 283 142 ls (.ref 265 :: s) (SH n, I, L, R, nc, ns, nx) = rf d 283 145 ls (.int (I 265 37) :: s) (SH n, I, L, R, nc, ns, nx) := g_I (idx := 303) (by decide +kernel) ow283 f_8_303 rfl rfl (by decide)
theorem e283_145 : rf d 283 145 ls [.int x] h = some (.inl (some (.int x)), h) := g_ri (by decide +kernel) rt283
theorem e283_146 : rf d 283 146 [some (.ref a), l1, l2, l3, l4] s h = rf d 283 147 [some (.ref a), l1, l2, l3, l4] (.ref a :: s) h := rf_pure (i := .aload_n 0) (len := 1) (okD_ok (by decide +kernel)) rfl
theorem e283_147 : rf d 283 147 ls (.ref 265 :: s) (SH n, I, L, R, nc, ns, nx) = rf d 283 150 ls (.int (I 265 38) :: s) (SH n, I, L, R, nc, ns, nx) := g_I (idx := 306) (by decide +kernel) ow283 f_8_306 rfl rfl (by decide)
theorem e283_150 : rf d 283 150 ls [.int x] h = some (.inl (some (.int x)), h) := g_ri (by decide +kernel) rt283
theorem e283_151 : rf d 283 151 [l0, l1, some (.int x), l3, l4] s h = rf d 283 152 [l0, l1, some (.int x), l3, l4] (.int x :: s) h := rf_pure (i := .iload_n 2) (len := 1) (okD_ok (by decide +kernel)) rfl
theorem e283_152 : rf d 283 152 ls [.int x] h = some (.inl (some (.int x)), h) := g_ri (by decide +kernel) rt283
theorem e283_153 : rf d 283 153 [some (.ref a), l1, l2, l3, l4] s h = rf d 283 154 [some (.ref a), l1, l2, l3, l4] (.ref a :: s) h := rf_pure (i := .aload_n 0) (len := 1) (okD_ok (by decide +kernel)) rfl
theorem e283_154 : rf d 283 154 ls (.ref 265 :: s) (SH n, I, L, R, nc, ns, nx) = rf d 283 157 ls (.int (I 265 37) :: s) (SH n, I, L, R, nc, ns, nx) := g_I (idx := 303) (by decide +kernel) ow283 f_8_303 rfl rfl (by decide)
theorem e283_157 : rf d 283 157 [l0, l1, some (.int x), l3, l4] s h = rf d 283 158 [l0, l1, some (.int x), l3, l4] (.int x :: s) h := rf_pure (i := .iload_n 2) (len := 1) (okD_ok (by decide +kernel)) rfl
theorem e283_158 : rf d 283 158 ls (.int y :: .int x :: s) h = rf d 283 159 ls (.int (x - y) :: s) h := rf_pure (i := .isub) (len := 1) (okD_ok (by decide +kernel)) rfl
theorem e283_159 : rf d 283 159 ls [.int x] h = some (.inl (some (.int x)), h) := g_ri (by decide +kernel) rt283
theorem e283_160 : rf d 283 160 [l0, l1, l2, some (.int x), l4] s h = rf d 283 161 [l0, l1, l2, some (.int x), l4] (.int x :: s) h := rf_pure (i := .iload_n 3) (len := 1) (okD_ok (by decide +kernel)) rfl
theorem e283_161 : rf d 283 161 ls [.int x] h = some (.inl (some (.int x)), h) := g_ri (by decide +kernel) rt283
theorem e283_162 : rf d 283 162 [l0, l1, l2, some (.int x), l4] s h = rf d 283 163 [l0, l1, l2, some (.int x), l4] (.int x :: s) h := rf_pure (i := .iload_n 3) (len := 1) (okD_ok (by decide +kernel)) rfl
theorem e283_163 : rf d 283 163 ls [.int x] h = some (.inl (some (.int x)), h) := g_ri (by decide +kernel) rt283
theorem e283_164 : rf d 283 164 [l0, l1, l2, some (.int x), l4] s h = rf d 283 165 [l0, l1, l2, some (.int x), l4] (.int x :: s) h := rf_pure (i := .iload_n 3) (len := 1) (okD_ok (by decide +kernel)) rfl
theorem e283_165 : rf d 283 165 ls [.int x] h = some (.inl (some (.int x)), h) := g_ri (by decide +kernel) rt283
theorem e283_166 : rf d 283 166 [l0, l1, l2, some (.int x), l4] s h = rf d 283 167 [l0, l1, l2, some (.int x), l4] (.int x :: s) h := rf_pure (i := .iload_n 3) (len := 1) (okD_ok (by decide +kernel)) rfl
theorem e283_167 : rf d 283 167 ls [.int x] h = some (.inl (some (.int x)), h) := g_ri (by decide +kernel) rt283
theorem e283_168 : rf d 283 168 [some (.ref a), l1, l2, l3, l4] s h = rf d 283 169 [some (.ref a), l1, l2, l3, l4] (.ref a :: s) h := rf_pure (i := .aload_n 0) (len := 1) (okD_ok (by decide +kernel)) rfl
theorem e283_169 : rf d 283 169 ls (.ref 265 :: s) (SH n, I, L, R, nc, ns, nx) = rf d 283 172 ls (.int (I 265 18) :: s) (SH n, I, L, R, nc, ns, nx) := g_I (idx := 294) (by decide +kernel) ow283 f_8_294 rfl rfl (by decide)
theorem e283_172 : rf d 283 172 ls [.int x] h = some (.inl (some (.int x)), h) := g_ri (by decide +kernel) rt283
theorem e283_173 : rf d 283 173 [some (.ref a), l1, l2, l3, l4] s h = rf d 283 174 [some (.ref a), l1, l2, l3, l4] (.ref a :: s) h := rf_pure (i := .aload_n 0) (len := 1) (okD_ok (by decide +kernel)) rfl
theorem e283_174 : rf d 283 174 ls (.ref 265 :: s) (SH n, I, L, R, nc, ns, nx) = rf d 283 177 ls (.int (I 265 70) :: s) (SH n, I, L, R, nc, ns, nx) := g_I (idx := 444) (by decide +kernel) ow283 f_8_444 rfl rfl (by decide)
theorem e283_177 : rf d 283 177 ls [.int x] h = some (.inl (some (.int x)), h) := g_ri (by decide +kernel) rt283
theorem e283_178 : rf d 283 178 ls s h = rf d 283 179 ls (.int (-1) :: s) h := rf_pure (i := .iconst (-1)) (len := 1) (okD_ok (by decide +kernel)) rfl
theorem e283_179 : rf d 283 179 ls [.int x] h = some (.inl (some (.int x)), h) := g_ri (by decide +kernel) rt283
end S10
