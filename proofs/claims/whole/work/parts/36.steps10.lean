/-! STEPS, 10 (printed by wip/whole/gen_steps.py) -/
section S10
variable {n d a b t : Nat} {l0 l1 l2 l3 l4 l5 l6 l7 l8 l9 l10 l11 l12 l13 : Option Value} {ls : List (Option Value)} {s : List Value} {h : ip_H} {I : Nat → Nat → Int32} {L : Nat → Nat → Int64} {R : Nat → Nat → Option Nat} {nc ns : Nat} {nx : Bool} {x y j z sp dp x0 x1 x2 x3 x4 x5 : Int32} {u v u0 u1 u2 u3 : Int64} {a0 a1 a2 a3 a4 : Nat}
theorem en270 : cf d 270 [.ref a] h = rf d 270 0 [some (.ref a), none, none, none, none, none, none] [] h := rfl
theorem e270_0 : rf d 270 0 [some (.ref a), l1, l2, l3, l4, l5, l6] s h = rf d 270 1 [some (.ref a), l1, l2, l3, l4, l5, l6] (.ref a :: s) h := rf_pure (i := .aload_n 0) (len := 1) (okD_ok (by decide +kernel)) rfl
theorem e270_1 : rf d 270 1 ls s h = rf d 270 2 ls (.int 0 :: s) h := rf_pure (i := .iconst (0)) (len := 1) (okD_ok (by decide +kernel)) rfl
theorem e270_2 : rf d 270 2 ls (.int x :: .ref 265 :: s) (SH n, I, L, R, nc, ns, nx) = rf d 270 5 ls s (SH n, ip_up I 265 0 x, L, R, nc, ns, nx) := g_pI (idx := 142) (by decide +kernel) ow270 f_8_142 rfl (by decide +kernel) rfl (by decide)
theorem e270_5 : rf d 270 5 ls s h = rf d 270 6 ls (.int 0 :: s) h := rf_pure (i := .iconst (0)) (len := 1) (okD_ok (by decide +kernel)) rfl
theorem e270_6 (hn : ip_nl l0 = true) : rf d 270 6 [l0, l1, l2, l3, l4, l5, l6] (.int x :: s) h = rf d 270 7 [l0, some (.int x), l2, l3, l4, l5, l6] s h := g_sti (i := .istore_n 1) (len := 1) (q := 0) (p := 1) (by decide +kernel) rfl rfl hn
theorem e270_7 : rf d 270 7 ls s h = rf d 270 8 ls (.int 0 :: s) h := rf_pure (i := .iconst (0)) (len := 1) (okD_ok (by decide +kernel)) rfl
theorem e270_8 (hn : ip_nl l1 = true) : rf d 270 8 [l0, l1, l2, l3, l4, l5, l6] (.int x :: s) h = rf d 270 9 [l0, l1, some (.int x), l3, l4, l5, l6] s h := g_sti (i := .istore_n 2) (len := 1) (q := 1) (p := 1) (by decide +kernel) rfl rfl hn
theorem e270_9 : rf d 270 9 [l0, l1, some (.int x), l3, l4, l5, l6] s h = rf d 270 10 [l0, l1, some (.int x), l3, l4, l5, l6] (.int x :: s) h := rf_pure (i := .iload_n 2) (len := 1) (okD_ok (by decide +kernel)) rfl
theorem e270_10 : rf d 270 10 [some (.ref a), l1, l2, l3, l4, l5, l6] s h = rf d 270 11 [some (.ref a), l1, l2, l3, l4, l5, l6] (.ref a :: s) h := rf_pure (i := .aload_n 0) (len := 1) (okD_ok (by decide +kernel)) rfl
theorem e270_11 : rf d 270 11 ls (.ref 265 :: s) (SH n, I, L, R, nc, ns, nx) = rf d 270 14 ls (.int (I 265 17) :: s) (SH n, I, L, R, nc, ns, nx) := g_I (idx := 291) (by decide +kernel) ow270 f_8_291 rfl rfl (by decide)
theorem e270_14 : rf d 270 14 ls (.int y :: .int x :: s) h = if y ≤ x then rf d 270 182 ls s h else rf d 270 17 ls s h := g_ic (c := .ge) (off := 168) _ (by decide +kernel) rfl cmp_d
theorem e270_17 : rf d 270 17 [some (.ref a), l1, l2, l3, l4, l5, l6] s h = rf d 270 18 [some (.ref a), l1, l2, l3, l4, l5, l6] (.ref a :: s) h := rf_pure (i := .aload_n 0) (len := 1) (okD_ok (by decide +kernel)) rfl
theorem e270_18 (hR : LYR R) : rf d 270 18 ls (.ref 265 :: s) (SH n, I, L, R, nc, ns, nx) = rf d 270 21 ls (.ref 293 :: s) (SH n, I, L, R, nc, ns, nx) := g_R (idx := 97) (by decide +kernel) ow270 f_8_97 rfl rfl (by decide) (ly_265_43 hR)
theorem e270_21 : rf d 270 21 [some (.ref a), l1, l2, l3, l4, l5, l6] s h = rf d 270 22 [some (.ref a), l1, l2, l3, l4, l5, l6] (.ref a :: s) h := rf_pure (i := .aload_n 0) (len := 1) (okD_ok (by decide +kernel)) rfl
theorem e270_22 : rf d 270 22 ls (.ref 265 :: s) (SH n, I, L, R, nc, ns, nx) = rf d 270 25 ls (.int (I 265 38) :: s) (SH n, I, L, R, nc, ns, nx) := g_I (idx := 306) (by decide +kernel) ow270 f_8_306 rfl rfl (by decide)
theorem e270_25 (q : ia n a j) : rf d 270 25 ls (.int j :: .ref a :: s) (SH n, I, L, R, nc, ns, nx) = rf d 270 26 ls (.int (I a j.toNatClampNeg) :: s) (SH n, I, L, R, nc, ns, nx) := g_ial (by decide +kernel) q
theorem e270_26 : rf d 270 26 [l0, l1, some (.int x), l3, l4, l5, l6] s h = rf d 270 27 [l0, l1, some (.int x), l3, l4, l5, l6] (.int x :: s) h := rf_pure (i := .iload_n 2) (len := 1) (okD_ok (by decide +kernel)) rfl
theorem e270_27 (hcat : ip_cat s ≤ 8) : rf (d + 1) 270 27 ls (.int x1 :: .int x0 :: s) h = rf_k (d + 1) 270 27 ls s (cf d 186 [.int x0, .int x1] h) := g_cs (idx := 234) [.int x1, .int x0] (by decide +kernel) ow270 ms_8_234 mt_8_234 (by decide) rfl mL186 rfl hcat
theorem e270_30 : rf d 270 30 ls (.int x :: s) h = if ¬ x = 0 then rf d 270 36 ls s h else rf d 270 33 ls s h := g_if (c := .ne) (off := 6) _ (by decide +kernel) rfl cmp_d
theorem e270_33 : rf d 270 33 ls s h = rf d 270 176 ls s h := rf_goto ⟨okD_ok (i := .goto (143)) (len := 3) (by decide +kernel), rfl⟩
theorem e270_36 : rf d 270 36 [some (.ref a), l1, l2, l3, l4, l5, l6] s h = rf d 270 37 [some (.ref a), l1, l2, l3, l4, l5, l6] (.ref a :: s) h := rf_pure (i := .aload_n 0) (len := 1) (okD_ok (by decide +kernel)) rfl
theorem e270_37 (hR : LYR R) : rf d 270 37 ls (.ref 265 :: s) (SH n, I, L, R, nc, ns, nx) = rf d 270 40 ls (.ref 293 :: s) (SH n, I, L, R, nc, ns, nx) := g_R (idx := 97) (by decide +kernel) ow270 f_8_97 rfl rfl (by decide) (ly_265_43 hR)
theorem e270_40 : rf d 270 40 [some (.ref a), l1, l2, l3, l4, l5, l6] s h = rf d 270 41 [some (.ref a), l1, l2, l3, l4, l5, l6] (.ref a :: s) h := rf_pure (i := .aload_n 0) (len := 1) (okD_ok (by decide +kernel)) rfl
theorem e270_41 : rf d 270 41 ls (.ref 265 :: s) (SH n, I, L, R, nc, ns, nx) = rf d 270 44 ls (.int (I 265 38) :: s) (SH n, I, L, R, nc, ns, nx) := g_I (idx := 306) (by decide +kernel) ow270 f_8_306 rfl rfl (by decide)
theorem e270_44 (q : ia n a j) : rf d 270 44 ls (.int j :: .ref a :: s) (SH n, I, L, R, nc, ns, nx) = rf d 270 45 ls (.int (I a j.toNatClampNeg) :: s) (SH n, I, L, R, nc, ns, nx) := g_ial (by decide +kernel) q
theorem e270_45 : rf d 270 45 ls s h = rf d 270 46 ls (.int 1 :: s) h := rf_pure (i := .iconst (1)) (len := 1) (okD_ok (by decide +kernel)) rfl
theorem e270_46 : rf d 270 46 [l0, l1, some (.int x), l3, l4, l5, l6] s h = rf d 270 47 [l0, l1, some (.int x), l3, l4, l5, l6] (.int x :: s) h := rf_pure (i := .iload_n 2) (len := 1) (okD_ok (by decide +kernel)) rfl
theorem e270_47 : rf d 270 47 ls (.int y :: .int x :: s) h = rf d 270 48 ls (.int (x <<< (y &&& 31)) :: s) h := rf_pure (i := .ishl) (len := 1) (okD_ok (by decide +kernel)) rfl
theorem e270_48 : rf d 270 48 ls s h = rf d 270 49 ls (.int (-1) :: s) h := rf_pure (i := .iconst (-1)) (len := 1) (okD_ok (by decide +kernel)) rfl
theorem e270_49 : rf d 270 49 ls (.int y :: .int x :: s) h = rf d 270 50 ls (.int (x ^^^ y) :: s) h := rf_pure (i := .ixor) (len := 1) (okD_ok (by decide +kernel)) rfl
theorem e270_50 : rf d 270 50 ls (.int y :: .int x :: s) h = rf d 270 51 ls (.int (x &&& y) :: s) h := rf_pure (i := .iand) (len := 1) (okD_ok (by decide +kernel)) rfl
theorem e270_51 (hn : ip_nl l2 = true) : rf d 270 51 [l0, l1, l2, l3, l4, l5, l6] (.int x :: s) h = rf d 270 52 [l0, l1, l2, some (.int x), l4, l5, l6] s h := g_sti (i := .istore_n 3) (len := 1) (q := 2) (p := 1) (by decide +kernel) rfl rfl hn
theorem e270_52 : rf d 270 52 [some (.ref a), l1, l2, l3, l4, l5, l6] s h = rf d 270 53 [some (.ref a), l1, l2, l3, l4, l5, l6] (.ref a :: s) h := rf_pure (i := .aload_n 0) (len := 1) (okD_ok (by decide +kernel)) rfl
theorem e270_53 (hR : LYR R) : rf d 270 53 ls (.ref 265 :: s) (SH n, I, L, R, nc, ns, nx) = rf d 270 56 ls (.ref 296 :: s) (SH n, I, L, R, nc, ns, nx) := g_R (idx := 106) (by decide +kernel) ow270 f_8_106 rfl rfl (by decide) (ly_265_46 hR)
theorem e270_56 : rf d 270 56 [some (.ref a), l1, l2, l3, l4, l5, l6] s h = rf d 270 57 [some (.ref a), l1, l2, l3, l4, l5, l6] (.ref a :: s) h := rf_pure (i := .aload_n 0) (len := 1) (okD_ok (by decide +kernel)) rfl
theorem e270_57 : rf d 270 57 ls (.ref 265 :: s) (SH n, I, L, R, nc, ns, nx) = rf d 270 60 ls (.int (I 265 38) :: s) (SH n, I, L, R, nc, ns, nx) := g_I (idx := 306) (by decide +kernel) ow270 f_8_306 rfl rfl (by decide)
theorem e270_60 (q : ia n a j) : rf d 270 60 ls (.int j :: .ref a :: s) (SH n, I, L, R, nc, ns, nx) = rf d 270 61 ls (.int (I a j.toNatClampNeg) :: s) (SH n, I, L, R, nc, ns, nx) := g_ial (by decide +kernel) q
theorem e270_61 : rf d 270 61 [some (.ref a), l1, l2, l3, l4, l5, l6] s h = rf d 270 62 [some (.ref a), l1, l2, l3, l4, l5, l6] (.ref a :: s) h := rf_pure (i := .aload_n 0) (len := 1) (okD_ok (by decide +kernel)) rfl
theorem e270_62 (hR : LYR R) : rf d 270 62 ls (.ref 265 :: s) (SH n, I, L, R, nc, ns, nx) = rf d 270 65 ls (.ref 293 :: s) (SH n, I, L, R, nc, ns, nx) := g_R (idx := 97) (by decide +kernel) ow270 f_8_97 rfl rfl (by decide) (ly_265_43 hR)
theorem e270_65 : rf d 270 65 [some (.ref a), l1, l2, l3, l4, l5, l6] s h = rf d 270 66 [some (.ref a), l1, l2, l3, l4, l5, l6] (.ref a :: s) h := rf_pure (i := .aload_n 0) (len := 1) (okD_ok (by decide +kernel)) rfl
theorem e270_66 : rf d 270 66 ls (.ref 265 :: s) (SH n, I, L, R, nc, ns, nx) = rf d 270 69 ls (.int (I 265 38) :: s) (SH n, I, L, R, nc, ns, nx) := g_I (idx := 306) (by decide +kernel) ow270 f_8_306 rfl rfl (by decide)
theorem e270_69 (q : ia n a j) : rf d 270 69 ls (.int j :: .ref a :: s) (SH n, I, L, R, nc, ns, nx) = rf d 270 70 ls (.int (I a j.toNatClampNeg) :: s) (SH n, I, L, R, nc, ns, nx) := g_ial (by decide +kernel) q
theorem e270_70 : rf d 270 70 ls s h = rf d 270 71 ls (.int (-1) :: s) h := rf_pure (i := .iconst (-1)) (len := 1) (okD_ok (by decide +kernel)) rfl
theorem e270_71 : rf d 270 71 ls (.int y :: .int x :: s) h = rf d 270 72 ls (.int (x ^^^ y) :: s) h := rf_pure (i := .ixor) (len := 1) (okD_ok (by decide +kernel)) rfl
theorem e270_72 : rf d 270 72 ls (.int y :: .int x :: s) h = rf d 270 73 ls (.int (x &&& y) :: s) h := rf_pure (i := .iand) (len := 1) (okD_ok (by decide +kernel)) rfl
theorem e270_73 (hn : ip_nl l3 = true) : rf d 270 73 [l0, l1, l2, l3, l4, l5, l6] (.int x :: s) h = rf d 270 75 [l0, l1, l2, l3, some (.int x), l5, l6] s h := g_sti (i := .istore 4) (len := 2) (q := 3) (p := 2) (by decide +kernel) rfl rfl hn
theorem e270_75 : rf d 270 75 [some (.ref a), l1, l2, l3, l4, l5, l6] s h = rf d 270 76 [some (.ref a), l1, l2, l3, l4, l5, l6] (.ref a :: s) h := rf_pure (i := .aload_n 0) (len := 1) (okD_ok (by decide +kernel)) rfl
theorem e270_76 (hR : LYR R) : rf d 270 76 ls (.ref 265 :: s) (SH n, I, L, R, nc, ns, nx) = rf d 270 79 ls (.ref 287 :: s) (SH n, I, L, R, nc, ns, nx) := g_R (idx := 79) (by decide +kernel) ow270 f_8_79 rfl rfl (by decide) (ly_265_35 hR)
theorem e270_79 : rf d 270 79 [l0, l1, l2, l3, some (.int x), l5, l6] s h = rf d 270 81 [l0, l1, l2, l3, some (.int x), l5, l6] (.int x :: s) h := rf_pure (i := .iload 4) (len := 2) (okD_ok (by decide +kernel)) rfl
theorem e270_81 (q : ia n a j) : rf d 270 81 ls (.int j :: .ref a :: s) (SH n, I, L, R, nc, ns, nx) = rf d 270 82 ls (.int (I a j.toNatClampNeg) :: s) (SH n, I, L, R, nc, ns, nx) := g_ial (by decide +kernel) q
theorem e270_82 : rf d 270 82 [some (.ref a), l1, l2, l3, l4, l5, l6] s h = rf d 270 83 [some (.ref a), l1, l2, l3, l4, l5, l6] (.ref a :: s) h := rf_pure (i := .aload_n 0) (len := 1) (okD_ok (by decide +kernel)) rfl
theorem e270_83 (hR : LYR R) : rf d 270 83 ls (.ref 265 :: s) (SH n, I, L, R, nc, ns, nx) = rf d 270 86 ls (.ref 287 :: s) (SH n, I, L, R, nc, ns, nx) := g_R (idx := 79) (by decide +kernel) ow270 f_8_79 rfl rfl (by decide) (ly_265_35 hR)
theorem e270_86 : rf d 270 86 [l0, l1, l2, l3, some (.int x), l5, l6] s h = rf d 270 88 [l0, l1, l2, l3, some (.int x), l5, l6] (.int x :: s) h := rf_pure (i := .iload 4) (len := 2) (okD_ok (by decide +kernel)) rfl
theorem e270_88 : rf d 270 88 ls s h = rf d 270 89 ls (.int 1 :: s) h := rf_pure (i := .iconst (1)) (len := 1) (okD_ok (by decide +kernel)) rfl
theorem e270_89 : rf d 270 89 [l0, l1, some (.int x), l3, l4, l5, l6] s h = rf d 270 90 [l0, l1, some (.int x), l3, l4, l5, l6] (.int x :: s) h := rf_pure (i := .iload_n 2) (len := 1) (okD_ok (by decide +kernel)) rfl
theorem e270_90 : rf d 270 90 ls (.int y :: .int x :: s) h = rf d 270 91 ls (.int (x <<< (y &&& 31)) :: s) h := rf_pure (i := .ishl) (len := 1) (okD_ok (by decide +kernel)) rfl
theorem e270_91 : rf d 270 91 ls (.int y :: .int x :: s) h = rf d 270 92 ls (.int (x ||| y) :: s) h := rf_pure (i := .ior) (len := 1) (okD_ok (by decide +kernel)) rfl
theorem e270_92 (q : ia n a j) : rf d 270 92 ls (.int j :: .ref a :: s) (SH n, I, L, R, nc, ns, nx) = rf d 270 93 ls (.int (I a j.toNatClampNeg) :: s) (SH n, I, L, R, nc, ns, nx) := g_ial (by decide +kernel) q
theorem e270_93 : rf d 270 93 ls (.int y :: .int x :: s) h = if x = y then rf d 270 100 ls s h else rf d 270 96 ls s h := g_ic (c := .eq) (off := 7) _ (by decide +kernel) rfl cmp_d
theorem e270_96 : rf d 270 96 ls s h = rf d 270 97 ls (.int 1 :: s) h := rf_pure (i := .iconst (1)) (len := 1) (okD_ok (by decide +kernel)) rfl
theorem e270_97 : rf d 270 97 ls s h = rf d 270 101 ls s h := rf_goto ⟨okD_ok (i := .goto (4)) (len := 3) (by decide +kernel), rfl⟩
theorem e270_100 : rf d 270 100 ls s h = rf d 270 101 ls (.int 0 :: s) h := rf_pure (i := .iconst (0)) (len := 1) (okD_ok (by decide +kernel)) rfl
theorem e270_101 (hn : ip_nl l4 = true) : rf d 270 101 [l0, l1, l2, l3, l4, l5, l6] (.int x :: s) h = rf d 270 103 [l0, l1, l2, l3, l4, some (.int x), l6] s h := g_sti (i := .istore 5) (len := 2) (q := 4) (p := 2) (by decide +kernel) rfl rfl hn
theorem e270_103 : rf d 270 103 [l0, l1, l2, some (.int x), l4, l5, l6] s h = rf d 270 104 [l0, l1, l2, some (.int x), l4, l5, l6] (.int x :: s) h := rf_pure (i := .iload_n 3) (len := 1) (okD_ok (by decide +kernel)) rfl
theorem e270_104 (hn : ip_nl l5 = true) : rf d 270 104 [l0, l1, l2, l3, l4, l5, l6] (.int x :: s) h = rf d 270 106 [l0, l1, l2, l3, l4, l5, some (.int x)] s h := g_sti (i := .istore 6) (len := 2) (q := 5) (p := 2) (by decide +kernel) rfl rfl hn
theorem e270_106 : rf d 270 106 [l0, l1, l2, l3, l4, l5, some (.int x)] s h = rf d 270 108 [l0, l1, l2, l3, l4, l5, some (.int x)] (.int x :: s) h := rf_pure (i := .iload 6) (len := 2) (okD_ok (by decide +kernel)) rfl
theorem e270_108 : rf d 270 108 ls (.int x :: s) h = if x ≤ 0 then rf d 270 161 ls s h else rf d 270 111 ls s h := g_if (c := .le) (off := 53) _ (by decide +kernel) rfl cmp_d
theorem e270_111 : rf d 270 111 [l0, l1, l2, l3, l4, some (.int x), l6] s h = rf d 270 113 [l0, l1, l2, l3, l4, some (.int x), l6] (.int x :: s) h := rf_pure (i := .iload 5) (len := 2) (okD_ok (by decide +kernel)) rfl
theorem e270_113 : rf d 270 113 ls (.int x :: s) h = if ¬ x = 0 then rf d 270 143 ls s h else rf d 270 116 ls s h := g_if (c := .ne) (off := 30) _ (by decide +kernel) rfl cmp_d
theorem e270_116 : rf d 270 116 [some (.ref a), l1, l2, l3, l4, l5, l6] s h = rf d 270 117 [some (.ref a), l1, l2, l3, l4, l5, l6] (.ref a :: s) h := rf_pure (i := .aload_n 0) (len := 1) (okD_ok (by decide +kernel)) rfl
theorem e270_117 (hR : LYR R) : rf d 270 117 ls (.ref 265 :: s) (SH n, I, L, R, nc, ns, nx) = rf d 270 120 ls (.ref 287 :: s) (SH n, I, L, R, nc, ns, nx) := g_R (idx := 79) (by decide +kernel) ow270 f_8_79 rfl rfl (by decide) (ly_265_35 hR)
theorem e270_120 : rf d 270 120 [l0, l1, l2, l3, some (.int x), l5, l6] s h = rf d 270 122 [l0, l1, l2, l3, some (.int x), l5, l6] (.int x :: s) h := rf_pure (i := .iload 4) (len := 2) (okD_ok (by decide +kernel)) rfl
theorem e270_122 : rf d 270 122 [l0, l1, l2, l3, l4, l5, some (.int x)] s h = rf d 270 124 [l0, l1, l2, l3, l4, l5, some (.int x)] (.int x :: s) h := rf_pure (i := .iload 6) (len := 2) (okD_ok (by decide +kernel)) rfl
theorem e270_124 : rf d 270 124 ls (.int y :: .int x :: s) h = rf d 270 125 ls (.int (x ||| y) :: s) h := rf_pure (i := .ior) (len := 1) (okD_ok (by decide +kernel)) rfl
theorem e270_125 (q : ia n a j) : rf d 270 125 ls (.int j :: .ref a :: s) (SH n, I, L, R, nc, ns, nx) = rf d 270 126 ls (.int (I a j.toNatClampNeg) :: s) (SH n, I, L, R, nc, ns, nx) := g_ial (by decide +kernel) q
theorem e270_126 : rf d 270 126 [some (.ref a), l1, l2, l3, l4, l5, l6] s h = rf d 270 127 [some (.ref a), l1, l2, l3, l4, l5, l6] (.ref a :: s) h := rf_pure (i := .aload_n 0) (len := 1) (okD_ok (by decide +kernel)) rfl
theorem e270_127 (hR : LYR R) : rf d 270 127 ls (.ref 265 :: s) (SH n, I, L, R, nc, ns, nx) = rf d 270 130 ls (.ref 287 :: s) (SH n, I, L, R, nc, ns, nx) := g_R (idx := 79) (by decide +kernel) ow270 f_8_79 rfl rfl (by decide) (ly_265_35 hR)
theorem e270_130 : rf d 270 130 [l0, l1, l2, l3, some (.int x), l5, l6] s h = rf d 270 132 [l0, l1, l2, l3, some (.int x), l5, l6] (.int x :: s) h := rf_pure (i := .iload 4) (len := 2) (okD_ok (by decide +kernel)) rfl
theorem e270_132 : rf d 270 132 [l0, l1, l2, l3, l4, l5, some (.int x)] s h = rf d 270 134 [l0, l1, l2, l3, l4, l5, some (.int x)] (.int x :: s) h := rf_pure (i := .iload 6) (len := 2) (okD_ok (by decide +kernel)) rfl
theorem e270_134 : rf d 270 134 ls (.int y :: .int x :: s) h = rf d 270 135 ls (.int (x ||| y) :: s) h := rf_pure (i := .ior) (len := 1) (okD_ok (by decide +kernel)) rfl
theorem e270_135 : rf d 270 135 ls s h = rf d 270 136 ls (.int 1 :: s) h := rf_pure (i := .iconst (1)) (len := 1) (okD_ok (by decide +kernel)) rfl
theorem e270_136 : rf d 270 136 [l0, l1, some (.int x), l3, l4, l5, l6] s h = rf d 270 137 [l0, l1, some (.int x), l3, l4, l5, l6] (.int x :: s) h := rf_pure (i := .iload_n 2) (len := 1) (okD_ok (by decide +kernel)) rfl
theorem e270_137 : rf d 270 137 ls (.int y :: .int x :: s) h = rf d 270 138 ls (.int (x <<< (y &&& 31)) :: s) h := rf_pure (i := .ishl) (len := 1) (okD_ok (by decide +kernel)) rfl
theorem e270_138 : rf d 270 138 ls (.int y :: .int x :: s) h = rf d 270 139 ls (.int (x ||| y) :: s) h := rf_pure (i := .ior) (len := 1) (okD_ok (by decide +kernel)) rfl
theorem e270_139 (q : ia n a j) : rf d 270 139 ls (.int j :: .ref a :: s) (SH n, I, L, R, nc, ns, nx) = rf d 270 140 ls (.int (I a j.toNatClampNeg) :: s) (SH n, I, L, R, nc, ns, nx) := g_ial (by decide +kernel) q
theorem e270_140 : rf d 270 140 ls (.int y :: .int x :: s) h = if x = y then rf d 270 147 ls s h else rf d 270 143 ls s h := g_ic (c := .eq) (off := 7) _ (by decide +kernel) rfl cmp_d
theorem e270_143 : rf d 270 143 ls s h = rf d 270 144 ls (.int 1 :: s) h := rf_pure (i := .iconst (1)) (len := 1) (okD_ok (by decide +kernel)) rfl
theorem e270_144 : rf d 270 144 ls s h = rf d 270 148 ls s h := rf_goto ⟨okD_ok (i := .goto (4)) (len := 3) (by decide +kernel), rfl⟩
theorem e270_147 : rf d 270 147 ls s h = rf d 270 148 ls (.int 0 :: s) h := rf_pure (i := .iconst (0)) (len := 1) (okD_ok (by decide +kernel)) rfl
theorem e270_148 (hn : ip_nl l4 = true) : rf d 270 148 [l0, l1, l2, l3, l4, l5, l6] (.int x :: s) h = rf d 270 150 [l0, l1, l2, l3, l4, some (.int x), l6] s h := g_sti (i := .istore 5) (len := 2) (q := 4) (p := 2) (by decide +kernel) rfl rfl hn
theorem e270_150 : rf d 270 150 [l0, l1, l2, l3, l4, l5, some (.int x)] s h = rf d 270 152 [l0, l1, l2, l3, l4, l5, some (.int x)] (.int x :: s) h := rf_pure (i := .iload 6) (len := 2) (okD_ok (by decide +kernel)) rfl
theorem e270_152 : rf d 270 152 ls s h = rf d 270 153 ls (.int 1 :: s) h := rf_pure (i := .iconst (1)) (len := 1) (okD_ok (by decide +kernel)) rfl
theorem e270_153 : rf d 270 153 ls (.int y :: .int x :: s) h = rf d 270 154 ls (.int (x - y) :: s) h := rf_pure (i := .isub) (len := 1) (okD_ok (by decide +kernel)) rfl
theorem e270_154 : rf d 270 154 [l0, l1, l2, some (.int x), l4, l5, l6] s h = rf d 270 155 [l0, l1, l2, some (.int x), l4, l5, l6] (.int x :: s) h := rf_pure (i := .iload_n 3) (len := 1) (okD_ok (by decide +kernel)) rfl
theorem e270_155 : rf d 270 155 ls (.int y :: .int x :: s) h = rf d 270 156 ls (.int (x &&& y) :: s) h := rf_pure (i := .iand) (len := 1) (okD_ok (by decide +kernel)) rfl
theorem e270_156 (hn : ip_nl l5 = true) : rf d 270 156 [l0, l1, l2, l3, l4, l5, l6] (.int x :: s) h = rf d 270 158 [l0, l1, l2, l3, l4, l5, some (.int x)] s h := g_sti (i := .istore 6) (len := 2) (q := 5) (p := 2) (by decide +kernel) rfl rfl hn
theorem e270_158 : rf d 270 158 ls s h = rf d 270 106 ls s h := rf_goto ⟨okD_ok (i := .goto (-52)) (len := 3) (by decide +kernel), rfl⟩
theorem e270_161 : rf d 270 161 [l0, some (.int x), l2, l3, l4, l5, l6] s h = rf d 270 162 [l0, some (.int x), l2, l3, l4, l5, l6] (.int x :: s) h := rf_pure (i := .iload_n 1) (len := 1) (okD_ok (by decide +kernel)) rfl
theorem e270_162 : rf d 270 162 [l0, l1, l2, l3, l4, some (.int x), l6] s h = rf d 270 164 [l0, l1, l2, l3, l4, some (.int x), l6] (.int x :: s) h := rf_pure (i := .iload 5) (len := 2) (okD_ok (by decide +kernel)) rfl
theorem e270_164 : rf d 270 164 ls (.int x :: s) h = if x = 0 then rf d 270 173 ls s h else rf d 270 167 ls s h := g_if (c := .eq) (off := 9) _ (by decide +kernel) rfl cmp_d
theorem e270_167 : rf d 270 167 ls s h = rf d 270 168 ls (.int 1 :: s) h := rf_pure (i := .iconst (1)) (len := 1) (okD_ok (by decide +kernel)) rfl
theorem e270_168 : rf d 270 168 [l0, l1, some (.int x), l3, l4, l5, l6] s h = rf d 270 169 [l0, l1, some (.int x), l3, l4, l5, l6] (.int x :: s) h := rf_pure (i := .iload_n 2) (len := 1) (okD_ok (by decide +kernel)) rfl
theorem e270_169 : rf d 270 169 ls (.int y :: .int x :: s) h = rf d 270 170 ls (.int (x <<< (y &&& 31)) :: s) h := rf_pure (i := .ishl) (len := 1) (okD_ok (by decide +kernel)) rfl
theorem e270_170 : rf d 270 170 ls s h = rf d 270 174 ls s h := rf_goto ⟨okD_ok (i := .goto (4)) (len := 3) (by decide +kernel), rfl⟩
theorem e270_173 : rf d 270 173 ls s h = rf d 270 174 ls (.int 0 :: s) h := rf_pure (i := .iconst (0)) (len := 1) (okD_ok (by decide +kernel)) rfl
theorem e270_174 : rf d 270 174 ls (.int y :: .int x :: s) h = rf d 270 175 ls (.int (x ||| y) :: s) h := rf_pure (i := .ior) (len := 1) (okD_ok (by decide +kernel)) rfl
theorem e270_175 (hn : ip_nl l0 = true) : rf d 270 175 [l0, l1, l2, l3, l4, l5, l6] (.int x :: s) h = rf d 270 176 [l0, some (.int x), l2, l3, l4, l5, l6] s h := g_sti (i := .istore_n 1) (len := 1) (q := 0) (p := 1) (by decide +kernel) rfl rfl hn
theorem e270_176 (hn : ip_nl l1 = true) : rf d 270 176 [l0, l1, some (.int x), l3, l4, l5, l6] s h = rf d 270 179 [l0, l1, some (.int (x + 1)), l3, l4, l5, l6] s h := g_inc (q := 1) (z := 1) (w := 1) (x := x) (by decide) (by decide +kernel) rfl rfl hn
theorem e270_179 : rf d 270 179 ls s h = rf d 270 9 ls s h := rf_goto ⟨okD_ok (i := .goto (-170)) (len := 3) (by decide +kernel), rfl⟩
theorem e270_182 : rf d 270 182 [l0, some (.int x), l2, l3, l4, l5, l6] s h = rf d 270 183 [l0, some (.int x), l2, l3, l4, l5, l6] (.int x :: s) h := rf_pure (i := .iload_n 1) (len := 1) (okD_ok (by decide +kernel)) rfl
theorem e270_183 : rf d 270 183 ls [.int x] h = some (.inl (some (.int x)), h) := g_ri (by decide +kernel) rt270
theorem en271 : cf d 271 [.ref a, .int x0] h = rf d 271 0 [some (.ref a), some (.int x0), none, none, none] [] h := rfl
theorem e271_0 : rf d 271 0 [some (.ref a), l1, l2, l3, l4] s h = rf d 271 1 [some (.ref a), l1, l2, l3, l4] (.ref a :: s) h := rf_pure (i := .aload_n 0) (len := 1) (okD_ok (by decide +kernel)) rfl
theorem e271_1 : rf d 271 1 [l0, some (.int x), l2, l3, l4] s h = rf d 271 2 [l0, some (.int x), l2, l3, l4] (.int x :: s) h := rf_pure (i := .iload_n 1) (len := 1) (okD_ok (by decide +kernel)) rfl
theorem e271_2 (hcat : ip_cat s ≤ 8) : rf (d + 1) 271 2 ls (.int x0 :: s) h = rf_k (d + 1) 271 2 ls s (cf d 225 [.int x0] h) := g_cs (idx := 330) [.int x0] (by decide +kernel) ow271 ms_8_330 mt_8_330 (by decide) rfl mL225 rfl hcat
theorem e271_5 : rf d 271 5 ls (.int x :: s) h = if x = 0 then rf d 271 12 ls s h else rf d 271 8 ls s h := g_if (c := .eq) (off := 7) _ (by decide +kernel) rfl cmp_d
theorem e271_8 : rf d 271 8 ls s h = rf d 271 9 ls (.int 0 :: s) h := rf_pure (i := .iconst (0)) (len := 1) (okD_ok (by decide +kernel)) rfl
theorem e271_9 : rf d 271 9 ls s h = rf d 271 13 ls s h := rf_goto ⟨okD_ok (i := .goto (4)) (len := 3) (by decide +kernel), rfl⟩
theorem e271_12 : rf d 271 12 ls s h = rf d 271 13 ls (.int 1 :: s) h := rf_pure (i := .iconst (1)) (len := 1) (okD_ok (by decide +kernel)) rfl
theorem e271_13 : rf d 271 13 ls (.int x :: .ref 265 :: s) (SH n, I, L, R, nc, ns, nx) = rf d 271 16 ls s (SH n, ip_up I 265 0 x, L, R, nc, ns, nx) := g_pI (idx := 142) (by decide +kernel) ow271 f_8_142 rfl (by decide +kernel) rfl (by decide)
theorem e271_16 : rf d 271 16 [some (.ref a), l1, l2, l3, l4] s h = rf d 271 17 [some (.ref a), l1, l2, l3, l4] (.ref a :: s) h := rf_pure (i := .aload_n 0) (len := 1) (okD_ok (by decide +kernel)) rfl
theorem e271_17 : rf d 271 17 ls (.ref 265 :: s) (SH n, I, L, R, nc, ns, nx) = rf d 271 20 ls (.int (I 265 0) :: s) (SH n, I, L, R, nc, ns, nx) := g_I (idx := 142) (by decide +kernel) ow271 f_8_142 rfl rfl (by decide)
theorem e271_20 : rf d 271 20 ls (.int x :: s) h = if x ≤ 0 then rf d 271 25 ls s h else rf d 271 23 ls s h := g_if (c := .le) (off := 5) _ (by decide +kernel) rfl cmp_d
theorem e271_23 : rf d 271 23 ls s h = rf d 271 24 ls (.int 0 :: s) h := rf_pure (i := .iconst (0)) (len := 1) (okD_ok (by decide +kernel)) rfl
theorem e271_24 : rf d 271 24 ls [.int x] h = some (.inl (some (.int x)), h) := g_ri (by decide +kernel) rt271
theorem e271_25 : rf d 271 25 [some (.ref a), l1, l2, l3, l4] s h = rf d 271 26 [some (.ref a), l1, l2, l3, l4] (.ref a :: s) h := rf_pure (i := .aload_n 0) (len := 1) (okD_ok (by decide +kernel)) rfl
theorem e271_26 (hR : LYR R) : rf d 271 26 ls (.ref 265 :: s) (SH n, I, L, R, nc, ns, nx) = rf d 271 29 ls (.ref 296 :: s) (SH n, I, L, R, nc, ns, nx) := g_R (idx := 106) (by decide +kernel) ow271 f_8_106 rfl rfl (by decide) (ly_265_46 hR)
theorem e271_29 : rf d 271 29 [some (.ref a), l1, l2, l3, l4] s h = rf d 271 30 [some (.ref a), l1, l2, l3, l4] (.ref a :: s) h := rf_pure (i := .aload_n 0) (len := 1) (okD_ok (by decide +kernel)) rfl
theorem e271_30 : rf d 271 30 ls (.ref 265 :: s) (SH n, I, L, R, nc, ns, nx) = rf d 271 33 ls (.int (I 265 38) :: s) (SH n, I, L, R, nc, ns, nx) := g_I (idx := 306) (by decide +kernel) ow271 f_8_306 rfl rfl (by decide)
theorem e271_33 (q : ia n a j) : rf d 271 33 ls (.int j :: .ref a :: s) (SH n, I, L, R, nc, ns, nx) = rf d 271 34 ls (.int (I a j.toNatClampNeg) :: s) (SH n, I, L, R, nc, ns, nx) := g_ial (by decide +kernel) q
theorem e271_34 : rf d 271 34 [some (.ref a), l1, l2, l3, l4] s h = rf d 271 35 [some (.ref a), l1, l2, l3, l4] (.ref a :: s) h := rf_pure (i := .aload_n 0) (len := 1) (okD_ok (by decide +kernel)) rfl
theorem e271_35 (hR : LYR R) : rf d 271 35 ls (.ref 265 :: s) (SH n, I, L, R, nc, ns, nx) = rf d 271 38 ls (.ref 293 :: s) (SH n, I, L, R, nc, ns, nx) := g_R (idx := 97) (by decide +kernel) ow271 f_8_97 rfl rfl (by decide) (ly_265_43 hR)
theorem e271_38 : rf d 271 38 [some (.ref a), l1, l2, l3, l4] s h = rf d 271 39 [some (.ref a), l1, l2, l3, l4] (.ref a :: s) h := rf_pure (i := .aload_n 0) (len := 1) (okD_ok (by decide +kernel)) rfl
theorem e271_39 : rf d 271 39 ls (.ref 265 :: s) (SH n, I, L, R, nc, ns, nx) = rf d 271 42 ls (.int (I 265 38) :: s) (SH n, I, L, R, nc, ns, nx) := g_I (idx := 306) (by decide +kernel) ow271 f_8_306 rfl rfl (by decide)
theorem e271_42 (q : ia n a j) : rf d 271 42 ls (.int j :: .ref a :: s) (SH n, I, L, R, nc, ns, nx) = rf d 271 43 ls (.int (I a j.toNatClampNeg) :: s) (SH n, I, L, R, nc, ns, nx) := g_ial (by decide +kernel) q
theorem e271_43 : rf d 271 43 ls s h = rf d 271 44 ls (.int (-1) :: s) h := rf_pure (i := .iconst (-1)) (len := 1) (okD_ok (by decide +kernel)) rfl
theorem e271_44 : rf d 271 44 ls (.int y :: .int x :: s) h = rf d 271 45 ls (.int (x ^^^ y) :: s) h := rf_pure (i := .ixor) (len := 1) (okD_ok (by decide +kernel)) rfl
theorem e271_45 : rf d 271 45 ls (.int y :: .int x :: s) h = rf d 271 46 ls (.int (x &&& y) :: s) h := rf_pure (i := .iand) (len := 1) (okD_ok (by decide +kernel)) rfl
theorem e271_46 (hn : ip_nl l1 = true) : rf d 271 46 [l0, l1, l2, l3, l4] (.int x :: s) h = rf d 271 47 [l0, l1, some (.int x), l3, l4] s h := g_sti (i := .istore_n 2) (len := 1) (q := 1) (p := 1) (by decide +kernel) rfl rfl hn
theorem e271_47 : rf d 271 47 [some (.ref a), l1, l2, l3, l4] s h = rf d 271 48 [some (.ref a), l1, l2, l3, l4] (.ref a :: s) h := rf_pure (i := .aload_n 0) (len := 1) (okD_ok (by decide +kernel)) rfl
theorem e271_48 (hR : LYR R) : rf d 271 48 ls (.ref 265 :: s) (SH n, I, L, R, nc, ns, nx) = rf d 271 51 ls (.ref 287 :: s) (SH n, I, L, R, nc, ns, nx) := g_R (idx := 79) (by decide +kernel) ow271 f_8_79 rfl rfl (by decide) (ly_265_35 hR)
theorem e271_51 : rf d 271 51 [l0, l1, some (.int x), l3, l4] s h = rf d 271 52 [l0, l1, some (.int x), l3, l4] (.int x :: s) h := rf_pure (i := .iload_n 2) (len := 1) (okD_ok (by decide +kernel)) rfl
theorem e271_52 (q : ia n a j) : rf d 271 52 ls (.int j :: .ref a :: s) (SH n, I, L, R, nc, ns, nx) = rf d 271 53 ls (.int (I a j.toNatClampNeg) :: s) (SH n, I, L, R, nc, ns, nx) := g_ial (by decide +kernel) q
theorem e271_53 : rf d 271 53 [l0, some (.int x), l2, l3, l4] s h = rf d 271 54 [l0, some (.int x), l2, l3, l4] (.int x :: s) h := rf_pure (i := .iload_n 1) (len := 1) (okD_ok (by decide +kernel)) rfl
theorem e271_54 : rf d 271 54 ls (.int y :: .int x :: s) h = if ¬ x = y then rf d 271 61 ls s h else rf d 271 57 ls s h := g_ic (c := .ne) (off := 7) _ (by decide +kernel) rfl cmp_d
theorem e271_57 : rf d 271 57 ls s h = rf d 271 58 ls (.int 1 :: s) h := rf_pure (i := .iconst (1)) (len := 1) (okD_ok (by decide +kernel)) rfl
theorem e271_58 : rf d 271 58 ls s h = rf d 271 62 ls s h := rf_goto ⟨okD_ok (i := .goto (4)) (len := 3) (by decide +kernel), rfl⟩
theorem e271_61 : rf d 271 61 ls s h = rf d 271 62 ls (.int 0 :: s) h := rf_pure (i := .iconst (0)) (len := 1) (okD_ok (by decide +kernel)) rfl
theorem e271_62 (hn : ip_nl l2 = true) : rf d 271 62 [l0, l1, l2, l3, l4] (.int x :: s) h = rf d 271 63 [l0, l1, l2, some (.int x), l4] s h := g_sti (i := .istore_n 3) (len := 1) (q := 2) (p := 1) (by decide +kernel) rfl rfl hn
theorem e271_63 : rf d 271 63 [some (.ref a), l1, l2, l3, l4] s h = rf d 271 64 [some (.ref a), l1, l2, l3, l4] (.ref a :: s) h := rf_pure (i := .aload_n 0) (len := 1) (okD_ok (by decide +kernel)) rfl
theorem e271_64 (hR : LYR R) : rf d 271 64 ls (.ref 265 :: s) (SH n, I, L, R, nc, ns, nx) = rf d 271 67 ls (.ref 293 :: s) (SH n, I, L, R, nc, ns, nx) := g_R (idx := 97) (by decide +kernel) ow271 f_8_97 rfl rfl (by decide) (ly_265_43 hR)
theorem e271_67 : rf d 271 67 [some (.ref a), l1, l2, l3, l4] s h = rf d 271 68 [some (.ref a), l1, l2, l3, l4] (.ref a :: s) h := rf_pure (i := .aload_n 0) (len := 1) (okD_ok (by decide +kernel)) rfl
theorem e271_68 : rf d 271 68 ls (.ref 265 :: s) (SH n, I, L, R, nc, ns, nx) = rf d 271 71 ls (.int (I 265 38) :: s) (SH n, I, L, R, nc, ns, nx) := g_I (idx := 306) (by decide +kernel) ow271 f_8_306 rfl rfl (by decide)
theorem e271_71 (q : ia n a j) : rf d 271 71 ls (.int j :: .ref a :: s) (SH n, I, L, R, nc, ns, nx) = rf d 271 72 ls (.int (I a j.toNatClampNeg) :: s) (SH n, I, L, R, nc, ns, nx) := g_ial (by decide +kernel) q
theorem e271_72 (hn : ip_nl l3 = true) : rf d 271 72 [l0, l1, l2, l3, l4] (.int x :: s) h = rf d 271 74 [l0, l1, l2, l3, some (.int x)] s h := g_sti (i := .istore 4) (len := 2) (q := 3) (p := 2) (by decide +kernel) rfl rfl hn
theorem e271_74 : rf d 271 74 [l0, l1, l2, l3, some (.int x)] s h = rf d 271 76 [l0, l1, l2, l3, some (.int x)] (.int x :: s) h := rf_pure (i := .iload 4) (len := 2) (okD_ok (by decide +kernel)) rfl
theorem e271_76 : rf d 271 76 ls (.int x :: s) h = if x ≤ 0 then rf d 271 119 ls s h else rf d 271 79 ls s h := g_if (c := .le) (off := 43) _ (by decide +kernel) rfl cmp_d
theorem e271_79 : rf d 271 79 [l0, l1, l2, some (.int x), l4] s h = rf d 271 80 [l0, l1, l2, some (.int x), l4] (.int x :: s) h := rf_pure (i := .iload_n 3) (len := 1) (okD_ok (by decide +kernel)) rfl
theorem e271_80 : rf d 271 80 [some (.ref a), l1, l2, l3, l4] s h = rf d 271 81 [some (.ref a), l1, l2, l3, l4] (.ref a :: s) h := rf_pure (i := .aload_n 0) (len := 1) (okD_ok (by decide +kernel)) rfl
theorem e271_81 (hR : LYR R) : rf d 271 81 ls (.ref 265 :: s) (SH n, I, L, R, nc, ns, nx) = rf d 271 84 ls (.ref 287 :: s) (SH n, I, L, R, nc, ns, nx) := g_R (idx := 79) (by decide +kernel) ow271 f_8_79 rfl rfl (by decide) (ly_265_35 hR)
theorem e271_84 : rf d 271 84 [l0, l1, some (.int x), l3, l4] s h = rf d 271 85 [l0, l1, some (.int x), l3, l4] (.int x :: s) h := rf_pure (i := .iload_n 2) (len := 1) (okD_ok (by decide +kernel)) rfl
theorem e271_85 : rf d 271 85 [l0, l1, l2, l3, some (.int x)] s h = rf d 271 87 [l0, l1, l2, l3, some (.int x)] (.int x :: s) h := rf_pure (i := .iload 4) (len := 2) (okD_ok (by decide +kernel)) rfl
theorem e271_87 : rf d 271 87 ls (.int y :: .int x :: s) h = rf d 271 88 ls (.int (x ||| y) :: s) h := rf_pure (i := .ior) (len := 1) (okD_ok (by decide +kernel)) rfl
theorem e271_88 (q : ia n a j) : rf d 271 88 ls (.int j :: .ref a :: s) (SH n, I, L, R, nc, ns, nx) = rf d 271 89 ls (.int (I a j.toNatClampNeg) :: s) (SH n, I, L, R, nc, ns, nx) := g_ial (by decide +kernel) q
theorem e271_89 : rf d 271 89 [l0, some (.int x), l2, l3, l4] s h = rf d 271 90 [l0, some (.int x), l2, l3, l4] (.int x :: s) h := rf_pure (i := .iload_n 1) (len := 1) (okD_ok (by decide +kernel)) rfl
theorem e271_90 : rf d 271 90 ls (.int y :: .int x :: s) h = if ¬ x = y then rf d 271 97 ls s h else rf d 271 93 ls s h := g_ic (c := .ne) (off := 7) _ (by decide +kernel) rfl cmp_d
theorem e271_93 : rf d 271 93 ls s h = rf d 271 94 ls (.int 1 :: s) h := rf_pure (i := .iconst (1)) (len := 1) (okD_ok (by decide +kernel)) rfl
theorem e271_94 : rf d 271 94 ls s h = rf d 271 98 ls s h := rf_goto ⟨okD_ok (i := .goto (4)) (len := 3) (by decide +kernel), rfl⟩
theorem e271_97 : rf d 271 97 ls s h = rf d 271 98 ls (.int 0 :: s) h := rf_pure (i := .iconst (0)) (len := 1) (okD_ok (by decide +kernel)) rfl
theorem e271_98 : rf d 271 98 ls (.int y :: .int x :: s) h = rf d 271 99 ls (.int (x + y) :: s) h := rf_pure (i := .iadd) (len := 1) (okD_ok (by decide +kernel)) rfl
theorem e271_99 (hn : ip_nl l2 = true) : rf d 271 99 [l0, l1, l2, l3, l4] (.int x :: s) h = rf d 271 100 [l0, l1, l2, some (.int x), l4] s h := g_sti (i := .istore_n 3) (len := 1) (q := 2) (p := 1) (by decide +kernel) rfl rfl hn
theorem e271_100 : rf d 271 100 [l0, l1, l2, l3, some (.int x)] s h = rf d 271 102 [l0, l1, l2, l3, some (.int x)] (.int x :: s) h := rf_pure (i := .iload 4) (len := 2) (okD_ok (by decide +kernel)) rfl
theorem e271_102 : rf d 271 102 ls s h = rf d 271 103 ls (.int 1 :: s) h := rf_pure (i := .iconst (1)) (len := 1) (okD_ok (by decide +kernel)) rfl
theorem e271_103 : rf d 271 103 ls (.int y :: .int x :: s) h = rf d 271 104 ls (.int (x - y) :: s) h := rf_pure (i := .isub) (len := 1) (okD_ok (by decide +kernel)) rfl
theorem e271_104 : rf d 271 104 [some (.ref a), l1, l2, l3, l4] s h = rf d 271 105 [some (.ref a), l1, l2, l3, l4] (.ref a :: s) h := rf_pure (i := .aload_n 0) (len := 1) (okD_ok (by decide +kernel)) rfl
theorem e271_105 (hR : LYR R) : rf d 271 105 ls (.ref 265 :: s) (SH n, I, L, R, nc, ns, nx) = rf d 271 108 ls (.ref 293 :: s) (SH n, I, L, R, nc, ns, nx) := g_R (idx := 97) (by decide +kernel) ow271 f_8_97 rfl rfl (by decide) (ly_265_43 hR)
theorem e271_108 : rf d 271 108 [some (.ref a), l1, l2, l3, l4] s h = rf d 271 109 [some (.ref a), l1, l2, l3, l4] (.ref a :: s) h := rf_pure (i := .aload_n 0) (len := 1) (okD_ok (by decide +kernel)) rfl
theorem e271_109 : rf d 271 109 ls (.ref 265 :: s) (SH n, I, L, R, nc, ns, nx) = rf d 271 112 ls (.int (I 265 38) :: s) (SH n, I, L, R, nc, ns, nx) := g_I (idx := 306) (by decide +kernel) ow271 f_8_306 rfl rfl (by decide)
theorem e271_112 (q : ia n a j) : rf d 271 112 ls (.int j :: .ref a :: s) (SH n, I, L, R, nc, ns, nx) = rf d 271 113 ls (.int (I a j.toNatClampNeg) :: s) (SH n, I, L, R, nc, ns, nx) := g_ial (by decide +kernel) q
theorem e271_113 : rf d 271 113 ls (.int y :: .int x :: s) h = rf d 271 114 ls (.int (x &&& y) :: s) h := rf_pure (i := .iand) (len := 1) (okD_ok (by decide +kernel)) rfl
theorem e271_114 (hn : ip_nl l3 = true) : rf d 271 114 [l0, l1, l2, l3, l4] (.int x :: s) h = rf d 271 116 [l0, l1, l2, l3, some (.int x)] s h := g_sti (i := .istore 4) (len := 2) (q := 3) (p := 2) (by decide +kernel) rfl rfl hn
theorem e271_116 : rf d 271 116 ls s h = rf d 271 74 ls s h := rf_goto ⟨okD_ok (i := .goto (-42)) (len := 3) (by decide +kernel), rfl⟩
theorem e271_119 : rf d 271 119 [l0, l1, l2, some (.int x), l4] s h = rf d 271 120 [l0, l1, l2, some (.int x), l4] (.int x :: s) h := rf_pure (i := .iload_n 3) (len := 1) (okD_ok (by decide +kernel)) rfl
theorem e271_120 : rf d 271 120 ls [.int x] h = some (.inl (some (.int x)), h) := g_ri (by decide +kernel) rt271
theorem en272 : cf d 272 [.ref a, .int x0] h = rf d 272 0 [some (.ref a), some (.int x0), none, none] [] h := rfl
theorem e272_0 : rf d 272 0 [some (.ref a), l1, l2, l3] s h = rf d 272 1 [some (.ref a), l1, l2, l3] (.ref a :: s) h := rf_pure (i := .aload_n 0) (len := 1) (okD_ok (by decide +kernel)) rfl
theorem e272_1 : rf d 272 1 [some (.ref a), l1, l2, l3] s h = rf d 272 2 [some (.ref a), l1, l2, l3] (.ref a :: s) h := rf_pure (i := .aload_n 0) (len := 1) (okD_ok (by decide +kernel)) rfl
theorem e272_2 : rf d 272 2 [l0, some (.int x), l2, l3] s h = rf d 272 3 [l0, some (.int x), l2, l3] (.int x :: s) h := rf_pure (i := .iload_n 1) (len := 1) (okD_ok (by decide +kernel)) rfl
theorem e272_3 (hcat : ip_cat s ≤ 8) : rf (d + 1) 272 3 ls (.int x0 :: .ref 265 :: s) (SH n, I, L, R, nc, ns, nx) = rf_k (d + 1) 272 3 ls s (cf d 244 [.ref 265, .int x0] (SH n, I, L, R, nc, ns, nx)) := g_cv (idx := 401) (t := 8) [.int x0] (by decide +kernel) ow272 ms_8_401 mt_8_401 cy244_8 rfl rfl mL244 rfl rfl (by decide) hcat
theorem e272_6 : rf d 272 6 ls (.int x :: s) h = if x = 0 then rf d 272 13 ls s h else rf d 272 9 ls s h := g_if (c := .eq) (off := 7) _ (by decide +kernel) rfl cmp_d
theorem e272_9 : rf d 272 9 ls s h = rf d 272 10 ls (.int 0 :: s) h := rf_pure (i := .iconst (0)) (len := 1) (okD_ok (by decide +kernel)) rfl
theorem e272_10 : rf d 272 10 ls s h = rf d 272 14 ls s h := rf_goto ⟨okD_ok (i := .goto (4)) (len := 3) (by decide +kernel), rfl⟩
theorem e272_13 : rf d 272 13 ls s h = rf d 272 14 ls (.int 1 :: s) h := rf_pure (i := .iconst (1)) (len := 1) (okD_ok (by decide +kernel)) rfl
theorem e272_14 : rf d 272 14 ls (.int x :: .ref 265 :: s) (SH n, I, L, R, nc, ns, nx) = rf d 272 17 ls s (SH n, ip_up I 265 0 x, L, R, nc, ns, nx) := g_pI (idx := 142) (by decide +kernel) ow272 f_8_142 rfl (by decide +kernel) rfl (by decide)
theorem e272_17 : rf d 272 17 [some (.ref a), l1, l2, l3] s h = rf d 272 18 [some (.ref a), l1, l2, l3] (.ref a :: s) h := rf_pure (i := .aload_n 0) (len := 1) (okD_ok (by decide +kernel)) rfl
theorem e272_18 : rf d 272 18 ls (.ref 265 :: s) (SH n, I, L, R, nc, ns, nx) = rf d 272 21 ls (.int (I 265 0) :: s) (SH n, I, L, R, nc, ns, nx) := g_I (idx := 142) (by decide +kernel) ow272 f_8_142 rfl rfl (by decide)
theorem e272_21 : rf d 272 21 ls (.int x :: s) h = if x ≤ 0 then rf d 272 26 ls s h else rf d 272 24 ls s h := g_if (c := .le) (off := 5) _ (by decide +kernel) rfl cmp_d
theorem e272_24 : rf d 272 24 ls s h = rf d 272 25 ls (.int 0 :: s) h := rf_pure (i := .iconst (0)) (len := 1) (okD_ok (by decide +kernel)) rfl
theorem e272_25 : rf d 272 25 ls [.int x] h = some (.inl (some (.int x)), h) := g_ri (by decide +kernel) rt272
theorem e272_26 : rf d 272 26 [some (.ref a), l1, l2, l3] s h = rf d 272 27 [some (.ref a), l1, l2, l3] (.ref a :: s) h := rf_pure (i := .aload_n 0) (len := 1) (okD_ok (by decide +kernel)) rfl
theorem e272_27 : rf d 272 27 ls s h = rf d 272 28 ls (.int 0 :: s) h := rf_pure (i := .iconst (0)) (len := 1) (okD_ok (by decide +kernel)) rfl
theorem e272_28 : rf d 272 28 ls (.int x :: .ref 265 :: s) (SH n, I, L, R, nc, ns, nx) = rf d 272 31 ls s (SH n, ip_up I 265 70 x, L, R, nc, ns, nx) := g_pI (idx := 444) (by decide +kernel) ow272 f_8_444 rfl (by decide +kernel) rfl (by decide)
theorem e272_31 : rf d 272 31 [some (.ref a), l1, l2, l3] s h = rf d 272 32 [some (.ref a), l1, l2, l3] (.ref a :: s) h := rf_pure (i := .aload_n 0) (len := 1) (okD_ok (by decide +kernel)) rfl
theorem e272_32 : rf d 272 32 [some (.ref a), l1, l2, l3] s h = rf d 272 33 [some (.ref a), l1, l2, l3] (.ref a :: s) h := rf_pure (i := .aload_n 0) (len := 1) (okD_ok (by decide +kernel)) rfl
theorem e272_33 (hR : LYR R) : rf d 272 33 ls (.ref 265 :: s) (SH n, I, L, R, nc, ns, nx) = rf d 272 36 ls (.ref 289 :: s) (SH n, I, L, R, nc, ns, nx) := g_R (idx := 85) (by decide +kernel) ow272 f_8_85 rfl rfl (by decide) (ly_265_39 hR)
theorem e272_36 : rf d 272 36 [l0, some (.int x), l2, l3] s h = rf d 272 37 [l0, some (.int x), l2, l3] (.int x :: s) h := rf_pure (i := .iload_n 1) (len := 1) (okD_ok (by decide +kernel)) rfl
theorem e272_37 (q : ia n a j) : rf d 272 37 ls (.int j :: .ref a :: s) (SH n, I, L, R, nc, ns, nx) = rf d 272 38 ls (.int (I a j.toNatClampNeg) :: s) (SH n, I, L, R, nc, ns, nx) := g_ial (by decide +kernel) q
theorem e272_38 : rf d 272 38 ls (.int x :: s) h = if ¬ x = 0 then rf d 272 47 ls s h else rf d 272 41 ls s h := g_if (c := .ne) (off := 9) _ (by decide +kernel) rfl cmp_d
theorem e272_41 : rf d 272 41 ls s h = rf d 272 44 ls (.ref (tx 20) :: s) h := g_ks (idx := 450) (i := .ldc_w 450) (len := 3) (by decide +kernel) rfl rfl ow272 kn_8_450 ks_8_450
theorem e272_44 : rf d 272 44 ls s h = rf d 272 64 ls s h := rf_goto ⟨okD_ok (i := .goto (20)) (len := 3) (by decide +kernel), rfl⟩
theorem e272_47 : rf d 272 47 [some (.ref a), l1, l2, l3] s h = rf d 272 48 [some (.ref a), l1, l2, l3] (.ref a :: s) h := rf_pure (i := .aload_n 0) (len := 1) (okD_ok (by decide +kernel)) rfl
theorem e272_48 (hR : LYR R) : rf d 272 48 ls (.ref 265 :: s) (SH n, I, L, R, nc, ns, nx) = rf d 272 51 ls (.ref 289 :: s) (SH n, I, L, R, nc, ns, nx) := g_R (idx := 85) (by decide +kernel) ow272 f_8_85 rfl rfl (by decide) (ly_265_39 hR)
theorem e272_51 : rf d 272 51 [l0, some (.int x), l2, l3] s h = rf d 272 52 [l0, some (.int x), l2, l3] (.int x :: s) h := rf_pure (i := .iload_n 1) (len := 1) (okD_ok (by decide +kernel)) rfl
theorem e272_52 (q : ia n a j) : rf d 272 52 ls (.int j :: .ref a :: s) (SH n, I, L, R, nc, ns, nx) = rf d 272 53 ls (.int (I a j.toNatClampNeg) :: s) (SH n, I, L, R, nc, ns, nx) := g_ial (by decide +kernel) q
theorem e272_53 : rf d 272 53 ls s h = rf d 272 54 ls (.int 1 :: s) h := rf_pure (i := .iconst (1)) (len := 1) (okD_ok (by decide +kernel)) rfl
theorem e272_54 : rf d 272 54 ls (.int y :: .int x :: s) h = if ¬ x = y then rf d 272 62 ls s h else rf d 272 57 ls s h := g_ic (c := .ne) (off := 8) _ (by decide +kernel) rfl cmp_d
theorem e272_57 : rf d 272 57 ls s h = rf d 272 59 ls (.ref (tx 21) :: s) h := g_ks (idx := 188) (i := .ldc 188) (len := 2) (by decide +kernel) rfl rfl ow272 kn_8_188 ks_8_188
theorem e272_59 : rf d 272 59 ls s h = rf d 272 64 ls s h := rf_goto ⟨okD_ok (i := .goto (5)) (len := 3) (by decide +kernel), rfl⟩
theorem e272_62 : rf d 272 62 ls s h = rf d 272 64 ls (.ref (tx 22) :: s) h := g_ks (idx := 190) (i := .ldc 190) (len := 2) (by decide +kernel) rfl rfl ow272 kn_8_190 ks_8_190
theorem e272_64 (hcat : ip_cat s ≤ 8) : rf (d + 1) 272 64 ls (.ref a0 :: .ref 265 :: s) (SH n, I, L, R, nc, ns, nx) = rf_k (d + 1) 272 64 ls s (cf d 273 [.ref 265, .ref a0] (SH n, I, L, R, nc, ns, nx)) := g_cv (idx := 452) (t := 8) [.ref a0] (by decide +kernel) ow272 ms_8_452 mt_8_452 cy273_8 rfl rfl mL273 rfl rfl (by decide) hcat
theorem e272_67 : rf d 272 67 [some (.ref a), l1, l2, l3] s h = rf d 272 68 [some (.ref a), l1, l2, l3] (.ref a :: s) h := rf_pure (i := .aload_n 0) (len := 1) (okD_ok (by decide +kernel)) rfl
theorem e272_68 (hR : LYR R) : rf d 272 68 ls (.ref 265 :: s) (SH n, I, L, R, nc, ns, nx) = rf d 272 71 ls (.ref 289 :: s) (SH n, I, L, R, nc, ns, nx) := g_R (idx := 85) (by decide +kernel) ow272 f_8_85 rfl rfl (by decide) (ly_265_39 hR)
theorem e272_71 : rf d 272 71 [l0, some (.int x), l2, l3] s h = rf d 272 72 [l0, some (.int x), l2, l3] (.int x :: s) h := rf_pure (i := .iload_n 1) (len := 1) (okD_ok (by decide +kernel)) rfl
theorem e272_72 (q : ia n a j) : rf d 272 72 ls (.int j :: .ref a :: s) (SH n, I, L, R, nc, ns, nx) = rf d 272 73 ls (.int (I a j.toNatClampNeg) :: s) (SH n, I, L, R, nc, ns, nx) := g_ial (by decide +kernel) q
theorem e272_73 : rf d 272 73 ls (.int x :: s) h = if x = 0 then rf d 272 130 ls s h else rf d 272 76 ls s h := g_if (c := .eq) (off := 57) _ (by decide +kernel) rfl cmp_d
theorem e272_76 : rf d 272 76 [some (.ref a), l1, l2, l3] s h = rf d 272 77 [some (.ref a), l1, l2, l3] (.ref a :: s) h := rf_pure (i := .aload_n 0) (len := 1) (okD_ok (by decide +kernel)) rfl
theorem e272_77 : rf d 272 77 [some (.ref a), l1, l2, l3] s h = rf d 272 78 [some (.ref a), l1, l2, l3] (.ref a :: s) h := rf_pure (i := .aload_n 0) (len := 1) (okD_ok (by decide +kernel)) rfl
theorem e272_78 (hR : LYR R) : rf d 272 78 ls (.ref 265 :: s) (SH n, I, L, R, nc, ns, nx) = rf d 272 81 ls (.ref 291 :: s) (SH n, I, L, R, nc, ns, nx) := g_R (idx := 91) (by decide +kernel) ow272 f_8_91 rfl rfl (by decide) (ly_265_41 hR)
theorem e272_81 : rf d 272 81 [l0, some (.int x), l2, l3] s h = rf d 272 82 [l0, some (.int x), l2, l3] (.int x :: s) h := rf_pure (i := .iload_n 1) (len := 1) (okD_ok (by decide +kernel)) rfl
theorem e272_82 (q : ia n a j) : rf d 272 82 ls (.int j :: .ref a :: s) (SH n, I, L, R, nc, ns, nx) = rf d 272 83 ls (.int (I a j.toNatClampNeg) :: s) (SH n, I, L, R, nc, ns, nx) := g_ial (by decide +kernel) q
theorem e272_83 : rf d 272 83 ls (.int x :: s) h = if ¬ x = 0 then rf d 272 92 ls s h else rf d 272 86 ls s h := g_if (c := .ne) (off := 9) _ (by decide +kernel) rfl cmp_d
theorem e272_86 : rf d 272 86 ls s h = rf d 272 89 ls (.ref (tx 23) :: s) h := g_ks (idx := 456) (i := .ldc_w 456) (len := 3) (by decide +kernel) rfl rfl ow272 kn_8_456 ks_8_456
theorem e272_89 : rf d 272 89 ls s h = rf d 272 127 ls s h := rf_goto ⟨okD_ok (i := .goto (38)) (len := 3) (by decide +kernel), rfl⟩
theorem e272_92 : rf d 272 92 [some (.ref a), l1, l2, l3] s h = rf d 272 93 [some (.ref a), l1, l2, l3] (.ref a :: s) h := rf_pure (i := .aload_n 0) (len := 1) (okD_ok (by decide +kernel)) rfl
theorem e272_93 (hR : LYR R) : rf d 272 93 ls (.ref 265 :: s) (SH n, I, L, R, nc, ns, nx) = rf d 272 96 ls (.ref 291 :: s) (SH n, I, L, R, nc, ns, nx) := g_R (idx := 91) (by decide +kernel) ow272 f_8_91 rfl rfl (by decide) (ly_265_41 hR)
theorem e272_96 : rf d 272 96 [l0, some (.int x), l2, l3] s h = rf d 272 97 [l0, some (.int x), l2, l3] (.int x :: s) h := rf_pure (i := .iload_n 1) (len := 1) (okD_ok (by decide +kernel)) rfl
theorem e272_97 (q : ia n a j) : rf d 272 97 ls (.int j :: .ref a :: s) (SH n, I, L, R, nc, ns, nx) = rf d 272 98 ls (.int (I a j.toNatClampNeg) :: s) (SH n, I, L, R, nc, ns, nx) := g_ial (by decide +kernel) q
theorem e272_98 : rf d 272 98 ls s h = rf d 272 99 ls (.int 1 :: s) h := rf_pure (i := .iconst (1)) (len := 1) (okD_ok (by decide +kernel)) rfl
theorem e272_99 : rf d 272 99 ls (.int y :: .int x :: s) h = if ¬ x = y then rf d 272 108 ls s h else rf d 272 102 ls s h := g_ic (c := .ne) (off := 9) _ (by decide +kernel) rfl cmp_d
theorem e272_102 : rf d 272 102 ls s h = rf d 272 105 ls (.ref (tx 24) :: s) h := g_ks (idx := 458) (i := .ldc_w 458) (len := 3) (by decide +kernel) rfl rfl ow272 kn_8_458 ks_8_458
theorem e272_105 : rf d 272 105 ls s h = rf d 272 127 ls s h := rf_goto ⟨okD_ok (i := .goto (22)) (len := 3) (by decide +kernel), rfl⟩
theorem e272_108 : rf d 272 108 [some (.ref a), l1, l2, l3] s h = rf d 272 109 [some (.ref a), l1, l2, l3] (.ref a :: s) h := rf_pure (i := .aload_n 0) (len := 1) (okD_ok (by decide +kernel)) rfl
theorem e272_109 (hR : LYR R) : rf d 272 109 ls (.ref 265 :: s) (SH n, I, L, R, nc, ns, nx) = rf d 272 112 ls (.ref 291 :: s) (SH n, I, L, R, nc, ns, nx) := g_R (idx := 91) (by decide +kernel) ow272 f_8_91 rfl rfl (by decide) (ly_265_41 hR)
theorem e272_112 : rf d 272 112 [l0, some (.int x), l2, l3] s h = rf d 272 113 [l0, some (.int x), l2, l3] (.int x :: s) h := rf_pure (i := .iload_n 1) (len := 1) (okD_ok (by decide +kernel)) rfl
theorem e272_113 (q : ia n a j) : rf d 272 113 ls (.int j :: .ref a :: s) (SH n, I, L, R, nc, ns, nx) = rf d 272 114 ls (.int (I a j.toNatClampNeg) :: s) (SH n, I, L, R, nc, ns, nx) := g_ial (by decide +kernel) q
theorem e272_114 : rf d 272 114 ls s h = rf d 272 115 ls (.int 2 :: s) h := rf_pure (i := .iconst (2)) (len := 1) (okD_ok (by decide +kernel)) rfl
theorem e272_115 : rf d 272 115 ls (.int y :: .int x :: s) h = if ¬ x = y then rf d 272 124 ls s h else rf d 272 118 ls s h := g_ic (c := .ne) (off := 9) _ (by decide +kernel) rfl cmp_d
theorem e272_118 : rf d 272 118 ls s h = rf d 272 121 ls (.ref (tx 25) :: s) h := g_ks (idx := 460) (i := .ldc_w 460) (len := 3) (by decide +kernel) rfl rfl ow272 kn_8_460 ks_8_460
theorem e272_121 : rf d 272 121 ls s h = rf d 272 127 ls s h := rf_goto ⟨okD_ok (i := .goto (6)) (len := 3) (by decide +kernel), rfl⟩
theorem e272_124 : rf d 272 124 ls s h = rf d 272 127 ls (.ref (tx 26) :: s) h := g_ks (idx := 462) (i := .ldc_w 462) (len := 3) (by decide +kernel) rfl rfl ow272 kn_8_462 ks_8_462
theorem e272_127 (hcat : ip_cat s ≤ 8) : rf (d + 1) 272 127 ls (.ref a0 :: .ref 265 :: s) (SH n, I, L, R, nc, ns, nx) = rf_k (d + 1) 272 127 ls s (cf d 273 [.ref 265, .ref a0] (SH n, I, L, R, nc, ns, nx)) := g_cv (idx := 452) (t := 8) [.ref a0] (by decide +kernel) ow272 ms_8_452 mt_8_452 cy273_8 rfl rfl mL273 rfl rfl (by decide) hcat
theorem e272_130 : rf d 272 130 ls s h = rf d 272 131 ls (.int 0 :: s) h := rf_pure (i := .iconst (0)) (len := 1) (okD_ok (by decide +kernel)) rfl
theorem e272_131 (hn : ip_nl l1 = true) : rf d 272 131 [l0, l1, l2, l3] (.int x :: s) h = rf d 272 132 [l0, l1, some (.int x), l3] s h := g_sti (i := .istore_n 2) (len := 1) (q := 1) (p := 1) (by decide +kernel) rfl rfl hn
theorem e272_132 : rf d 272 132 [l0, l1, some (.int x), l3] s h = rf d 272 133 [l0, l1, some (.int x), l3] (.int x :: s) h := rf_pure (i := .iload_n 2) (len := 1) (okD_ok (by decide +kernel)) rfl
theorem e272_133 : rf d 272 133 [some (.ref a), l1, l2, l3] s h = rf d 272 134 [some (.ref a), l1, l2, l3] (.ref a :: s) h := rf_pure (i := .aload_n 0) (len := 1) (okD_ok (by decide +kernel)) rfl
theorem e272_134 : rf d 272 134 ls (.ref 265 :: s) (SH n, I, L, R, nc, ns, nx) = rf d 272 137 ls (.int (I 265 17) :: s) (SH n, I, L, R, nc, ns, nx) := g_I (idx := 291) (by decide +kernel) ow272 f_8_291 rfl rfl (by decide)
theorem e272_137 : rf d 272 137 ls (.int y :: .int x :: s) h = if y ≤ x then rf d 272 258 ls s h else rf d 272 140 ls s h := g_ic (c := .ge) (off := 121) _ (by decide +kernel) rfl cmp_d
theorem e272_140 : rf d 272 140 [some (.ref a), l1, l2, l3] s h = rf d 272 141 [some (.ref a), l1, l2, l3] (.ref a :: s) h := rf_pure (i := .aload_n 0) (len := 1) (okD_ok (by decide +kernel)) rfl
theorem e272_141 : rf d 272 141 ls s h = rf d 272 143 ls (.int 32 :: s) h := rf_pure (i := .bipush (32)) (len := 2) (okD_ok (by decide +kernel)) rfl
theorem e272_143 (hcat : ip_cat s ≤ 8) : rf (d + 1) 272 143 ls (.int x0 :: .ref 265 :: s) (SH n, I, L, R, nc, ns, nx) = rf_k (d + 1) 272 143 ls s (cf d 274 [.ref 265, .int x0] (SH n, I, L, R, nc, ns, nx)) := g_cv (idx := 447) (t := 8) [.int x0] (by decide +kernel) ow272 ms_8_447 mt_8_447 cy274_8 rfl rfl mL274 rfl rfl (by decide) hcat
theorem e272_146 : rf d 272 146 ls s h = rf d 272 147 ls (.int 0 :: s) h := rf_pure (i := .iconst (0)) (len := 1) (okD_ok (by decide +kernel)) rfl
theorem e272_147 (hn : ip_nl l2 = true) : rf d 272 147 [l0, l1, l2, l3] (.int x :: s) h = rf d 272 148 [l0, l1, l2, some (.int x)] s h := g_sti (i := .istore_n 3) (len := 1) (q := 2) (p := 1) (by decide +kernel) rfl rfl hn
theorem e272_148 : rf d 272 148 [l0, l1, l2, some (.int x)] s h = rf d 272 149 [l0, l1, l2, some (.int x)] (.int x :: s) h := rf_pure (i := .iload_n 3) (len := 1) (okD_ok (by decide +kernel)) rfl
theorem e272_149 : rf d 272 149 [some (.ref a), l1, l2, l3] s h = rf d 272 150 [some (.ref a), l1, l2, l3] (.ref a :: s) h := rf_pure (i := .aload_n 0) (len := 1) (okD_ok (by decide +kernel)) rfl
theorem e272_150 (hR : LYR R) : rf d 272 150 ls (.ref 265 :: s) (SH n, I, L, R, nc, ns, nx) = rf d 272 153 ls (.ref 274 :: s) (SH n, I, L, R, nc, ns, nx) := g_R (idx := 39) (by decide +kernel) ow272 f_8_39 rfl rfl (by decide) (ly_265_20 hR)
theorem e272_153 : rf d 272 153 [l0, l1, some (.int x), l3] s h = rf d 272 154 [l0, l1, some (.int x), l3] (.int x :: s) h := rf_pure (i := .iload_n 2) (len := 1) (okD_ok (by decide +kernel)) rfl
theorem e272_154 (q : la n a j) : rf d 272 154 ls (.int j :: .ref a :: s) (SH n, I, L, R, nc, ns, nx) = rf d 272 155 ls (.long (L a j.toNatClampNeg) :: s) (SH n, I, L, R, nc, ns, nx) := g_lal (by decide +kernel) q
theorem e272_155 (hcat : ip_cat s ≤ 8) : rf (d + 1) 272 155 ls (.long u0 :: s) h = rf_k (d + 1) 272 155 ls s (cf d 220 [.long u0] h) := g_cs (idx := 210) [.long u0] (by decide +kernel) ow272 ms_8_210 mt_8_210 (by decide) rfl mL220 rfl hcat
theorem e272_158 : rf d 272 158 ls (.int y :: .int x :: s) h = if y ≤ x then rf d 272 181 ls s h else rf d 272 161 ls s h := g_ic (c := .ge) (off := 23) _ (by decide +kernel) rfl cmp_d
theorem e272_161 : rf d 272 161 [some (.ref a), l1, l2, l3] s h = rf d 272 162 [some (.ref a), l1, l2, l3] (.ref a :: s) h := rf_pure (i := .aload_n 0) (len := 1) (okD_ok (by decide +kernel)) rfl
theorem e272_162 : rf d 272 162 [some (.ref a), l1, l2, l3] s h = rf d 272 163 [some (.ref a), l1, l2, l3] (.ref a :: s) h := rf_pure (i := .aload_n 0) (len := 1) (okD_ok (by decide +kernel)) rfl
theorem e272_163 (hR : LYR R) : rf d 272 163 ls (.ref 265 :: s) (SH n, I, L, R, nc, ns, nx) = rf d 272 166 ls (.ref 274 :: s) (SH n, I, L, R, nc, ns, nx) := g_R (idx := 39) (by decide +kernel) ow272 f_8_39 rfl rfl (by decide) (ly_265_20 hR)
theorem e272_166 : rf d 272 166 [l0, l1, some (.int x), l3] s h = rf d 272 167 [l0, l1, some (.int x), l3] (.int x :: s) h := rf_pure (i := .iload_n 2) (len := 1) (okD_ok (by decide +kernel)) rfl
theorem e272_167 (q : la n a j) : rf d 272 167 ls (.int j :: .ref a :: s) (SH n, I, L, R, nc, ns, nx) = rf d 272 168 ls (.long (L a j.toNatClampNeg) :: s) (SH n, I, L, R, nc, ns, nx) := g_lal (by decide +kernel) q
theorem e272_168 : rf d 272 168 [l0, l1, l2, some (.int x)] s h = rf d 272 169 [l0, l1, l2, some (.int x)] (.int x :: s) h := rf_pure (i := .iload_n 3) (len := 1) (okD_ok (by decide +kernel)) rfl
theorem e272_169 (hcat : ip_cat s ≤ 8) : rf (d + 1) 272 169 ls (.int x1 :: .long u0 :: s) h = rf_k (d + 1) 272 169 ls s (cf d 221 [.long u0, .int x1] h) := g_cs (idx := 326) [.int x1, .long u0] (by decide +kernel) ow272 ms_8_326 mt_8_326 (by decide) rfl mL221 rfl hcat
theorem e272_172 (hcat : ip_cat s ≤ 8) : rf (d + 1) 272 172 ls (.int x0 :: .ref 265 :: s) (SH n, I, L, R, nc, ns, nx) = rf_k (d + 1) 272 172 ls s (cf d 274 [.ref 265, .int x0] (SH n, I, L, R, nc, ns, nx)) := g_cv (idx := 447) (t := 8) [.int x0] (by decide +kernel) ow272 ms_8_447 mt_8_447 cy274_8 rfl rfl mL274 rfl rfl (by decide) hcat
theorem e272_175 (hn : ip_nl l2 = true) : rf d 272 175 [l0, l1, l2, some (.int x)] s h = rf d 272 178 [l0, l1, l2, some (.int (x + 1))] s h := g_inc (q := 2) (z := 1) (w := 1) (x := x) (by decide) (by decide +kernel) rfl rfl hn
theorem e272_178 : rf d 272 178 ls s h = rf d 272 148 ls s h := rf_goto ⟨okD_ok (i := .goto (-30)) (len := 3) (by decide +kernel), rfl⟩
theorem e272_181 : rf d 272 181 [some (.ref a), l1, l2, l3] s h = rf d 272 182 [some (.ref a), l1, l2, l3] (.ref a :: s) h := rf_pure (i := .aload_n 0) (len := 1) (okD_ok (by decide +kernel)) rfl
theorem e272_182 (hR : LYR R) : rf d 272 182 ls (.ref 265 :: s) (SH n, I, L, R, nc, ns, nx) = rf d 272 185 ls (.ref 293 :: s) (SH n, I, L, R, nc, ns, nx) := g_R (idx := 97) (by decide +kernel) ow272 f_8_97 rfl rfl (by decide) (ly_265_43 hR)
theorem e272_185 : rf d 272 185 [l0, some (.int x), l2, l3] s h = rf d 272 186 [l0, some (.int x), l2, l3] (.int x :: s) h := rf_pure (i := .iload_n 1) (len := 1) (okD_ok (by decide +kernel)) rfl
theorem e272_186 (q : ia n a j) : rf d 272 186 ls (.int j :: .ref a :: s) (SH n, I, L, R, nc, ns, nx) = rf d 272 187 ls (.int (I a j.toNatClampNeg) :: s) (SH n, I, L, R, nc, ns, nx) := g_ial (by decide +kernel) q
theorem e272_187 : rf d 272 187 [l0, l1, some (.int x), l3] s h = rf d 272 188 [l0, l1, some (.int x), l3] (.int x :: s) h := rf_pure (i := .iload_n 2) (len := 1) (okD_ok (by decide +kernel)) rfl
theorem e272_188 (hcat : ip_cat s ≤ 8) : rf (d + 1) 272 188 ls (.int x1 :: .int x0 :: s) h = rf_k (d + 1) 272 188 ls s (cf d 186 [.int x0, .int x1] h) := g_cs (idx := 234) [.int x1, .int x0] (by decide +kernel) ow272 ms_8_234 mt_8_234 (by decide) rfl mL186 rfl hcat
theorem e272_191 : rf d 272 191 ls (.int x :: s) h = if x = 0 then rf d 272 203 ls s h else rf d 272 194 ls s h := g_if (c := .eq) (off := 12) _ (by decide +kernel) rfl cmp_d
theorem e272_194 : rf d 272 194 [some (.ref a), l1, l2, l3] s h = rf d 272 195 [some (.ref a), l1, l2, l3] (.ref a :: s) h := rf_pure (i := .aload_n 0) (len := 1) (okD_ok (by decide +kernel)) rfl
theorem e272_195 : rf d 272 195 ls s h = rf d 272 197 ls (.int 63 :: s) h := rf_pure (i := .bipush (63)) (len := 2) (okD_ok (by decide +kernel)) rfl
theorem e272_197 (hcat : ip_cat s ≤ 8) : rf (d + 1) 272 197 ls (.int x0 :: .ref 265 :: s) (SH n, I, L, R, nc, ns, nx) = rf_k (d + 1) 272 197 ls s (cf d 274 [.ref 265, .int x0] (SH n, I, L, R, nc, ns, nx)) := g_cv (idx := 447) (t := 8) [.int x0] (by decide +kernel) ow272 ms_8_447 mt_8_447 cy274_8 rfl rfl mL274 rfl rfl (by decide) hcat
theorem e272_200 : rf d 272 200 ls s h = rf d 272 233 ls s h := rf_goto ⟨okD_ok (i := .goto (33)) (len := 3) (by decide +kernel), rfl⟩
theorem e272_203 : rf d 272 203 [some (.ref a), l1, l2, l3] s h = rf d 272 204 [some (.ref a), l1, l2, l3] (.ref a :: s) h := rf_pure (i := .aload_n 0) (len := 1) (okD_ok (by decide +kernel)) rfl
theorem e272_204 : rf d 272 204 ls s h = rf d 272 206 ls (.int 61 :: s) h := rf_pure (i := .bipush (61)) (len := 2) (okD_ok (by decide +kernel)) rfl
theorem e272_206 (hcat : ip_cat s ≤ 8) : rf (d + 1) 272 206 ls (.int x0 :: .ref 265 :: s) (SH n, I, L, R, nc, ns, nx) = rf_k (d + 1) 272 206 ls s (cf d 274 [.ref 265, .int x0] (SH n, I, L, R, nc, ns, nx)) := g_cv (idx := 447) (t := 8) [.int x0] (by decide +kernel) ow272 ms_8_447 mt_8_447 cy274_8 rfl rfl mL274 rfl rfl (by decide) hcat
theorem e272_209 : rf d 272 209 [some (.ref a), l1, l2, l3] s h = rf d 272 210 [some (.ref a), l1, l2, l3] (.ref a :: s) h := rf_pure (i := .aload_n 0) (len := 1) (okD_ok (by decide +kernel)) rfl
theorem e272_210 : rf d 272 210 [some (.ref a), l1, l2, l3] s h = rf d 272 211 [some (.ref a), l1, l2, l3] (.ref a :: s) h := rf_pure (i := .aload_n 0) (len := 1) (okD_ok (by decide +kernel)) rfl
theorem e272_211 (hR : LYR R) : rf d 272 211 ls (.ref 265 :: s) (SH n, I, L, R, nc, ns, nx) = rf d 272 214 ls (.ref 296 :: s) (SH n, I, L, R, nc, ns, nx) := g_R (idx := 106) (by decide +kernel) ow272 f_8_106 rfl rfl (by decide) (ly_265_46 hR)
theorem e272_214 : rf d 272 214 [l0, some (.int x), l2, l3] s h = rf d 272 215 [l0, some (.int x), l2, l3] (.int x :: s) h := rf_pure (i := .iload_n 1) (len := 1) (okD_ok (by decide +kernel)) rfl
theorem e272_215 (q : ia n a j) : rf d 272 215 ls (.int j :: .ref a :: s) (SH n, I, L, R, nc, ns, nx) = rf d 272 216 ls (.int (I a j.toNatClampNeg) :: s) (SH n, I, L, R, nc, ns, nx) := g_ial (by decide +kernel) q
theorem e272_216 : rf d 272 216 [l0, l1, some (.int x), l3] s h = rf d 272 217 [l0, l1, some (.int x), l3] (.int x :: s) h := rf_pure (i := .iload_n 2) (len := 1) (okD_ok (by decide +kernel)) rfl
theorem e272_217 (hcat : ip_cat s ≤ 8) : rf (d + 1) 272 217 ls (.int x1 :: .int x0 :: s) h = rf_k (d + 1) 272 217 ls s (cf d 186 [.int x0, .int x1] h) := g_cs (idx := 234) [.int x1, .int x0] (by decide +kernel) ow272 ms_8_234 mt_8_234 (by decide) rfl mL186 rfl hcat
theorem e272_220 : rf d 272 220 ls (.int x :: s) h = if x = 0 then rf d 272 228 ls s h else rf d 272 223 ls s h := g_if (c := .eq) (off := 8) _ (by decide +kernel) rfl cmp_d
theorem e272_223 : rf d 272 223 ls s h = rf d 272 225 ls (.int 48 :: s) h := rf_pure (i := .bipush (48)) (len := 2) (okD_ok (by decide +kernel)) rfl
theorem e272_225 : rf d 272 225 ls s h = rf d 272 230 ls s h := rf_goto ⟨okD_ok (i := .goto (5)) (len := 3) (by decide +kernel), rfl⟩
theorem e272_228 : rf d 272 228 ls s h = rf d 272 230 ls (.int 49 :: s) h := rf_pure (i := .bipush (49)) (len := 2) (okD_ok (by decide +kernel)) rfl
theorem e272_230 (hcat : ip_cat s ≤ 8) : rf (d + 1) 272 230 ls (.int x0 :: .ref 265 :: s) (SH n, I, L, R, nc, ns, nx) = rf_k (d + 1) 272 230 ls s (cf d 274 [.ref 265, .int x0] (SH n, I, L, R, nc, ns, nx)) := g_cv (idx := 447) (t := 8) [.int x0] (by decide +kernel) ow272 ms_8_447 mt_8_447 cy274_8 rfl rfl mL274 rfl rfl (by decide) hcat
theorem e272_233 : rf d 272 233 [some (.ref a), l1, l2, l3] s h = rf d 272 234 [some (.ref a), l1, l2, l3] (.ref a :: s) h := rf_pure (i := .aload_n 0) (len := 1) (okD_ok (by decide +kernel)) rfl
theorem e272_234 (hR : LYR R) : rf d 272 234 ls (.ref 265 :: s) (SH n, I, L, R, nc, ns, nx) = rf d 272 237 ls (.ref 294 :: s) (SH n, I, L, R, nc, ns, nx) := g_R (idx := 100) (by decide +kernel) ow272 f_8_100 rfl rfl (by decide) (ly_265_44 hR)
theorem e272_237 : rf d 272 237 [l0, some (.int x), l2, l3] s h = rf d 272 238 [l0, some (.int x), l2, l3] (.int x :: s) h := rf_pure (i := .iload_n 1) (len := 1) (okD_ok (by decide +kernel)) rfl
theorem e272_238 (q : ia n a j) : rf d 272 238 ls (.int j :: .ref a :: s) (SH n, I, L, R, nc, ns, nx) = rf d 272 239 ls (.int (I a j.toNatClampNeg) :: s) (SH n, I, L, R, nc, ns, nx) := g_ial (by decide +kernel) q
theorem e272_239 : rf d 272 239 [l0, l1, some (.int x), l3] s h = rf d 272 240 [l0, l1, some (.int x), l3] (.int x :: s) h := rf_pure (i := .iload_n 2) (len := 1) (okD_ok (by decide +kernel)) rfl
theorem e272_240 (hcat : ip_cat s ≤ 8) : rf (d + 1) 272 240 ls (.int x1 :: .int x0 :: s) h = rf_k (d + 1) 272 240 ls s (cf d 186 [.int x0, .int x1] h) := g_cs (idx := 234) [.int x1, .int x0] (by decide +kernel) ow272 ms_8_234 mt_8_234 (by decide) rfl mL186 rfl hcat
theorem e272_243 : rf d 272 243 ls (.int x :: s) h = if x = 0 then rf d 272 252 ls s h else rf d 272 246 ls s h := g_if (c := .eq) (off := 9) _ (by decide +kernel) rfl cmp_d
theorem e272_246 : rf d 272 246 [some (.ref a), l1, l2, l3] s h = rf d 272 247 [some (.ref a), l1, l2, l3] (.ref a :: s) h := rf_pure (i := .aload_n 0) (len := 1) (okD_ok (by decide +kernel)) rfl
theorem e272_247 : rf d 272 247 ls s h = rf d 272 249 ls (.int 33 :: s) h := rf_pure (i := .bipush (33)) (len := 2) (okD_ok (by decide +kernel)) rfl
theorem e272_249 (hcat : ip_cat s ≤ 8) : rf (d + 1) 272 249 ls (.int x0 :: .ref 265 :: s) (SH n, I, L, R, nc, ns, nx) = rf_k (d + 1) 272 249 ls s (cf d 274 [.ref 265, .int x0] (SH n, I, L, R, nc, ns, nx)) := g_cv (idx := 447) (t := 8) [.int x0] (by decide +kernel) ow272 ms_8_447 mt_8_447 cy274_8 rfl rfl mL274 rfl rfl (by decide) hcat
theorem e272_252 (hn : ip_nl l1 = true) : rf d 272 252 [l0, l1, some (.int x), l3] s h = rf d 272 255 [l0, l1, some (.int (x + 1)), l3] s h := g_inc (q := 1) (z := 1) (w := 1) (x := x) (by decide) (by decide +kernel) rfl rfl hn
theorem e272_255 : rf d 272 255 ls s h = rf d 272 132 ls s h := rf_goto ⟨okD_ok (i := .goto (-123)) (len := 3) (by decide +kernel), rfl⟩
theorem e272_258 : rf d 272 258 [some (.ref a), l1, l2, l3] s h = rf d 272 259 [some (.ref a), l1, l2, l3] (.ref a :: s) h := rf_pure (i := .aload_n 0) (len := 1) (okD_ok (by decide +kernel)) rfl
theorem e272_259 : rf d 272 259 ls (.ref 265 :: s) (SH n, I, L, R, nc, ns, nx) = rf d 272 262 ls (.int (I 265 70) :: s) (SH n, I, L, R, nc, ns, nx) := g_I (idx := 444) (by decide +kernel) ow272 f_8_444 rfl rfl (by decide)
theorem e272_262 : rf d 272 262 ls [.int x] h = some (.inl (some (.int x)), h) := g_ri (by decide +kernel) rt272
theorem en273 : cf d 273 [.ref a, .ref a0] h = rf d 273 0 [some (.ref a), some (.ref a0), none] [] h := rfl
theorem e273_0 : rf d 273 0 ls s h = rf d 273 1 ls (.int 0 :: s) h := rf_pure (i := .iconst (0)) (len := 1) (okD_ok (by decide +kernel)) rfl
theorem e273_1 (hn : ip_nl l1 = true) : rf d 273 1 [l0, l1, l2] (.int x :: s) h = rf d 273 2 [l0, l1, some (.int x)] s h := g_sti (i := .istore_n 2) (len := 1) (q := 1) (p := 1) (by decide +kernel) rfl rfl hn
theorem e273_2 : rf d 273 2 [l0, l1, some (.int x)] s h = rf d 273 3 [l0, l1, some (.int x)] (.int x :: s) h := rf_pure (i := .iload_n 2) (len := 1) (okD_ok (by decide +kernel)) rfl
theorem e273_3 : rf d 273 3 [l0, some (.ref a), l2] s h = rf d 273 4 [l0, some (.ref a), l2] (.ref a :: s) h := rf_pure (i := .aload_n 1) (len := 1) (okD_ok (by decide +kernel)) rfl
theorem e273_4 (ht : t < 39) (hcat : ip_cat s ≤ 8) : rf d 273 4 ls (.ref (tx t) :: s) h = rf d 273 7 ls (.int (Int32.ofNat (ip_tb.getD t []).length) :: s) h := g_sl (idx := 161) (by decide +kernel) ow273 (by decide +kernel) ht hcat
theorem e273_7 : rf d 273 7 ls (.int y :: .int x :: s) h = if y ≤ x then rf d 273 25 ls s h else rf d 273 10 ls s h := g_ic (c := .ge) (off := 18) _ (by decide +kernel) rfl cmp_d
theorem e273_10 : rf d 273 10 [some (.ref a), l1, l2] s h = rf d 273 11 [some (.ref a), l1, l2] (.ref a :: s) h := rf_pure (i := .aload_n 0) (len := 1) (okD_ok (by decide +kernel)) rfl
theorem e273_11 : rf d 273 11 [l0, some (.ref a), l2] s h = rf d 273 12 [l0, some (.ref a), l2] (.ref a :: s) h := rf_pure (i := .aload_n 1) (len := 1) (okD_ok (by decide +kernel)) rfl
theorem e273_12 : rf d 273 12 [l0, l1, some (.int x)] s h = rf d 273 13 [l0, l1, some (.int x)] (.int x :: s) h := rf_pure (i := .iload_n 2) (len := 1) (okD_ok (by decide +kernel)) rfl
theorem e273_13 (ht : t < 39) (hcat : ip_cat s ≤ 8) (hj : inb j (ip_tb.getD t []).length) : rf d 273 13 ls (.int j :: .ref (tx t) :: s) h = rf d 273 16 ls (.int (Int32.ofNat ((ip_tb.getD t []).getD j.toNatClampNeg 0)) :: s) h := g_sc (idx := 166) (by decide +kernel) ow273 (by decide +kernel) ht hcat hj
theorem e273_16 (hcat : ip_cat s ≤ 8) : rf (d + 1) 273 16 ls (.int x0 :: .ref 265 :: s) (SH n, I, L, R, nc, ns, nx) = rf_k (d + 1) 273 16 ls s (cf d 274 [.ref 265, .int x0] (SH n, I, L, R, nc, ns, nx)) := g_cv (idx := 447) (t := 8) [.int x0] (by decide +kernel) ow273 ms_8_447 mt_8_447 cy274_8 rfl rfl mL274 rfl rfl (by decide) hcat
theorem e273_19 (hn : ip_nl l1 = true) : rf d 273 19 [l0, l1, some (.int x)] s h = rf d 273 22 [l0, l1, some (.int (x + 1))] s h := g_inc (q := 1) (z := 1) (w := 1) (x := x) (by decide) (by decide +kernel) rfl rfl hn
theorem e273_22 : rf d 273 22 ls s h = rf d 273 2 ls s h := rf_goto ⟨okD_ok (i := .goto (-20)) (len := 3) (by decide +kernel), rfl⟩
theorem e273_25 : rf d 273 25 ls [] h = some (.inl none, h) := g_rv (by decide +kernel) rt273
theorem en274 : cf d 274 [.ref a, .int x0] h = rf d 274 0 [some (.ref a), some (.int x0)] [] h := rfl
theorem e274_0 : rf d 274 0 [some (.ref a), l1] s h = rf d 274 1 [some (.ref a), l1] (.ref a :: s) h := rf_pure (i := .aload_n 0) (len := 1) (okD_ok (by decide +kernel)) rfl
theorem e274_1 (hR : LYR R) : rf d 274 1 ls (.ref 265 :: s) (SH n, I, L, R, nc, ns, nx) = rf d 274 4 ls (.ref 306 :: s) (SH n, I, L, R, nc, ns, nx) := g_R (idx := 136) (by decide +kernel) ow274 f_8_136 rfl rfl (by decide) (ly_265_69 hR)
theorem e274_4 : rf d 274 4 [some (.ref a), l1] s h = rf d 274 5 [some (.ref a), l1] (.ref a :: s) h := rf_pure (i := .aload_n 0) (len := 1) (okD_ok (by decide +kernel)) rfl
theorem e274_5 : rf d 274 5 ls (.ref 265 :: s) (SH n, I, L, R, nc, ns, nx) = rf d 274 8 ls (.int (I 265 70) :: s) (SH n, I, L, R, nc, ns, nx) := g_I (idx := 444) (by decide +kernel) ow274 f_8_444 rfl rfl (by decide)
theorem e274_8 : rf d 274 8 [l0, some (.int x)] s h = rf d 274 9 [l0, some (.int x)] (.int x :: s) h := rf_pure (i := .iload_n 1) (len := 1) (okD_ok (by decide +kernel)) rfl
theorem e274_9 (q : ia n a j) : rf d 274 9 ls (.int x :: .int j :: .ref a :: s) (SH n, I, L, R, nc, ns, nx) = rf d 274 10 ls s (SH n, ip_up I a j.toNatClampNeg x, L, R, nc, ns, nx) := g_ias (by decide +kernel) q
theorem e274_10 : rf d 274 10 [some (.ref a), l1] s h = rf d 274 11 [some (.ref a), l1] (.ref a :: s) h := rf_pure (i := .aload_n 0) (len := 1) (okD_ok (by decide +kernel)) rfl
theorem e274_11 : rf d 274 11 ls (.int x :: s) h = rf d 274 12 ls (.int x :: .int x :: s) h := rf_pure (i := .dup) (len := 1) (okD_ok (by decide +kernel)) rfl
theorem e274_11r : rf d 274 11 ls (.ref a :: s) h = rf d 274 12 ls (.ref a :: .ref a :: s) h := rf_pure (i := .dup) (len := 1) (okD_ok (by decide +kernel)) rfl
theorem e274_12 : rf d 274 12 ls (.ref 265 :: s) (SH n, I, L, R, nc, ns, nx) = rf d 274 15 ls (.int (I 265 70) :: s) (SH n, I, L, R, nc, ns, nx) := g_I (idx := 444) (by decide +kernel) ow274 f_8_444 rfl rfl (by decide)
theorem e274_15 : rf d 274 15 ls s h = rf d 274 16 ls (.int 1 :: s) h := rf_pure (i := .iconst (1)) (len := 1) (okD_ok (by decide +kernel)) rfl
theorem e274_16 : rf d 274 16 ls (.int y :: .int x :: s) h = rf d 274 17 ls (.int (x + y) :: s) h := rf_pure (i := .iadd) (len := 1) (okD_ok (by decide +kernel)) rfl
theorem e274_17 : rf d 274 17 ls (.int x :: .ref 265 :: s) (SH n, I, L, R, nc, ns, nx) = rf d 274 20 ls s (SH n, ip_up I 265 70 x, L, R, nc, ns, nx) := g_pI (idx := 444) (by decide +kernel) ow274 f_8_444 rfl (by decide +kernel) rfl (by decide)
theorem e274_20 : rf d 274 20 ls [] h = some (.inl none, h) := g_rv (by decide +kernel) rt274
theorem en275 : cf d 275 [.ref a, .int x0] h = rf d 275 0 [some (.ref a), some (.int x0)] [] h := rfl
theorem e275_0 : rf d 275 0 [some (.ref a), l1] s h = rf d 275 1 [some (.ref a), l1] (.ref a :: s) h := rf_pure (i := .aload_n 0) (len := 1) (okD_ok (by decide +kernel)) rfl
theorem e275_1 : rf d 275 1 ls s h = rf d 275 2 ls (.int 0 :: s) h := rf_pure (i := .iconst (0)) (len := 1) (okD_ok (by decide +kernel)) rfl
theorem e275_2 : rf d 275 2 ls (.int x :: .ref 265 :: s) (SH n, I, L, R, nc, ns, nx) = rf d 275 5 ls s (SH n, ip_up I 265 0 x, L, R, nc, ns, nx) := g_pI (idx := 142) (by decide +kernel) ow275 f_8_142 rfl (by decide +kernel) rfl (by decide)
theorem e275_5 : rf d 275 5 [l0, some (.int x)] s h = rf d 275 6 [l0, some (.int x)] (.int x :: s) h := rf_pure (i := .iload_n 1) (len := 1) (okD_ok (by decide +kernel)) rfl
theorem e275_6 : rf d 275 6 ls s h = rf d 275 7 ls (.int 0 :: s) h := rf_pure (i := .iconst (0)) (len := 1) (okD_ok (by decide +kernel)) rfl
theorem e275_7 : rf d 275 7 [some (.ref a), l1] s h = rf d 275 8 [some (.ref a), l1] (.ref a :: s) h := rf_pure (i := .aload_n 0) (len := 1) (okD_ok (by decide +kernel)) rfl
theorem e275_8 : rf d 275 8 ls (.ref 265 :: s) (SH n, I, L, R, nc, ns, nx) = rf d 275 11 ls (.int (I 265 70) :: s) (SH n, I, L, R, nc, ns, nx) := g_I (idx := 444) (by decide +kernel) ow275 f_8_444 rfl rfl (by decide)
theorem e275_11 : rf d 275 11 ls s h = rf d 275 12 ls (.int 1 :: s) h := rf_pure (i := .iconst (1)) (len := 1) (okD_ok (by decide +kernel)) rfl
theorem e275_12 : rf d 275 12 ls (.int y :: .int x :: s) h = rf d 275 13 ls (.int (x - y) :: s) h := rf_pure (i := .isub) (len := 1) (okD_ok (by decide +kernel)) rfl
theorem e275_13 (hcat : ip_cat s ≤ 8) : rf (d + 1) 275 13 ls (.int x2 :: .int x1 :: .int x0 :: s) h = rf_k (d + 1) 275 13 ls s (cf d 217 [.int x0, .int x1, .int x2] h) := g_cs (idx := 315) [.int x2, .int x1, .int x0] (by decide +kernel) ow275 ms_8_315 mt_8_315 (by decide) rfl mL217 rfl hcat
theorem e275_16 : rf d 275 16 ls (.int x :: s) h = if x = 0 then rf d 275 28 ls s h else rf d 275 19 ls s h := g_if (c := .eq) (off := 12) _ (by decide +kernel) rfl cmp_d
theorem e275_19 : rf d 275 19 [some (.ref a), l1] s h = rf d 275 20 [some (.ref a), l1] (.ref a :: s) h := rf_pure (i := .aload_n 0) (len := 1) (okD_ok (by decide +kernel)) rfl
theorem e275_20 (hR : LYR R) : rf d 275 20 ls (.ref 265 :: s) (SH n, I, L, R, nc, ns, nx) = rf d 275 23 ls (.ref 306 :: s) (SH n, I, L, R, nc, ns, nx) := g_R (idx := 136) (by decide +kernel) ow275 f_8_136 rfl rfl (by decide) (ly_265_69 hR)
theorem e275_23 : rf d 275 23 [l0, some (.int x)] s h = rf d 275 24 [l0, some (.int x)] (.int x :: s) h := rf_pure (i := .iload_n 1) (len := 1) (okD_ok (by decide +kernel)) rfl
theorem e275_24 (q : ia n a j) : rf d 275 24 ls (.int j :: .ref a :: s) (SH n, I, L, R, nc, ns, nx) = rf d 275 25 ls (.int (I a j.toNatClampNeg) :: s) (SH n, I, L, R, nc, ns, nx) := g_ial (by decide +kernel) q
theorem e275_25 : rf d 275 25 ls s h = rf d 275 29 ls s h := rf_goto ⟨okD_ok (i := .goto (4)) (len := 3) (by decide +kernel), rfl⟩
theorem e275_28 : rf d 275 28 ls s h = rf d 275 29 ls (.int (-1) :: s) h := rf_pure (i := .iconst (-1)) (len := 1) (okD_ok (by decide +kernel)) rfl
theorem e275_29 : rf d 275 29 ls [.int x] h = some (.inl (some (.int x)), h) := g_ri (by decide +kernel) rt275
theorem en276 : cf d 276 [.ref a, .int x0, .int x1, .int x2] h = rf d 276 0 [some (.ref a), some (.int x0), some (.int x1), some (.int x2), none, none, none] [] h := rfl
theorem e276_0 : rf d 276 0 [some (.ref a), l1, l2, l3, l4, l5, l6] s h = rf d 276 1 [some (.ref a), l1, l2, l3, l4, l5, l6] (.ref a :: s) h := rf_pure (i := .aload_n 0) (len := 1) (okD_ok (by decide +kernel)) rfl
theorem e276_1 : rf d 276 1 [some (.ref a), l1, l2, l3, l4, l5, l6] s h = rf d 276 2 [some (.ref a), l1, l2, l3, l4, l5, l6] (.ref a :: s) h := rf_pure (i := .aload_n 0) (len := 1) (okD_ok (by decide +kernel)) rfl
theorem e276_2 : rf d 276 2 [l0, some (.int x), l2, l3, l4, l5, l6] s h = rf d 276 3 [l0, some (.int x), l2, l3, l4, l5, l6] (.int x :: s) h := rf_pure (i := .iload_n 1) (len := 1) (okD_ok (by decide +kernel)) rfl
theorem e276_3 (hcat : ip_cat s ≤ 8) : rf (d + 1) 276 3 ls (.int x0 :: .ref 265 :: s) (SH n, I, L, R, nc, ns, nx) = rf_k (d + 1) 276 3 ls s (cf d 244 [.ref 265, .int x0] (SH n, I, L, R, nc, ns, nx)) := g_cv (idx := 401) (t := 8) [.int x0] (by decide +kernel) ow276 ms_8_401 mt_8_401 cy244_8 rfl rfl mL244 rfl rfl (by decide) hcat
theorem e276_6 : rf d 276 6 ls (.int x :: s) h = if ¬ x = 0 then rf d 276 13 ls s h else rf d 276 9 ls s h := g_if (c := .ne) (off := 7) _ (by decide +kernel) rfl cmp_d
theorem e276_9 : rf d 276 9 ls s h = rf d 276 10 ls (.int 1 :: s) h := rf_pure (i := .iconst (1)) (len := 1) (okD_ok (by decide +kernel)) rfl
theorem e276_10 : rf d 276 10 ls s h = rf d 276 36 ls s h := rf_goto ⟨okD_ok (i := .goto (26)) (len := 3) (by decide +kernel), rfl⟩
theorem e276_13 : rf d 276 13 [l0, l1, some (.int x), l3, l4, l5, l6] s h = rf d 276 14 [l0, l1, some (.int x), l3, l4, l5, l6] (.int x :: s) h := rf_pure (i := .iload_n 2) (len := 1) (okD_ok (by decide +kernel)) rfl
theorem e276_14 : rf d 276 14 ls s h = rf d 276 15 ls (.int (-1) :: s) h := rf_pure (i := .iconst (-1)) (len := 1) (okD_ok (by decide +kernel)) rfl
theorem e276_15 : rf d 276 15 ls s h = rf d 276 16 ls (.int 1 :: s) h := rf_pure (i := .iconst (1)) (len := 1) (okD_ok (by decide +kernel)) rfl
theorem e276_16 (hcat : ip_cat s ≤ 8) : rf (d + 1) 276 16 ls (.int x2 :: .int x1 :: .int x0 :: s) h = rf_k (d + 1) 276 16 ls s (cf d 217 [.int x0, .int x1, .int x2] h) := g_cs (idx := 315) [.int x2, .int x1, .int x0] (by decide +kernel) ow276 ms_8_315 mt_8_315 (by decide) rfl mL217 rfl hcat
theorem e276_19 : rf d 276 19 ls (.int x :: s) h = if x = 0 then rf d 276 31 ls s h else rf d 276 22 ls s h := g_if (c := .eq) (off := 12) _ (by decide +kernel) rfl cmp_d
theorem e276_22 : rf d 276 22 [l0, l1, l2, some (.int x), l4, l5, l6] s h = rf d 276 23 [l0, l1, l2, some (.int x), l4, l5, l6] (.int x :: s) h := rf_pure (i := .iload_n 3) (len := 1) (okD_ok (by decide +kernel)) rfl
theorem e276_23 : rf d 276 23 ls s h = rf d 276 24 ls (.int (-1) :: s) h := rf_pure (i := .iconst (-1)) (len := 1) (okD_ok (by decide +kernel)) rfl
theorem e276_24 : rf d 276 24 ls s h = rf d 276 25 ls (.int 2 :: s) h := rf_pure (i := .iconst (2)) (len := 1) (okD_ok (by decide +kernel)) rfl
theorem e276_25 (hcat : ip_cat s ≤ 8) : rf (d + 1) 276 25 ls (.int x2 :: .int x1 :: .int x0 :: s) h = rf_k (d + 1) 276 25 ls s (cf d 217 [.int x0, .int x1, .int x2] h) := g_cs (idx := 315) [.int x2, .int x1, .int x0] (by decide +kernel) ow276 ms_8_315 mt_8_315 (by decide) rfl mL217 rfl hcat
theorem e276_28 : rf d 276 28 ls (.int x :: s) h = if ¬ x = 0 then rf d 276 35 ls s h else rf d 276 31 ls s h := g_if (c := .ne) (off := 7) _ (by decide +kernel) rfl cmp_d
theorem e276_31 : rf d 276 31 ls s h = rf d 276 32 ls (.int 2 :: s) h := rf_pure (i := .iconst (2)) (len := 1) (okD_ok (by decide +kernel)) rfl
theorem e276_32 : rf d 276 32 ls s h = rf d 276 36 ls s h := rf_goto ⟨okD_ok (i := .goto (4)) (len := 3) (by decide +kernel), rfl⟩
theorem e276_35 : rf d 276 35 ls s h = rf d 276 36 ls (.int 0 :: s) h := rf_pure (i := .iconst (0)) (len := 1) (okD_ok (by decide +kernel)) rfl
theorem e276_36 : rf d 276 36 ls (.int x :: .ref 265 :: s) (SH n, I, L, R, nc, ns, nx) = rf d 276 39 ls s (SH n, ip_up I 265 0 x, L, R, nc, ns, nx) := g_pI (idx := 142) (by decide +kernel) ow276 f_8_142 rfl (by decide +kernel) rfl (by decide)
theorem e276_39 : rf d 276 39 [some (.ref a), l1, l2, l3, l4, l5, l6] s h = rf d 276 40 [some (.ref a), l1, l2, l3, l4, l5, l6] (.ref a :: s) h := rf_pure (i := .aload_n 0) (len := 1) (okD_ok (by decide +kernel)) rfl
theorem e276_40 : rf d 276 40 ls (.ref 265 :: s) (SH n, I, L, R, nc, ns, nx) = rf d 276 43 ls (.int (I 265 0) :: s) (SH n, I, L, R, nc, ns, nx) := g_I (idx := 142) (by decide +kernel) ow276 f_8_142 rfl rfl (by decide)
theorem e276_43 : rf d 276 43 ls (.int x :: s) h = if x ≤ 0 then rf d 276 48 ls s h else rf d 276 46 ls s h := g_if (c := .le) (off := 5) _ (by decide +kernel) rfl cmp_d
theorem e276_46 : rf d 276 46 ls s h = rf d 276 47 ls (.int 0 :: s) h := rf_pure (i := .iconst (0)) (len := 1) (okD_ok (by decide +kernel)) rfl
theorem e276_47 : rf d 276 47 ls [.int x] h = some (.inl (some (.int x)), h) := g_ri (by decide +kernel) rt276
theorem e276_48 : rf d 276 48 ls s h = rf d 276 49 ls (.int 0 :: s) h := rf_pure (i := .iconst (0)) (len := 1) (okD_ok (by decide +kernel)) rfl
theorem e276_49 (hn : ip_nl l3 = true) : rf d 276 49 [l0, l1, l2, l3, l4, l5, l6] (.int x :: s) h = rf d 276 51 [l0, l1, l2, l3, some (.int x), l5, l6] s h := g_sti (i := .istore 4) (len := 2) (q := 3) (p := 2) (by decide +kernel) rfl rfl hn
theorem e276_51 : rf d 276 51 ls s h = rf d 276 52 ls (.int 0 :: s) h := rf_pure (i := .iconst (0)) (len := 1) (okD_ok (by decide +kernel)) rfl
theorem e276_52 (hn : ip_nl l4 = true) : rf d 276 52 [l0, l1, l2, l3, l4, l5, l6] (.int x :: s) h = rf d 276 54 [l0, l1, l2, l3, l4, some (.int x), l6] s h := g_sti (i := .istore 5) (len := 2) (q := 4) (p := 2) (by decide +kernel) rfl rfl hn
theorem e276_54 : rf d 276 54 [l0, l1, l2, l3, l4, some (.int x), l6] s h = rf d 276 56 [l0, l1, l2, l3, l4, some (.int x), l6] (.int x :: s) h := rf_pure (i := .iload 5) (len := 2) (okD_ok (by decide +kernel)) rfl
theorem e276_56 : rf d 276 56 [some (.ref a), l1, l2, l3, l4, l5, l6] s h = rf d 276 57 [some (.ref a), l1, l2, l3, l4, l5, l6] (.ref a :: s) h := rf_pure (i := .aload_n 0) (len := 1) (okD_ok (by decide +kernel)) rfl
theorem e276_57 : rf d 276 57 ls (.ref 265 :: s) (SH n, I, L, R, nc, ns, nx) = rf d 276 60 ls (.int (I 265 17) :: s) (SH n, I, L, R, nc, ns, nx) := g_I (idx := 291) (by decide +kernel) ow276 f_8_291 rfl rfl (by decide)
theorem e276_60 : rf d 276 60 ls (.int y :: .int x :: s) h = if y ≤ x then rf d 276 140 ls s h else rf d 276 63 ls s h := g_ic (c := .ge) (off := 80) _ (by decide +kernel) rfl cmp_d
theorem e276_63 : rf d 276 63 [some (.ref a), l1, l2, l3, l4, l5, l6] s h = rf d 276 64 [some (.ref a), l1, l2, l3, l4, l5, l6] (.ref a :: s) h := rf_pure (i := .aload_n 0) (len := 1) (okD_ok (by decide +kernel)) rfl
theorem e276_64 (hR : LYR R) : rf d 276 64 ls (.ref 265 :: s) (SH n, I, L, R, nc, ns, nx) = rf d 276 67 ls (.ref 293 :: s) (SH n, I, L, R, nc, ns, nx) := g_R (idx := 97) (by decide +kernel) ow276 f_8_97 rfl rfl (by decide) (ly_265_43 hR)
theorem e276_67 : rf d 276 67 [l0, some (.int x), l2, l3, l4, l5, l6] s h = rf d 276 68 [l0, some (.int x), l2, l3, l4, l5, l6] (.int x :: s) h := rf_pure (i := .iload_n 1) (len := 1) (okD_ok (by decide +kernel)) rfl
theorem e276_68 (q : ia n a j) : rf d 276 68 ls (.int j :: .ref a :: s) (SH n, I, L, R, nc, ns, nx) = rf d 276 69 ls (.int (I a j.toNatClampNeg) :: s) (SH n, I, L, R, nc, ns, nx) := g_ial (by decide +kernel) q
theorem e276_69 : rf d 276 69 [l0, l1, l2, l3, l4, some (.int x), l6] s h = rf d 276 71 [l0, l1, l2, l3, l4, some (.int x), l6] (.int x :: s) h := rf_pure (i := .iload 5) (len := 2) (okD_ok (by decide +kernel)) rfl
theorem e276_71 (hcat : ip_cat s ≤ 8) : rf (d + 1) 276 71 ls (.int x1 :: .int x0 :: s) h = rf_k (d + 1) 276 71 ls s (cf d 186 [.int x0, .int x1] h) := g_cs (idx := 234) [.int x1, .int x0] (by decide +kernel) ow276 ms_8_234 mt_8_234 (by decide) rfl mL186 rfl hcat
theorem e276_74 : rf d 276 74 ls (.int x :: s) h = if x = 0 then rf d 276 81 ls s h else rf d 276 77 ls s h := g_if (c := .eq) (off := 7) _ (by decide +kernel) rfl cmp_d
theorem e276_77 : rf d 276 77 ls s h = rf d 276 78 ls (.int (-1) :: s) h := rf_pure (i := .iconst (-1)) (len := 1) (okD_ok (by decide +kernel)) rfl
theorem e276_78 : rf d 276 78 ls s h = rf d 276 100 ls s h := rf_goto ⟨okD_ok (i := .goto (22)) (len := 3) (by decide +kernel), rfl⟩
theorem e276_81 : rf d 276 81 [some (.ref a), l1, l2, l3, l4, l5, l6] s h = rf d 276 82 [some (.ref a), l1, l2, l3, l4, l5, l6] (.ref a :: s) h := rf_pure (i := .aload_n 0) (len := 1) (okD_ok (by decide +kernel)) rfl
theorem e276_82 (hR : LYR R) : rf d 276 82 ls (.ref 265 :: s) (SH n, I, L, R, nc, ns, nx) = rf d 276 85 ls (.ref 296 :: s) (SH n, I, L, R, nc, ns, nx) := g_R (idx := 106) (by decide +kernel) ow276 f_8_106 rfl rfl (by decide) (ly_265_46 hR)
theorem e276_85 : rf d 276 85 [l0, some (.int x), l2, l3, l4, l5, l6] s h = rf d 276 86 [l0, some (.int x), l2, l3, l4, l5, l6] (.int x :: s) h := rf_pure (i := .iload_n 1) (len := 1) (okD_ok (by decide +kernel)) rfl
theorem e276_86 (q : ia n a j) : rf d 276 86 ls (.int j :: .ref a :: s) (SH n, I, L, R, nc, ns, nx) = rf d 276 87 ls (.int (I a j.toNatClampNeg) :: s) (SH n, I, L, R, nc, ns, nx) := g_ial (by decide +kernel) q
theorem e276_87 : rf d 276 87 [l0, l1, l2, l3, l4, some (.int x), l6] s h = rf d 276 89 [l0, l1, l2, l3, l4, some (.int x), l6] (.int x :: s) h := rf_pure (i := .iload 5) (len := 2) (okD_ok (by decide +kernel)) rfl
theorem e276_89 (hcat : ip_cat s ≤ 8) : rf (d + 1) 276 89 ls (.int x1 :: .int x0 :: s) h = rf_k (d + 1) 276 89 ls s (cf d 186 [.int x0, .int x1] h) := g_cs (idx := 234) [.int x1, .int x0] (by decide +kernel) ow276 ms_8_234 mt_8_234 (by decide) rfl mL186 rfl hcat
theorem e276_92 : rf d 276 92 ls (.int x :: s) h = if x = 0 then rf d 276 99 ls s h else rf d 276 95 ls s h := g_if (c := .eq) (off := 7) _ (by decide +kernel) rfl cmp_d
theorem e276_95 : rf d 276 95 ls s h = rf d 276 96 ls (.int 0 :: s) h := rf_pure (i := .iconst (0)) (len := 1) (okD_ok (by decide +kernel)) rfl
theorem e276_96 : rf d 276 96 ls s h = rf d 276 100 ls s h := rf_goto ⟨okD_ok (i := .goto (4)) (len := 3) (by decide +kernel), rfl⟩
theorem e276_99 : rf d 276 99 ls s h = rf d 276 100 ls (.int 1 :: s) h := rf_pure (i := .iconst (1)) (len := 1) (okD_ok (by decide +kernel)) rfl
theorem e276_100 (hn : ip_nl l5 = true) : rf d 276 100 [l0, l1, l2, l3, l4, l5, l6] (.int x :: s) h = rf d 276 102 [l0, l1, l2, l3, l4, l5, some (.int x)] s h := g_sti (i := .istore 6) (len := 2) (q := 5) (p := 2) (by decide +kernel) rfl rfl hn
theorem e276_102 : rf d 276 102 [l0, l1, l2, l3, some (.int x), l5, l6] s h = rf d 276 104 [l0, l1, l2, l3, some (.int x), l5, l6] (.int x :: s) h := rf_pure (i := .iload 4) (len := 2) (okD_ok (by decide +kernel)) rfl
theorem e276_104 : rf d 276 104 [l0, l1, l2, l3, l4, l5, some (.int x)] s h = rf d 276 106 [l0, l1, l2, l3, l4, l5, some (.int x)] (.int x :: s) h := rf_pure (i := .iload 6) (len := 2) (okD_ok (by decide +kernel)) rfl
theorem e276_106 : rf d 276 106 [l0, l1, some (.int x), l3, l4, l5, l6] s h = rf d 276 107 [l0, l1, some (.int x), l3, l4, l5, l6] (.int x :: s) h := rf_pure (i := .iload_n 2) (len := 1) (okD_ok (by decide +kernel)) rfl
theorem e276_107 : rf d 276 107 ls (.int y :: .int x :: s) h = if ¬ x = y then rf d 276 130 ls s h else rf d 276 110 ls s h := g_ic (c := .ne) (off := 23) _ (by decide +kernel) rfl cmp_d
theorem e276_110 : rf d 276 110 [l0, l1, l2, some (.int x), l4, l5, l6] s h = rf d 276 111 [l0, l1, l2, some (.int x), l4, l5, l6] (.int x :: s) h := rf_pure (i := .iload_n 3) (len := 1) (okD_ok (by decide +kernel)) rfl
theorem e276_111 : rf d 276 111 ls s h = rf d 276 112 ls (.int (-1) :: s) h := rf_pure (i := .iconst (-1)) (len := 1) (okD_ok (by decide +kernel)) rfl
theorem e276_112 : rf d 276 112 ls (.int y :: .int x :: s) h = if x = y then rf d 276 126 ls s h else rf d 276 115 ls s h := g_ic (c := .eq) (off := 14) _ (by decide +kernel) rfl cmp_d
theorem e276_115 : rf d 276 115 [some (.ref a), l1, l2, l3, l4, l5, l6] s h = rf d 276 116 [some (.ref a), l1, l2, l3, l4, l5, l6] (.ref a :: s) h := rf_pure (i := .aload_n 0) (len := 1) (okD_ok (by decide +kernel)) rfl
theorem e276_116 (hR : LYR R) : rf d 276 116 ls (.ref 265 :: s) (SH n, I, L, R, nc, ns, nx) = rf d 276 119 ls (.ref 275 :: s) (SH n, I, L, R, nc, ns, nx) := g_R (idx := 42) (by decide +kernel) ow276 f_8_42 rfl rfl (by decide) (ly_265_21 hR)
theorem e276_119 : rf d 276 119 [l0, l1, l2, l3, l4, some (.int x), l6] s h = rf d 276 121 [l0, l1, l2, l3, l4, some (.int x), l6] (.int x :: s) h := rf_pure (i := .iload 5) (len := 2) (okD_ok (by decide +kernel)) rfl
theorem e276_121 (q : ia n a j) : rf d 276 121 ls (.int j :: .ref a :: s) (SH n, I, L, R, nc, ns, nx) = rf d 276 122 ls (.int (I a j.toNatClampNeg) :: s) (SH n, I, L, R, nc, ns, nx) := g_ial (by decide +kernel) q
theorem e276_122 : rf d 276 122 [l0, l1, l2, some (.int x), l4, l5, l6] s h = rf d 276 123 [l0, l1, l2, some (.int x), l4, l5, l6] (.int x :: s) h := rf_pure (i := .iload_n 3) (len := 1) (okD_ok (by decide +kernel)) rfl
theorem e276_123 : rf d 276 123 ls (.int y :: .int x :: s) h = if ¬ x = y then rf d 276 130 ls s h else rf d 276 126 ls s h := g_ic (c := .ne) (off := 7) _ (by decide +kernel) rfl cmp_d
theorem e276_126 : rf d 276 126 ls s h = rf d 276 127 ls (.int 1 :: s) h := rf_pure (i := .iconst (1)) (len := 1) (okD_ok (by decide +kernel)) rfl
theorem e276_127 : rf d 276 127 ls s h = rf d 276 131 ls s h := rf_goto ⟨okD_ok (i := .goto (4)) (len := 3) (by decide +kernel), rfl⟩
theorem e276_130 : rf d 276 130 ls s h = rf d 276 131 ls (.int 0 :: s) h := rf_pure (i := .iconst (0)) (len := 1) (okD_ok (by decide +kernel)) rfl
theorem e276_131 : rf d 276 131 ls (.int y :: .int x :: s) h = rf d 276 132 ls (.int (x + y) :: s) h := rf_pure (i := .iadd) (len := 1) (okD_ok (by decide +kernel)) rfl
theorem e276_132 (hn : ip_nl l3 = true) : rf d 276 132 [l0, l1, l2, l3, l4, l5, l6] (.int x :: s) h = rf d 276 134 [l0, l1, l2, l3, some (.int x), l5, l6] s h := g_sti (i := .istore 4) (len := 2) (q := 3) (p := 2) (by decide +kernel) rfl rfl hn
theorem e276_134 (hn : ip_nl l4 = true) : rf d 276 134 [l0, l1, l2, l3, l4, some (.int x), l6] s h = rf d 276 137 [l0, l1, l2, l3, l4, some (.int (x + 1)), l6] s h := g_inc (q := 4) (z := 1) (w := 1) (x := x) (by decide) (by decide +kernel) rfl rfl hn
theorem e276_137 : rf d 276 137 ls s h = rf d 276 54 ls s h := rf_goto ⟨okD_ok (i := .goto (-83)) (len := 3) (by decide +kernel), rfl⟩
theorem e276_140 : rf d 276 140 [l0, l1, l2, l3, some (.int x), l5, l6] s h = rf d 276 142 [l0, l1, l2, l3, some (.int x), l5, l6] (.int x :: s) h := rf_pure (i := .iload 4) (len := 2) (okD_ok (by decide +kernel)) rfl
theorem e276_142 : rf d 276 142 ls [.int x] h = some (.inl (some (.int x)), h) := g_ri (by decide +kernel) rt276
theorem en277 : cf d 277 [.ref a] h = rf d 277 0 [some (.ref a), none, none, none, none] [] h := rfl
theorem e277_0 : rf d 277 0 [some (.ref a), l1, l2, l3, l4] s h = rf d 277 1 [some (.ref a), l1, l2, l3, l4] (.ref a :: s) h := rf_pure (i := .aload_n 0) (len := 1) (okD_ok (by decide +kernel)) rfl
theorem e277_1 : rf d 277 1 ls s h = rf d 277 2 ls (.int 0 :: s) h := rf_pure (i := .iconst (0)) (len := 1) (okD_ok (by decide +kernel)) rfl
theorem e277_2 : rf d 277 2 ls (.int x :: .ref 265 :: s) (SH n, I, L, R, nc, ns, nx) = rf d 277 5 ls s (SH n, ip_up I 265 0 x, L, R, nc, ns, nx) := g_pI (idx := 142) (by decide +kernel) ow277 f_8_142 rfl (by decide +kernel) rfl (by decide)
theorem e277_5 : rf d 277 5 [some (.ref a), l1, l2, l3, l4] s h = rf d 277 6 [some (.ref a), l1, l2, l3, l4] (.ref a :: s) h := rf_pure (i := .aload_n 0) (len := 1) (okD_ok (by decide +kernel)) rfl
theorem e277_6 : rf d 277 6 ls s h = rf d 277 7 ls (.int 0 :: s) h := rf_pure (i := .iconst (0)) (len := 1) (okD_ok (by decide +kernel)) rfl
theorem e277_7 : rf d 277 7 ls (.int x :: .ref 265 :: s) (SH n, I, L, R, nc, ns, nx) = rf d 277 10 ls s (SH n, ip_up I 265 70 x, L, R, nc, ns, nx) := g_pI (idx := 444) (by decide +kernel) ow277 f_8_444 rfl (by decide +kernel) rfl (by decide)
theorem e277_10 : rf d 277 10 ls s h = rf d 277 11 ls (.int 0 :: s) h := rf_pure (i := .iconst (0)) (len := 1) (okD_ok (by decide +kernel)) rfl
theorem e277_11 (hn : ip_nl l0 = true) : rf d 277 11 [l0, l1, l2, l3, l4] (.int x :: s) h = rf d 277 12 [l0, some (.int x), l2, l3, l4] s h := g_sti (i := .istore_n 1) (len := 1) (q := 0) (p := 1) (by decide +kernel) rfl rfl hn
theorem e277_12 : rf d 277 12 ls s h = rf d 277 13 ls (.int 0 :: s) h := rf_pure (i := .iconst (0)) (len := 1) (okD_ok (by decide +kernel)) rfl
theorem e277_13 (hn : ip_nl l1 = true) : rf d 277 13 [l0, l1, l2, l3, l4] (.int x :: s) h = rf d 277 14 [l0, l1, some (.int x), l3, l4] s h := g_sti (i := .istore_n 2) (len := 1) (q := 1) (p := 1) (by decide +kernel) rfl rfl hn
theorem e277_14 : rf d 277 14 [some (.ref a), l1, l2, l3, l4] s h = rf d 277 15 [some (.ref a), l1, l2, l3, l4] (.ref a :: s) h := rf_pure (i := .aload_n 0) (len := 1) (okD_ok (by decide +kernel)) rfl
theorem e277_15 : rf d 277 15 ls s h = rf d 277 16 ls (.int 0 :: s) h := rf_pure (i := .iconst (0)) (len := 1) (okD_ok (by decide +kernel)) rfl
theorem e277_16 (hcat : ip_cat s ≤ 8) : rf (d + 1) 277 16 ls (.int x0 :: .ref 265 :: s) (SH n, I, L, R, nc, ns, nx) = rf_k (d + 1) 277 16 ls s (cf d 278 [.ref 265, .int x0] (SH n, I, L, R, nc, ns, nx)) := g_cv (idx := 464) (t := 8) [.int x0] (by decide +kernel) ow277 ms_8_464 mt_8_464 cy278_8 rfl rfl mL278 rfl rfl (by decide) hcat
theorem e277_19 : rf d 277 19 [l0, some (.int x), l2, l3, l4] s h = rf d 277 20 [l0, some (.int x), l2, l3, l4] (.int x :: s) h := rf_pure (i := .iload_n 1) (len := 1) (okD_ok (by decide +kernel)) rfl
theorem e277_20 : rf d 277 20 ls s h = rf d 277 21 ls (.int (-1) :: s) h := rf_pure (i := .iconst (-1)) (len := 1) (okD_ok (by decide +kernel)) rfl
theorem e277_21 : rf d 277 21 ls (.int y :: .int x :: s) h = if x = y then rf d 277 114 ls s h else rf d 277 24 ls s h := g_ic (c := .eq) (off := 93) _ (by decide +kernel) rfl cmp_d
theorem e277_24 : rf d 277 24 [some (.ref a), l1, l2, l3, l4] s h = rf d 277 25 [some (.ref a), l1, l2, l3, l4] (.ref a :: s) h := rf_pure (i := .aload_n 0) (len := 1) (okD_ok (by decide +kernel)) rfl
theorem e277_25 : rf d 277 25 [l0, some (.int x), l2, l3, l4] s h = rf d 277 26 [l0, some (.int x), l2, l3, l4] (.int x :: s) h := rf_pure (i := .iload_n 1) (len := 1) (okD_ok (by decide +kernel)) rfl
theorem e277_26 : rf d 277 26 [l0, l1, some (.int x), l3, l4] s h = rf d 277 27 [l0, l1, some (.int x), l3, l4] (.int x :: s) h := rf_pure (i := .iload_n 2) (len := 1) (okD_ok (by decide +kernel)) rfl
theorem e277_27 (hcat : ip_cat s ≤ 8) : rf (d + 1) 277 27 ls (.int x1 :: .int x0 :: .ref 265 :: s) (SH n, I, L, R, nc, ns, nx) = rf_k (d + 1) 277 27 ls s (cf d 262 [.ref 265, .int x0, .int x1] (SH n, I, L, R, nc, ns, nx)) := g_cv (idx := 438) (t := 8) [.int x1, .int x0] (by decide +kernel) ow277 ms_8_438 mt_8_438 cy262_8 rfl rfl mL262 rfl rfl (by decide) hcat
theorem e277_30 (hn : ip_nl l2 = true) : rf d 277 30 [l0, l1, l2, l3, l4] (.int x :: s) h = rf d 277 31 [l0, l1, l2, some (.int x), l4] s h := g_sti (i := .istore_n 3) (len := 1) (q := 2) (p := 1) (by decide +kernel) rfl rfl hn
theorem e277_31 : rf d 277 31 [l0, l1, l2, some (.int x), l4] s h = rf d 277 32 [l0, l1, l2, some (.int x), l4] (.int x :: s) h := rf_pure (i := .iload_n 3) (len := 1) (okD_ok (by decide +kernel)) rfl
theorem e277_32 : rf d 277 32 ls s h = rf d 277 33 ls (.int (-1) :: s) h := rf_pure (i := .iconst (-1)) (len := 1) (okD_ok (by decide +kernel)) rfl
theorem e277_33 : rf d 277 33 ls (.int y :: .int x :: s) h = if x = y then rf d 277 50 ls s h else rf d 277 36 ls s h := g_ic (c := .eq) (off := 17) _ (by decide +kernel) rfl cmp_d
theorem e277_36 : rf d 277 36 [l0, l1, l2, some (.int x), l4] s h = rf d 277 37 [l0, l1, l2, some (.int x), l4] (.int x :: s) h := rf_pure (i := .iload_n 3) (len := 1) (okD_ok (by decide +kernel)) rfl
theorem e277_37 : rf d 277 37 [some (.ref a), l1, l2, l3, l4] s h = rf d 277 38 [some (.ref a), l1, l2, l3, l4] (.ref a :: s) h := rf_pure (i := .aload_n 0) (len := 1) (okD_ok (by decide +kernel)) rfl
theorem e277_38 : rf d 277 38 [l0, some (.int x), l2, l3, l4] s h = rf d 277 39 [l0, some (.int x), l2, l3, l4] (.int x :: s) h := rf_pure (i := .iload_n 1) (len := 1) (okD_ok (by decide +kernel)) rfl
theorem e277_39 : rf d 277 39 ls s h = rf d 277 40 ls (.int 0 :: s) h := rf_pure (i := .iconst (0)) (len := 1) (okD_ok (by decide +kernel)) rfl
theorem e277_40 (hcat : ip_cat s ≤ 8) : rf (d + 1) 277 40 ls (.int x1 :: .int x0 :: .ref 265 :: s) (SH n, I, L, R, nc, ns, nx) = rf_k (d + 1) 277 40 ls s (cf d 262 [.ref 265, .int x0, .int x1] (SH n, I, L, R, nc, ns, nx)) := g_cv (idx := 438) (t := 8) [.int x1, .int x0] (by decide +kernel) ow277 ms_8_438 mt_8_438 cy262_8 rfl rfl mL262 rfl rfl (by decide) hcat
theorem e277_43 : rf d 277 43 ls (.int y :: .int x :: s) h = if ¬ x = y then rf d 277 50 ls s h else rf d 277 46 ls s h := g_ic (c := .ne) (off := 7) _ (by decide +kernel) rfl cmp_d
theorem e277_46 : rf d 277 46 ls s h = rf d 277 47 ls (.int 1 :: s) h := rf_pure (i := .iconst (1)) (len := 1) (okD_ok (by decide +kernel)) rfl
theorem e277_47 : rf d 277 47 ls s h = rf d 277 51 ls s h := rf_goto ⟨okD_ok (i := .goto (4)) (len := 3) (by decide +kernel), rfl⟩
theorem e277_50 : rf d 277 50 ls s h = rf d 277 51 ls (.int 0 :: s) h := rf_pure (i := .iconst (0)) (len := 1) (okD_ok (by decide +kernel)) rfl
theorem e277_51 (hn : ip_nl l3 = true) : rf d 277 51 [l0, l1, l2, l3, l4] (.int x :: s) h = rf d 277 53 [l0, l1, l2, l3, some (.int x)] s h := g_sti (i := .istore 4) (len := 2) (q := 3) (p := 2) (by decide +kernel) rfl rfl hn
theorem e277_53 : rf d 277 53 [l0, l1, l2, some (.int x), l4] s h = rf d 277 54 [l0, l1, l2, some (.int x), l4] (.int x :: s) h := rf_pure (i := .iload_n 3) (len := 1) (okD_ok (by decide +kernel)) rfl
theorem e277_54 : rf d 277 54 ls s h = rf d 277 55 ls (.int (-1) :: s) h := rf_pure (i := .iconst (-1)) (len := 1) (okD_ok (by decide +kernel)) rfl
theorem e277_55 : rf d 277 55 ls (.int y :: .int x :: s) h = if x = y then rf d 277 86 ls s h else rf d 277 58 ls s h := g_ic (c := .eq) (off := 31) _ (by decide +kernel) rfl cmp_d
theorem e277_58 : rf d 277 58 [some (.ref a), l1, l2, l3, l4] s h = rf d 277 59 [some (.ref a), l1, l2, l3, l4] (.ref a :: s) h := rf_pure (i := .aload_n 0) (len := 1) (okD_ok (by decide +kernel)) rfl
theorem e277_59 : rf d 277 59 [l0, l1, l2, l3, some (.int x)] s h = rf d 277 61 [l0, l1, l2, l3, some (.int x)] (.int x :: s) h := rf_pure (i := .iload 4) (len := 2) (okD_ok (by decide +kernel)) rfl
theorem e277_61 : rf d 277 61 ls (.int x :: s) h = if x = 0 then rf d 277 69 ls s h else rf d 277 64 ls s h := g_if (c := .eq) (off := 8) _ (by decide +kernel) rfl cmp_d
theorem e277_64 : rf d 277 64 ls s h = rf d 277 66 ls (.int 40 :: s) h := rf_pure (i := .bipush (40)) (len := 2) (okD_ok (by decide +kernel)) rfl
theorem e277_66 : rf d 277 66 ls s h = rf d 277 71 ls s h := rf_goto ⟨okD_ok (i := .goto (5)) (len := 3) (by decide +kernel), rfl⟩
theorem e277_69 : rf d 277 69 ls s h = rf d 277 71 ls (.int 44 :: s) h := rf_pure (i := .bipush (44)) (len := 2) (okD_ok (by decide +kernel)) rfl
theorem e277_71 (hcat : ip_cat s ≤ 8) : rf (d + 1) 277 71 ls (.int x0 :: .ref 265 :: s) (SH n, I, L, R, nc, ns, nx) = rf_k (d + 1) 277 71 ls s (cf d 274 [.ref 265, .int x0] (SH n, I, L, R, nc, ns, nx)) := g_cv (idx := 447) (t := 8) [.int x0] (by decide +kernel) ow277 ms_8_447 mt_8_447 cy274_8 rfl rfl mL274 rfl rfl (by decide) hcat
theorem e277_74 : rf d 277 74 [some (.ref a), l1, l2, l3, l4] s h = rf d 277 75 [some (.ref a), l1, l2, l3, l4] (.ref a :: s) h := rf_pure (i := .aload_n 0) (len := 1) (okD_ok (by decide +kernel)) rfl
theorem e277_75 : rf d 277 75 [l0, l1, l2, some (.int x), l4] s h = rf d 277 76 [l0, l1, l2, some (.int x), l4] (.int x :: s) h := rf_pure (i := .iload_n 3) (len := 1) (okD_ok (by decide +kernel)) rfl
theorem e277_76 (hcat : ip_cat s ≤ 8) : rf (d + 1) 277 76 ls (.int x0 :: .ref 265 :: s) (SH n, I, L, R, nc, ns, nx) = rf_k (d + 1) 277 76 ls s (cf d 278 [.ref 265, .int x0] (SH n, I, L, R, nc, ns, nx)) := g_cv (idx := 464) (t := 8) [.int x0] (by decide +kernel) ow277 ms_8_464 mt_8_464 cy278_8 rfl rfl mL278 rfl rfl (by decide) hcat
theorem e277_79 : rf d 277 79 [l0, l1, l2, some (.int x), l4] s h = rf d 277 80 [l0, l1, l2, some (.int x), l4] (.int x :: s) h := rf_pure (i := .iload_n 3) (len := 1) (okD_ok (by decide +kernel)) rfl
theorem e277_80 (hn : ip_nl l0 = true) : rf d 277 80 [l0, l1, l2, l3, l4] (.int x :: s) h = rf d 277 81 [l0, some (.int x), l2, l3, l4] s h := g_sti (i := .istore_n 1) (len := 1) (q := 0) (p := 1) (by decide +kernel) rfl rfl hn
theorem e277_81 : rf d 277 81 ls s h = rf d 277 82 ls (.int 0 :: s) h := rf_pure (i := .iconst (0)) (len := 1) (okD_ok (by decide +kernel)) rfl
theorem e277_82 (hn : ip_nl l1 = true) : rf d 277 82 [l0, l1, l2, l3, l4] (.int x :: s) h = rf d 277 83 [l0, l1, some (.int x), l3, l4] s h := g_sti (i := .istore_n 2) (len := 1) (q := 1) (p := 1) (by decide +kernel) rfl rfl hn
theorem e277_83 : rf d 277 83 ls s h = rf d 277 111 ls s h := rf_goto ⟨okD_ok (i := .goto (28)) (len := 3) (by decide +kernel), rfl⟩
theorem e277_86 : rf d 277 86 [some (.ref a), l1, l2, l3, l4] s h = rf d 277 87 [some (.ref a), l1, l2, l3, l4] (.ref a :: s) h := rf_pure (i := .aload_n 0) (len := 1) (okD_ok (by decide +kernel)) rfl
theorem e277_87 : rf d 277 87 [l0, some (.int x), l2, l3, l4] s h = rf d 277 88 [l0, some (.int x), l2, l3, l4] (.int x :: s) h := rf_pure (i := .iload_n 1) (len := 1) (okD_ok (by decide +kernel)) rfl
theorem e277_88 : rf d 277 88 ls s h = rf d 277 89 ls (.int 0 :: s) h := rf_pure (i := .iconst (0)) (len := 1) (okD_ok (by decide +kernel)) rfl
theorem e277_89 (hcat : ip_cat s ≤ 8) : rf (d + 1) 277 89 ls (.int x1 :: .int x0 :: .ref 265 :: s) (SH n, I, L, R, nc, ns, nx) = rf_k (d + 1) 277 89 ls s (cf d 262 [.ref 265, .int x0, .int x1] (SH n, I, L, R, nc, ns, nx)) := g_cv (idx := 438) (t := 8) [.int x1, .int x0] (by decide +kernel) ow277 ms_8_438 mt_8_438 cy262_8 rfl rfl mL262 rfl rfl (by decide) hcat
theorem e277_92 : rf d 277 92 ls s h = rf d 277 93 ls (.int (-1) :: s) h := rf_pure (i := .iconst (-1)) (len := 1) (okD_ok (by decide +kernel)) rfl
theorem e277_93 : rf d 277 93 ls (.int y :: .int x :: s) h = if x = y then rf d 277 102 ls s h else rf d 277 96 ls s h := g_ic (c := .eq) (off := 9) _ (by decide +kernel) rfl cmp_d
theorem e277_96 : rf d 277 96 [some (.ref a), l1, l2, l3, l4] s h = rf d 277 97 [some (.ref a), l1, l2, l3, l4] (.ref a :: s) h := rf_pure (i := .aload_n 0) (len := 1) (okD_ok (by decide +kernel)) rfl
theorem e277_97 : rf d 277 97 ls s h = rf d 277 99 ls (.int 41 :: s) h := rf_pure (i := .bipush (41)) (len := 2) (okD_ok (by decide +kernel)) rfl
theorem e277_99 (hcat : ip_cat s ≤ 8) : rf (d + 1) 277 99 ls (.int x0 :: .ref 265 :: s) (SH n, I, L, R, nc, ns, nx) = rf_k (d + 1) 277 99 ls s (cf d 274 [.ref 265, .int x0] (SH n, I, L, R, nc, ns, nx)) := g_cv (idx := 447) (t := 8) [.int x0] (by decide +kernel) ow277 ms_8_447 mt_8_447 cy274_8 rfl rfl mL274 rfl rfl (by decide) hcat
theorem e277_102 : rf d 277 102 [l0, some (.int x), l2, l3, l4] s h = rf d 277 103 [l0, some (.int x), l2, l3, l4] (.int x :: s) h := rf_pure (i := .iload_n 1) (len := 1) (okD_ok (by decide +kernel)) rfl
theorem e277_103 (hn : ip_nl l1 = true) : rf d 277 103 [l0, l1, l2, l3, l4] (.int x :: s) h = rf d 277 104 [l0, l1, some (.int x), l3, l4] s h := g_sti (i := .istore_n 2) (len := 1) (q := 1) (p := 1) (by decide +kernel) rfl rfl hn
theorem e277_104 : rf d 277 104 [some (.ref a), l1, l2, l3, l4] s h = rf d 277 105 [some (.ref a), l1, l2, l3, l4] (.ref a :: s) h := rf_pure (i := .aload_n 0) (len := 1) (okD_ok (by decide +kernel)) rfl
theorem e277_105 (hR : LYR R) : rf d 277 105 ls (.ref 265 :: s) (SH n, I, L, R, nc, ns, nx) = rf d 277 108 ls (.ref 290 :: s) (SH n, I, L, R, nc, ns, nx) := g_R (idx := 88) (by decide +kernel) ow277 f_8_88 rfl rfl (by decide) (ly_265_40 hR)
theorem e277_108 : rf d 277 108 [l0, some (.int x), l2, l3, l4] s h = rf d 277 109 [l0, some (.int x), l2, l3, l4] (.int x :: s) h := rf_pure (i := .iload_n 1) (len := 1) (okD_ok (by decide +kernel)) rfl
theorem e277_109 (q : ia n a j) : rf d 277 109 ls (.int j :: .ref a :: s) (SH n, I, L, R, nc, ns, nx) = rf d 277 110 ls (.int (I a j.toNatClampNeg) :: s) (SH n, I, L, R, nc, ns, nx) := g_ial (by decide +kernel) q
theorem e277_110 (hn : ip_nl l0 = true) : rf d 277 110 [l0, l1, l2, l3, l4] (.int x :: s) h = rf d 277 111 [l0, some (.int x), l2, l3, l4] s h := g_sti (i := .istore_n 1) (len := 1) (q := 0) (p := 1) (by decide +kernel) rfl rfl hn
theorem e277_111 : rf d 277 111 ls s h = rf d 277 19 ls s h := rf_goto ⟨okD_ok (i := .goto (-92)) (len := 3) (by decide +kernel), rfl⟩
theorem e277_114 : rf d 277 114 [some (.ref a), l1, l2, l3, l4] s h = rf d 277 115 [some (.ref a), l1, l2, l3, l4] (.ref a :: s) h := rf_pure (i := .aload_n 0) (len := 1) (okD_ok (by decide +kernel)) rfl
theorem e277_115 : rf d 277 115 ls (.ref 265 :: s) (SH n, I, L, R, nc, ns, nx) = rf d 277 118 ls (.int (I 265 70) :: s) (SH n, I, L, R, nc, ns, nx) := g_I (idx := 444) (by decide +kernel) ow277 f_8_444 rfl rfl (by decide)
theorem e277_118 : rf d 277 118 ls [.int x] h = some (.inl (some (.int x)), h) := g_ri (by decide +kernel) rt277
theorem en278 : cf d 278 [.ref a, .int x0] h = rf d 278 0 [some (.ref a), some (.int x0)] [] h := rfl
theorem e278_0 : rf d 278 0 [l0, some (.int x)] s h = rf d 278 1 [l0, some (.int x)] (.int x :: s) h := rf_pure (i := .iload_n 1) (len := 1) (okD_ok (by decide +kernel)) rfl
theorem e278_1 : rf d 278 1 ls s h = rf d 278 3 ls (.int 9 :: s) h := rf_pure (i := .bipush (9)) (len := 2) (okD_ok (by decide +kernel)) rfl
theorem e278_3 : rf d 278 3 ls (.int y :: .int x :: s) h = if x ≤ y then rf d 278 17 ls s h else rf d 278 6 ls s h := g_ic (c := .le) (off := 14) _ (by decide +kernel) rfl cmp_d
theorem e278_6 : rf d 278 6 [some (.ref a), l1] s h = rf d 278 7 [some (.ref a), l1] (.ref a :: s) h := rf_pure (i := .aload_n 0) (len := 1) (okD_ok (by decide +kernel)) rfl
theorem e278_7 : rf d 278 7 ls s h = rf d 278 9 ls (.int 48 :: s) h := rf_pure (i := .bipush (48)) (len := 2) (okD_ok (by decide +kernel)) rfl
theorem e278_9 : rf d 278 9 [l0, some (.int x)] s h = rf d 278 10 [l0, some (.int x)] (.int x :: s) h := rf_pure (i := .iload_n 1) (len := 1) (okD_ok (by decide +kernel)) rfl
theorem e278_10 : rf d 278 10 ls s h = rf d 278 12 ls (.int 10 :: s) h := rf_pure (i := .bipush (10)) (len := 2) (okD_ok (by decide +kernel)) rfl
theorem e278_12 (hy : ¬ y = 0) : rf d 278 12 ls (.int y :: .int x :: s) h = rf d 278 13 ls (.int (x / y) :: s) h := g_iz (i := .idiv) (len := 1) (f := fun x y => x / y) (by decide +kernel) rfl hy
theorem e278_13 : rf d 278 13 ls (.int y :: .int x :: s) h = rf d 278 14 ls (.int (x + y) :: s) h := rf_pure (i := .iadd) (len := 1) (okD_ok (by decide +kernel)) rfl
theorem e278_14 (hcat : ip_cat s ≤ 8) : rf (d + 1) 278 14 ls (.int x0 :: .ref 265 :: s) (SH n, I, L, R, nc, ns, nx) = rf_k (d + 1) 278 14 ls s (cf d 274 [.ref 265, .int x0] (SH n, I, L, R, nc, ns, nx)) := g_cv (idx := 447) (t := 8) [.int x0] (by decide +kernel) ow278 ms_8_447 mt_8_447 cy274_8 rfl rfl mL274 rfl rfl (by decide) hcat
theorem e278_17 : rf d 278 17 [some (.ref a), l1] s h = rf d 278 18 [some (.ref a), l1] (.ref a :: s) h := rf_pure (i := .aload_n 0) (len := 1) (okD_ok (by decide +kernel)) rfl
theorem e278_18 : rf d 278 18 ls s h = rf d 278 20 ls (.int 48 :: s) h := rf_pure (i := .bipush (48)) (len := 2) (okD_ok (by decide +kernel)) rfl
theorem e278_20 : rf d 278 20 [l0, some (.int x)] s h = rf d 278 21 [l0, some (.int x)] (.int x :: s) h := rf_pure (i := .iload_n 1) (len := 1) (okD_ok (by decide +kernel)) rfl
theorem e278_21 : rf d 278 21 ls s h = rf d 278 23 ls (.int 10 :: s) h := rf_pure (i := .bipush (10)) (len := 2) (okD_ok (by decide +kernel)) rfl
theorem e278_23 (hy : ¬ y = 0) : rf d 278 23 ls (.int y :: .int x :: s) h = rf d 278 24 ls (.int (x - x / y * y) :: s) h := g_iz (i := .irem) (len := 1) (f := fun x y => x - x / y * y) (by decide +kernel) rfl hy
theorem e278_24 : rf d 278 24 ls (.int y :: .int x :: s) h = rf d 278 25 ls (.int (x + y) :: s) h := rf_pure (i := .iadd) (len := 1) (okD_ok (by decide +kernel)) rfl
theorem e278_25 (hcat : ip_cat s ≤ 8) : rf (d + 1) 278 25 ls (.int x0 :: .ref 265 :: s) (SH n, I, L, R, nc, ns, nx) = rf_k (d + 1) 278 25 ls s (cf d 274 [.ref 265, .int x0] (SH n, I, L, R, nc, ns, nx)) := g_cv (idx := 447) (t := 8) [.int x0] (by decide +kernel) ow278 ms_8_447 mt_8_447 cy274_8 rfl rfl mL274 rfl rfl (by decide) hcat
theorem e278_28 : rf d 278 28 [some (.ref a), l1] s h = rf d 278 29 [some (.ref a), l1] (.ref a :: s) h := rf_pure (i := .aload_n 0) (len := 1) (okD_ok (by decide +kernel)) rfl
theorem e278_29 : rf d 278 29 [some (.ref a), l1] s h = rf d 278 30 [some (.ref a), l1] (.ref a :: s) h := rf_pure (i := .aload_n 0) (len := 1) (okD_ok (by decide +kernel)) rfl
theorem e278_30 (hR : LYR R) : rf d 278 30 ls (.ref 265 :: s) (SH n, I, L, R, nc, ns, nx) = rf d 278 33 ls (.ref 289 :: s) (SH n, I, L, R, nc, ns, nx) := g_R (idx := 85) (by decide +kernel) ow278 f_8_85 rfl rfl (by decide) (ly_265_39 hR)
theorem e278_33 : rf d 278 33 [l0, some (.int x)] s h = rf d 278 34 [l0, some (.int x)] (.int x :: s) h := rf_pure (i := .iload_n 1) (len := 1) (okD_ok (by decide +kernel)) rfl
theorem e278_34 (q : ia n a j) : rf d 278 34 ls (.int j :: .ref a :: s) (SH n, I, L, R, nc, ns, nx) = rf d 278 35 ls (.int (I a j.toNatClampNeg) :: s) (SH n, I, L, R, nc, ns, nx) := g_ial (by decide +kernel) q
theorem e278_35 : rf d 278 35 ls (.int x :: s) h = if ¬ x = 0 then rf d 278 43 ls s h else rf d 278 38 ls s h := g_if (c := .ne) (off := 8) _ (by decide +kernel) rfl cmp_d
theorem e278_38 : rf d 278 38 ls s h = rf d 278 40 ls (.int 114 :: s) h := rf_pure (i := .bipush (114)) (len := 2) (okD_ok (by decide +kernel)) rfl
theorem e278_40 : rf d 278 40 ls s h = rf d 278 89 ls s h := rf_goto ⟨okD_ok (i := .goto (49)) (len := 3) (by decide +kernel), rfl⟩
theorem e278_43 : rf d 278 43 [some (.ref a), l1] s h = rf d 278 44 [some (.ref a), l1] (.ref a :: s) h := rf_pure (i := .aload_n 0) (len := 1) (okD_ok (by decide +kernel)) rfl
theorem e278_44 (hR : LYR R) : rf d 278 44 ls (.ref 265 :: s) (SH n, I, L, R, nc, ns, nx) = rf d 278 47 ls (.ref 291 :: s) (SH n, I, L, R, nc, ns, nx) := g_R (idx := 91) (by decide +kernel) ow278 f_8_91 rfl rfl (by decide) (ly_265_41 hR)
theorem e278_47 : rf d 278 47 [l0, some (.int x)] s h = rf d 278 48 [l0, some (.int x)] (.int x :: s) h := rf_pure (i := .iload_n 1) (len := 1) (okD_ok (by decide +kernel)) rfl
theorem e278_48 (q : ia n a j) : rf d 278 48 ls (.int j :: .ref a :: s) (SH n, I, L, R, nc, ns, nx) = rf d 278 49 ls (.int (I a j.toNatClampNeg) :: s) (SH n, I, L, R, nc, ns, nx) := g_ial (by decide +kernel) q
theorem e278_49 : rf d 278 49 ls (.int x :: s) h = if ¬ x = 0 then rf d 278 57 ls s h else rf d 278 52 ls s h := g_if (c := .ne) (off := 8) _ (by decide +kernel) rfl cmp_d
theorem e278_52 : rf d 278 52 ls s h = rf d 278 54 ls (.int 97 :: s) h := rf_pure (i := .bipush (97)) (len := 2) (okD_ok (by decide +kernel)) rfl
theorem e278_54 : rf d 278 54 ls s h = rf d 278 89 ls s h := rf_goto ⟨okD_ok (i := .goto (35)) (len := 3) (by decide +kernel), rfl⟩
theorem e278_57 : rf d 278 57 [some (.ref a), l1] s h = rf d 278 58 [some (.ref a), l1] (.ref a :: s) h := rf_pure (i := .aload_n 0) (len := 1) (okD_ok (by decide +kernel)) rfl
theorem e278_58 (hR : LYR R) : rf d 278 58 ls (.ref 265 :: s) (SH n, I, L, R, nc, ns, nx) = rf d 278 61 ls (.ref 291 :: s) (SH n, I, L, R, nc, ns, nx) := g_R (idx := 91) (by decide +kernel) ow278 f_8_91 rfl rfl (by decide) (ly_265_41 hR)
theorem e278_61 : rf d 278 61 [l0, some (.int x)] s h = rf d 278 62 [l0, some (.int x)] (.int x :: s) h := rf_pure (i := .iload_n 1) (len := 1) (okD_ok (by decide +kernel)) rfl
theorem e278_62 (q : ia n a j) : rf d 278 62 ls (.int j :: .ref a :: s) (SH n, I, L, R, nc, ns, nx) = rf d 278 63 ls (.int (I a j.toNatClampNeg) :: s) (SH n, I, L, R, nc, ns, nx) := g_ial (by decide +kernel) q
theorem e278_63 : rf d 278 63 ls s h = rf d 278 64 ls (.int 1 :: s) h := rf_pure (i := .iconst (1)) (len := 1) (okD_ok (by decide +kernel)) rfl
theorem e278_64 : rf d 278 64 ls (.int y :: .int x :: s) h = if ¬ x = y then rf d 278 72 ls s h else rf d 278 67 ls s h := g_ic (c := .ne) (off := 8) _ (by decide +kernel) rfl cmp_d
theorem e278_67 : rf d 278 67 ls s h = rf d 278 69 ls (.int 111 :: s) h := rf_pure (i := .bipush (111)) (len := 2) (okD_ok (by decide +kernel)) rfl
theorem e278_69 : rf d 278 69 ls s h = rf d 278 89 ls s h := rf_goto ⟨okD_ok (i := .goto (20)) (len := 3) (by decide +kernel), rfl⟩
theorem e278_72 : rf d 278 72 [some (.ref a), l1] s h = rf d 278 73 [some (.ref a), l1] (.ref a :: s) h := rf_pure (i := .aload_n 0) (len := 1) (okD_ok (by decide +kernel)) rfl
theorem e278_73 (hR : LYR R) : rf d 278 73 ls (.ref 265 :: s) (SH n, I, L, R, nc, ns, nx) = rf d 278 76 ls (.ref 291 :: s) (SH n, I, L, R, nc, ns, nx) := g_R (idx := 91) (by decide +kernel) ow278 f_8_91 rfl rfl (by decide) (ly_265_41 hR)
theorem e278_76 : rf d 278 76 [l0, some (.int x)] s h = rf d 278 77 [l0, some (.int x)] (.int x :: s) h := rf_pure (i := .iload_n 1) (len := 1) (okD_ok (by decide +kernel)) rfl
theorem e278_77 (q : ia n a j) : rf d 278 77 ls (.int j :: .ref a :: s) (SH n, I, L, R, nc, ns, nx) = rf d 278 78 ls (.int (I a j.toNatClampNeg) :: s) (SH n, I, L, R, nc, ns, nx) := g_ial (by decide +kernel) q
theorem e278_78 : rf d 278 78 ls s h = rf d 278 79 ls (.int 2 :: s) h := rf_pure (i := .iconst (2)) (len := 1) (okD_ok (by decide +kernel)) rfl
theorem e278_79 : rf d 278 79 ls (.int y :: .int x :: s) h = if ¬ x = y then rf d 278 87 ls s h else rf d 278 82 ls s h := g_ic (c := .ne) (off := 8) _ (by decide +kernel) rfl cmp_d
theorem e278_82 : rf d 278 82 ls s h = rf d 278 84 ls (.int 118 :: s) h := rf_pure (i := .bipush (118)) (len := 2) (okD_ok (by decide +kernel)) rfl
theorem e278_84 : rf d 278 84 ls s h = rf d 278 89 ls s h := rf_goto ⟨okD_ok (i := .goto (5)) (len := 3) (by decide +kernel), rfl⟩
theorem e278_87 : rf d 278 87 ls s h = rf d 278 89 ls (.int 109 :: s) h := rf_pure (i := .bipush (109)) (len := 2) (okD_ok (by decide +kernel)) rfl
theorem e278_89 (hcat : ip_cat s ≤ 8) : rf (d + 1) 278 89 ls (.int x0 :: .ref 265 :: s) (SH n, I, L, R, nc, ns, nx) = rf_k (d + 1) 278 89 ls s (cf d 274 [.ref 265, .int x0] (SH n, I, L, R, nc, ns, nx)) := g_cv (idx := 447) (t := 8) [.int x0] (by decide +kernel) ow278 ms_8_447 mt_8_447 cy274_8 rfl rfl mL274 rfl rfl (by decide) hcat
theorem e278_92 : rf d 278 92 ls [] h = some (.inl none, h) := g_rv (by decide +kernel) rt278
theorem en279 : cf d 279 [.ref a, .int x0, .int x1] h = rf d 279 0 [some (.ref a), some (.int x0), some (.int x1), none, none, none] [] h := rfl
theorem e279_0 : rf d 279 0 [some (.ref a), l1, l2, l3, l4, l5] s h = rf d 279 1 [some (.ref a), l1, l2, l3, l4, l5] (.ref a :: s) h := rf_pure (i := .aload_n 0) (len := 1) (okD_ok (by decide +kernel)) rfl
theorem e279_1 : rf d 279 1 [some (.ref a), l1, l2, l3, l4, l5] s h = rf d 279 2 [some (.ref a), l1, l2, l3, l4, l5] (.ref a :: s) h := rf_pure (i := .aload_n 0) (len := 1) (okD_ok (by decide +kernel)) rfl
theorem e279_2 : rf d 279 2 [l0, some (.int x), l2, l3, l4, l5] s h = rf d 279 3 [l0, some (.int x), l2, l3, l4, l5] (.int x :: s) h := rf_pure (i := .iload_n 1) (len := 1) (okD_ok (by decide +kernel)) rfl
theorem e279_3 (hcat : ip_cat s ≤ 8) : rf (d + 1) 279 3 ls (.int x0 :: .ref 265 :: s) (SH n, I, L, R, nc, ns, nx) = rf_k (d + 1) 279 3 ls s (cf d 244 [.ref 265, .int x0] (SH n, I, L, R, nc, ns, nx)) := g_cv (idx := 401) (t := 8) [.int x0] (by decide +kernel) ow279 ms_8_401 mt_8_401 cy244_8 rfl rfl mL244 rfl rfl (by decide) hcat
theorem e279_6 : rf d 279 6 ls (.int x :: s) h = if x = 0 then rf d 279 13 ls s h else rf d 279 9 ls s h := g_if (c := .eq) (off := 7) _ (by decide +kernel) rfl cmp_d
theorem e279_9 : rf d 279 9 ls s h = rf d 279 10 ls (.int 0 :: s) h := rf_pure (i := .iconst (0)) (len := 1) (okD_ok (by decide +kernel)) rfl
theorem e279_10 : rf d 279 10 ls s h = rf d 279 14 ls s h := rf_goto ⟨okD_ok (i := .goto (4)) (len := 3) (by decide +kernel), rfl⟩
theorem e279_13 : rf d 279 13 ls s h = rf d 279 14 ls (.int 1 :: s) h := rf_pure (i := .iconst (1)) (len := 1) (okD_ok (by decide +kernel)) rfl
theorem e279_14 : rf d 279 14 ls (.int x :: .ref 265 :: s) (SH n, I, L, R, nc, ns, nx) = rf d 279 17 ls s (SH n, ip_up I 265 0 x, L, R, nc, ns, nx) := g_pI (idx := 142) (by decide +kernel) ow279 f_8_142 rfl (by decide +kernel) rfl (by decide)
theorem e279_17 : rf d 279 17 [some (.ref a), l1, l2, l3, l4, l5] s h = rf d 279 18 [some (.ref a), l1, l2, l3, l4, l5] (.ref a :: s) h := rf_pure (i := .aload_n 0) (len := 1) (okD_ok (by decide +kernel)) rfl
theorem e279_18 : rf d 279 18 ls (.ref 265 :: s) (SH n, I, L, R, nc, ns, nx) = rf d 279 21 ls (.int (I 265 0) :: s) (SH n, I, L, R, nc, ns, nx) := g_I (idx := 142) (by decide +kernel) ow279 f_8_142 rfl rfl (by decide)
theorem e279_21 : rf d 279 21 ls (.int x :: s) h = if x ≤ 0 then rf d 279 26 ls s h else rf d 279 24 ls s h := g_if (c := .le) (off := 5) _ (by decide +kernel) rfl cmp_d
theorem e279_24 : rf d 279 24 ls s h = rf d 279 25 ls (.int 0 :: s) h := rf_pure (i := .iconst (0)) (len := 1) (okD_ok (by decide +kernel)) rfl
theorem e279_25 : rf d 279 25 ls [.int x] h = some (.inl (some (.int x)), h) := g_ri (by decide +kernel) rt279
theorem e279_26 : rf d 279 26 [some (.ref a), l1, l2, l3, l4, l5] s h = rf d 279 27 [some (.ref a), l1, l2, l3, l4, l5] (.ref a :: s) h := rf_pure (i := .aload_n 0) (len := 1) (okD_ok (by decide +kernel)) rfl
theorem e279_27 : rf d 279 27 [l0, some (.int x), l2, l3, l4, l5] s h = rf d 279 28 [l0, some (.int x), l2, l3, l4, l5] (.int x :: s) h := rf_pure (i := .iload_n 1) (len := 1) (okD_ok (by decide +kernel)) rfl
theorem e279_28 (hcat : ip_cat s ≤ 8) : rf (d + 1) 279 28 ls (.int x0 :: .ref 265 :: s) (SH n, I, L, R, nc, ns, nx) = rf_k (d + 1) 279 28 ls s (cf d 280 [.ref 265, .int x0] (SH n, I, L, R, nc, ns, nx)) := g_cv (idx := 467) (t := 8) [.int x0] (by decide +kernel) ow279 ms_8_467 mt_8_467 cy280_8 rfl rfl mL280 rfl rfl (by decide) hcat
theorem e279_31 : rf d 279 31 [l0, l1, some (.int x), l3, l4, l5] s h = rf d 279 32 [l0, l1, some (.int x), l3, l4, l5] (.int x :: s) h := rf_pure (i := .iload_n 2) (len := 1) (okD_ok (by decide +kernel)) rfl
theorem e279_32 : rf d 279 32 ls (.int y :: .int x :: s) h = rf d 279 33 ls (.int (x - y) :: s) h := rf_pure (i := .isub) (len := 1) (okD_ok (by decide +kernel)) rfl
theorem e279_33 (hn : ip_nl l2 = true) : rf d 279 33 [l0, l1, l2, l3, l4, l5] (.int x :: s) h = rf d 279 34 [l0, l1, l2, some (.int x), l4, l5] s h := g_sti (i := .istore_n 3) (len := 1) (q := 2) (p := 1) (by decide +kernel) rfl rfl hn
theorem e279_34 : rf d 279 34 [l0, l1, some (.int x), l3, l4, l5] s h = rf d 279 35 [l0, l1, some (.int x), l3, l4, l5] (.int x :: s) h := rf_pure (i := .iload_n 2) (len := 1) (okD_ok (by decide +kernel)) rfl
theorem e279_35 : rf d 279 35 ls (.int x :: s) h = if x < 0 then rf d 279 42 ls s h else rf d 279 38 ls s h := g_if (c := .lt) (off := 7) _ (by decide +kernel) rfl cmp_d
theorem e279_38 : rf d 279 38 [l0, l1, l2, some (.int x), l4, l5] s h = rf d 279 39 [l0, l1, l2, some (.int x), l4, l5] (.int x :: s) h := rf_pure (i := .iload_n 3) (len := 1) (okD_ok (by decide +kernel)) rfl
theorem e279_39 : rf d 279 39 ls (.int x :: s) h = if 0 ≤ x then rf d 279 44 ls s h else rf d 279 42 ls s h := g_if (c := .ge) (off := 5) _ (by decide +kernel) rfl cmp_d
theorem e279_42 : rf d 279 42 ls s h = rf d 279 43 ls (.int (-1) :: s) h := rf_pure (i := .iconst (-1)) (len := 1) (okD_ok (by decide +kernel)) rfl
theorem e279_43 : rf d 279 43 ls [.int x] h = some (.inl (some (.int x)), h) := g_ri (by decide +kernel) rt279
theorem e279_44 : rf d 279 44 [l0, some (.int x), l2, l3, l4, l5] s h = rf d 279 45 [l0, some (.int x), l2, l3, l4, l5] (.int x :: s) h := rf_pure (i := .iload_n 1) (len := 1) (okD_ok (by decide +kernel)) rfl
theorem e279_45 (hn : ip_nl l3 = true) : rf d 279 45 [l0, l1, l2, l3, l4, l5] (.int x :: s) h = rf d 279 47 [l0, l1, l2, l3, some (.int x), l5] s h := g_sti (i := .istore 4) (len := 2) (q := 3) (p := 2) (by decide +kernel) rfl rfl hn
theorem e279_47 : rf d 279 47 ls s h = rf d 279 48 ls (.int 0 :: s) h := rf_pure (i := .iconst (0)) (len := 1) (okD_ok (by decide +kernel)) rfl
theorem e279_48 (hn : ip_nl l4 = true) : rf d 279 48 [l0, l1, l2, l3, l4, l5] (.int x :: s) h = rf d 279 50 [l0, l1, l2, l3, l4, some (.int x)] s h := g_sti (i := .istore 5) (len := 2) (q := 4) (p := 2) (by decide +kernel) rfl rfl hn
theorem e279_50 : rf d 279 50 [l0, l1, l2, l3, l4, some (.int x)] s h = rf d 279 52 [l0, l1, l2, l3, l4, some (.int x)] (.int x :: s) h := rf_pure (i := .iload 5) (len := 2) (okD_ok (by decide +kernel)) rfl
theorem e279_52 : rf d 279 52 [l0, l1, l2, some (.int x), l4, l5] s h = rf d 279 53 [l0, l1, l2, some (.int x), l4, l5] (.int x :: s) h := rf_pure (i := .iload_n 3) (len := 1) (okD_ok (by decide +kernel)) rfl
theorem e279_53 : rf d 279 53 ls (.int y :: .int x :: s) h = if y ≤ x then rf d 279 71 ls s h else rf d 279 56 ls s h := g_ic (c := .ge) (off := 18) _ (by decide +kernel) rfl cmp_d
theorem e279_56 : rf d 279 56 [some (.ref a), l1, l2, l3, l4, l5] s h = rf d 279 57 [some (.ref a), l1, l2, l3, l4, l5] (.ref a :: s) h := rf_pure (i := .aload_n 0) (len := 1) (okD_ok (by decide +kernel)) rfl
theorem e279_57 (hR : LYR R) : rf d 279 57 ls (.ref 265 :: s) (SH n, I, L, R, nc, ns, nx) = rf d 279 60 ls (.ref 290 :: s) (SH n, I, L, R, nc, ns, nx) := g_R (idx := 88) (by decide +kernel) ow279 f_8_88 rfl rfl (by decide) (ly_265_40 hR)
theorem e279_60 : rf d 279 60 [l0, l1, l2, l3, some (.int x), l5] s h = rf d 279 62 [l0, l1, l2, l3, some (.int x), l5] (.int x :: s) h := rf_pure (i := .iload 4) (len := 2) (okD_ok (by decide +kernel)) rfl
theorem e279_62 (q : ia n a j) : rf d 279 62 ls (.int j :: .ref a :: s) (SH n, I, L, R, nc, ns, nx) = rf d 279 63 ls (.int (I a j.toNatClampNeg) :: s) (SH n, I, L, R, nc, ns, nx) := g_ial (by decide +kernel) q
theorem e279_63 (hn : ip_nl l3 = true) : rf d 279 63 [l0, l1, l2, l3, l4, l5] (.int x :: s) h = rf d 279 65 [l0, l1, l2, l3, some (.int x), l5] s h := g_sti (i := .istore 4) (len := 2) (q := 3) (p := 2) (by decide +kernel) rfl rfl hn
theorem e279_65 (hn : ip_nl l4 = true) : rf d 279 65 [l0, l1, l2, l3, l4, some (.int x)] s h = rf d 279 68 [l0, l1, l2, l3, l4, some (.int (x + 1))] s h := g_inc (q := 4) (z := 1) (w := 1) (x := x) (by decide) (by decide +kernel) rfl rfl hn
theorem e279_68 : rf d 279 68 ls s h = rf d 279 50 ls s h := rf_goto ⟨okD_ok (i := .goto (-18)) (len := 3) (by decide +kernel), rfl⟩
theorem e279_71 : rf d 279 71 [l0, l1, l2, l3, some (.int x), l5] s h = rf d 279 73 [l0, l1, l2, l3, some (.int x), l5] (.int x :: s) h := rf_pure (i := .iload 4) (len := 2) (okD_ok (by decide +kernel)) rfl
theorem e279_73 : rf d 279 73 ls [.int x] h = some (.inl (some (.int x)), h) := g_ri (by decide +kernel) rt279
theorem en280 : cf d 280 [.ref a, .int x0] h = rf d 280 0 [some (.ref a), some (.int x0), none, none] [] h := rfl
theorem e280_0 : rf d 280 0 ls s h = rf d 280 1 ls (.int 0 :: s) h := rf_pure (i := .iconst (0)) (len := 1) (okD_ok (by decide +kernel)) rfl
theorem e280_1 (hn : ip_nl l1 = true) : rf d 280 1 [l0, l1, l2, l3] (.int x :: s) h = rf d 280 2 [l0, l1, some (.int x), l3] s h := g_sti (i := .istore_n 2) (len := 1) (q := 1) (p := 1) (by decide +kernel) rfl rfl hn
theorem e280_2 : rf d 280 2 [some (.ref a), l1, l2, l3] s h = rf d 280 3 [some (.ref a), l1, l2, l3] (.ref a :: s) h := rf_pure (i := .aload_n 0) (len := 1) (okD_ok (by decide +kernel)) rfl
theorem e280_3 (hR : LYR R) : rf d 280 3 ls (.ref 265 :: s) (SH n, I, L, R, nc, ns, nx) = rf d 280 6 ls (.ref 290 :: s) (SH n, I, L, R, nc, ns, nx) := g_R (idx := 88) (by decide +kernel) ow280 f_8_88 rfl rfl (by decide) (ly_265_40 hR)
theorem e280_6 : rf d 280 6 [l0, some (.int x), l2, l3] s h = rf d 280 7 [l0, some (.int x), l2, l3] (.int x :: s) h := rf_pure (i := .iload_n 1) (len := 1) (okD_ok (by decide +kernel)) rfl
theorem e280_7 (q : ia n a j) : rf d 280 7 ls (.int j :: .ref a :: s) (SH n, I, L, R, nc, ns, nx) = rf d 280 8 ls (.int (I a j.toNatClampNeg) :: s) (SH n, I, L, R, nc, ns, nx) := g_ial (by decide +kernel) q
theorem e280_8 (hn : ip_nl l2 = true) : rf d 280 8 [l0, l1, l2, l3] (.int x :: s) h = rf d 280 9 [l0, l1, l2, some (.int x)] s h := g_sti (i := .istore_n 3) (len := 1) (q := 2) (p := 1) (by decide +kernel) rfl rfl hn
theorem e280_9 : rf d 280 9 [l0, l1, l2, some (.int x)] s h = rf d 280 10 [l0, l1, l2, some (.int x)] (.int x :: s) h := rf_pure (i := .iload_n 3) (len := 1) (okD_ok (by decide +kernel)) rfl
theorem e280_10 : rf d 280 10 ls s h = rf d 280 11 ls (.int (-1) :: s) h := rf_pure (i := .iconst (-1)) (len := 1) (okD_ok (by decide +kernel)) rfl
theorem e280_11 : rf d 280 11 ls (.int y :: .int x :: s) h = if x = y then rf d 280 27 ls s h else rf d 280 14 ls s h := g_ic (c := .eq) (off := 16) _ (by decide +kernel) rfl cmp_d
theorem e280_14 (hn : ip_nl l1 = true) : rf d 280 14 [l0, l1, some (.int x), l3] s h = rf d 280 17 [l0, l1, some (.int (x + 1)), l3] s h := g_inc (q := 1) (z := 1) (w := 1) (x := x) (by decide) (by decide +kernel) rfl rfl hn
theorem e280_17 : rf d 280 17 [some (.ref a), l1, l2, l3] s h = rf d 280 18 [some (.ref a), l1, l2, l3] (.ref a :: s) h := rf_pure (i := .aload_n 0) (len := 1) (okD_ok (by decide +kernel)) rfl
theorem e280_18 (hR : LYR R) : rf d 280 18 ls (.ref 265 :: s) (SH n, I, L, R, nc, ns, nx) = rf d 280 21 ls (.ref 290 :: s) (SH n, I, L, R, nc, ns, nx) := g_R (idx := 88) (by decide +kernel) ow280 f_8_88 rfl rfl (by decide) (ly_265_40 hR)
theorem e280_21 : rf d 280 21 [l0, l1, l2, some (.int x)] s h = rf d 280 22 [l0, l1, l2, some (.int x)] (.int x :: s) h := rf_pure (i := .iload_n 3) (len := 1) (okD_ok (by decide +kernel)) rfl
theorem e280_22 (q : ia n a j) : rf d 280 22 ls (.int j :: .ref a :: s) (SH n, I, L, R, nc, ns, nx) = rf d 280 23 ls (.int (I a j.toNatClampNeg) :: s) (SH n, I, L, R, nc, ns, nx) := g_ial (by decide +kernel) q
theorem e280_23 (hn : ip_nl l2 = true) : rf d 280 23 [l0, l1, l2, l3] (.int x :: s) h = rf d 280 24 [l0, l1, l2, some (.int x)] s h := g_sti (i := .istore_n 3) (len := 1) (q := 2) (p := 1) (by decide +kernel) rfl rfl hn
theorem e280_24 : rf d 280 24 ls s h = rf d 280 9 ls s h := rf_goto ⟨okD_ok (i := .goto (-15)) (len := 3) (by decide +kernel), rfl⟩
theorem e280_27 : rf d 280 27 [l0, l1, some (.int x), l3] s h = rf d 280 28 [l0, l1, some (.int x), l3] (.int x :: s) h := rf_pure (i := .iload_n 2) (len := 1) (okD_ok (by decide +kernel)) rfl
theorem e280_28 : rf d 280 28 ls [.int x] h = some (.inl (some (.int x)), h) := g_ri (by decide +kernel) rt280
theorem en281 : cf d 281 [.ref a, .int x0, .int x1] h = rf d 281 0 [some (.ref a), some (.int x0), some (.int x1), none, none] [] h := rfl
theorem e281_0 : rf d 281 0 [some (.ref a), l1, l2, l3, l4] s h = rf d 281 1 [some (.ref a), l1, l2, l3, l4] (.ref a :: s) h := rf_pure (i := .aload_n 0) (len := 1) (okD_ok (by decide +kernel)) rfl
theorem e281_1 : rf d 281 1 [some (.ref a), l1, l2, l3, l4] s h = rf d 281 2 [some (.ref a), l1, l2, l3, l4] (.ref a :: s) h := rf_pure (i := .aload_n 0) (len := 1) (okD_ok (by decide +kernel)) rfl
theorem e281_2 : rf d 281 2 [l0, some (.int x), l2, l3, l4] s h = rf d 281 3 [l0, some (.int x), l2, l3, l4] (.int x :: s) h := rf_pure (i := .iload_n 1) (len := 1) (okD_ok (by decide +kernel)) rfl
theorem e281_3 (hcat : ip_cat s ≤ 8) : rf (d + 1) 281 3 ls (.int x0 :: .ref 265 :: s) (SH n, I, L, R, nc, ns, nx) = rf_k (d + 1) 281 3 ls s (cf d 244 [.ref 265, .int x0] (SH n, I, L, R, nc, ns, nx)) := g_cv (idx := 401) (t := 8) [.int x0] (by decide +kernel) ow281 ms_8_401 mt_8_401 cy244_8 rfl rfl mL244 rfl rfl (by decide) hcat
theorem e281_6 : rf d 281 6 ls (.int x :: s) h = if x = 0 then rf d 281 21 ls s h else rf d 281 9 ls s h := g_if (c := .eq) (off := 15) _ (by decide +kernel) rfl cmp_d
theorem e281_9 : rf d 281 9 [some (.ref a), l1, l2, l3, l4] s h = rf d 281 10 [some (.ref a), l1, l2, l3, l4] (.ref a :: s) h := rf_pure (i := .aload_n 0) (len := 1) (okD_ok (by decide +kernel)) rfl
theorem e281_10 : rf d 281 10 [l0, l1, some (.int x), l3, l4] s h = rf d 281 11 [l0, l1, some (.int x), l3, l4] (.int x :: s) h := rf_pure (i := .iload_n 2) (len := 1) (okD_ok (by decide +kernel)) rfl
theorem e281_11 (hcat : ip_cat s ≤ 8) : rf (d + 1) 281 11 ls (.int x0 :: .ref 265 :: s) (SH n, I, L, R, nc, ns, nx) = rf_k (d + 1) 281 11 ls s (cf d 244 [.ref 265, .int x0] (SH n, I, L, R, nc, ns, nx)) := g_cv (idx := 401) (t := 8) [.int x0] (by decide +kernel) ow281 ms_8_401 mt_8_401 cy244_8 rfl rfl mL244 rfl rfl (by decide) hcat
theorem e281_14 : rf d 281 14 ls (.int x :: s) h = if x = 0 then rf d 281 21 ls s h else rf d 281 17 ls s h := g_if (c := .eq) (off := 7) _ (by decide +kernel) rfl cmp_d
theorem e281_17 : rf d 281 17 ls s h = rf d 281 18 ls (.int 0 :: s) h := rf_pure (i := .iconst (0)) (len := 1) (okD_ok (by decide +kernel)) rfl
theorem e281_18 : rf d 281 18 ls s h = rf d 281 22 ls s h := rf_goto ⟨okD_ok (i := .goto (4)) (len := 3) (by decide +kernel), rfl⟩
theorem e281_21 : rf d 281 21 ls s h = rf d 281 22 ls (.int 1 :: s) h := rf_pure (i := .iconst (1)) (len := 1) (okD_ok (by decide +kernel)) rfl
theorem e281_22 : rf d 281 22 ls (.int x :: .ref 265 :: s) (SH n, I, L, R, nc, ns, nx) = rf d 281 25 ls s (SH n, ip_up I 265 0 x, L, R, nc, ns, nx) := g_pI (idx := 142) (by decide +kernel) ow281 f_8_142 rfl (by decide +kernel) rfl (by decide)
theorem e281_25 : rf d 281 25 [some (.ref a), l1, l2, l3, l4] s h = rf d 281 26 [some (.ref a), l1, l2, l3, l4] (.ref a :: s) h := rf_pure (i := .aload_n 0) (len := 1) (okD_ok (by decide +kernel)) rfl
theorem e281_26 : rf d 281 26 ls (.ref 265 :: s) (SH n, I, L, R, nc, ns, nx) = rf d 281 29 ls (.int (I 265 0) :: s) (SH n, I, L, R, nc, ns, nx) := g_I (idx := 142) (by decide +kernel) ow281 f_8_142 rfl rfl (by decide)
theorem e281_29 : rf d 281 29 ls (.int x :: s) h = if x ≤ 0 then rf d 281 34 ls s h else rf d 281 32 ls s h := g_if (c := .le) (off := 5) _ (by decide +kernel) rfl cmp_d
theorem e281_32 : rf d 281 32 ls s h = rf d 281 33 ls (.int 0 :: s) h := rf_pure (i := .iconst (0)) (len := 1) (okD_ok (by decide +kernel)) rfl
theorem e281_33 : rf d 281 33 ls [.int x] h = some (.inl (some (.int x)), h) := g_ri (by decide +kernel) rt281
theorem e281_34 : rf d 281 34 [l0, some (.int x), l2, l3, l4] s h = rf d 281 35 [l0, some (.int x), l2, l3, l4] (.int x :: s) h := rf_pure (i := .iload_n 1) (len := 1) (okD_ok (by decide +kernel)) rfl
theorem e281_35 (hn : ip_nl l2 = true) : rf d 281 35 [l0, l1, l2, l3, l4] (.int x :: s) h = rf d 281 36 [l0, l1, l2, some (.int x), l4] s h := g_sti (i := .istore_n 3) (len := 1) (q := 2) (p := 1) (by decide +kernel) rfl rfl hn
theorem e281_36 : rf d 281 36 [l0, l1, some (.int x), l3, l4] s h = rf d 281 37 [l0, l1, some (.int x), l3, l4] (.int x :: s) h := rf_pure (i := .iload_n 2) (len := 1) (okD_ok (by decide +kernel)) rfl
theorem e281_37 (hn : ip_nl l3 = true) : rf d 281 37 [l0, l1, l2, l3, l4] (.int x :: s) h = rf d 281 39 [l0, l1, l2, l3, some (.int x)] s h := g_sti (i := .istore 4) (len := 2) (q := 3) (p := 2) (by decide +kernel) rfl rfl hn
theorem e281_39 : rf d 281 39 [l0, l1, l2, some (.int x), l4] s h = rf d 281 40 [l0, l1, l2, some (.int x), l4] (.int x :: s) h := rf_pure (i := .iload_n 3) (len := 1) (okD_ok (by decide +kernel)) rfl
theorem e281_40 : rf d 281 40 [l0, l1, l2, l3, some (.int x)] s h = rf d 281 42 [l0, l1, l2, l3, some (.int x)] (.int x :: s) h := rf_pure (i := .iload 4) (len := 2) (okD_ok (by decide +kernel)) rfl
theorem e281_42 : rf d 281 42 ls (.int y :: .int x :: s) h = if x = y then rf d 281 73 ls s h else rf d 281 45 ls s h := g_ic (c := .eq) (off := 31) _ (by decide +kernel) rfl cmp_d
theorem e281_45 : rf d 281 45 [l0, l1, l2, some (.int x), l4] s h = rf d 281 46 [l0, l1, l2, some (.int x), l4] (.int x :: s) h := rf_pure (i := .iload_n 3) (len := 1) (okD_ok (by decide +kernel)) rfl
theorem e281_46 : rf d 281 46 [l0, l1, l2, l3, some (.int x)] s h = rf d 281 48 [l0, l1, l2, l3, some (.int x)] (.int x :: s) h := rf_pure (i := .iload 4) (len := 2) (okD_ok (by decide +kernel)) rfl
theorem e281_48 : rf d 281 48 ls (.int y :: .int x :: s) h = if x ≤ y then rf d 281 61 ls s h else rf d 281 51 ls s h := g_ic (c := .le) (off := 13) _ (by decide +kernel) rfl cmp_d
theorem e281_51 : rf d 281 51 [some (.ref a), l1, l2, l3, l4] s h = rf d 281 52 [some (.ref a), l1, l2, l3, l4] (.ref a :: s) h := rf_pure (i := .aload_n 0) (len := 1) (okD_ok (by decide +kernel)) rfl
theorem e281_52 (hR : LYR R) : rf d 281 52 ls (.ref 265 :: s) (SH n, I, L, R, nc, ns, nx) = rf d 281 55 ls (.ref 290 :: s) (SH n, I, L, R, nc, ns, nx) := g_R (idx := 88) (by decide +kernel) ow281 f_8_88 rfl rfl (by decide) (ly_265_40 hR)
theorem e281_55 : rf d 281 55 [l0, l1, l2, some (.int x), l4] s h = rf d 281 56 [l0, l1, l2, some (.int x), l4] (.int x :: s) h := rf_pure (i := .iload_n 3) (len := 1) (okD_ok (by decide +kernel)) rfl
theorem e281_56 (q : ia n a j) : rf d 281 56 ls (.int j :: .ref a :: s) (SH n, I, L, R, nc, ns, nx) = rf d 281 57 ls (.int (I a j.toNatClampNeg) :: s) (SH n, I, L, R, nc, ns, nx) := g_ial (by decide +kernel) q
theorem e281_57 (hn : ip_nl l2 = true) : rf d 281 57 [l0, l1, l2, l3, l4] (.int x :: s) h = rf d 281 58 [l0, l1, l2, some (.int x), l4] s h := g_sti (i := .istore_n 3) (len := 1) (q := 2) (p := 1) (by decide +kernel) rfl rfl hn
theorem e281_58 : rf d 281 58 ls s h = rf d 281 39 ls s h := rf_goto ⟨okD_ok (i := .goto (-19)) (len := 3) (by decide +kernel), rfl⟩
theorem e281_61 : rf d 281 61 [some (.ref a), l1, l2, l3, l4] s h = rf d 281 62 [some (.ref a), l1, l2, l3, l4] (.ref a :: s) h := rf_pure (i := .aload_n 0) (len := 1) (okD_ok (by decide +kernel)) rfl
theorem e281_62 (hR : LYR R) : rf d 281 62 ls (.ref 265 :: s) (SH n, I, L, R, nc, ns, nx) = rf d 281 65 ls (.ref 290 :: s) (SH n, I, L, R, nc, ns, nx) := g_R (idx := 88) (by decide +kernel) ow281 f_8_88 rfl rfl (by decide) (ly_265_40 hR)
theorem e281_65 : rf d 281 65 [l0, l1, l2, l3, some (.int x)] s h = rf d 281 67 [l0, l1, l2, l3, some (.int x)] (.int x :: s) h := rf_pure (i := .iload 4) (len := 2) (okD_ok (by decide +kernel)) rfl
theorem e281_67 (q : ia n a j) : rf d 281 67 ls (.int j :: .ref a :: s) (SH n, I, L, R, nc, ns, nx) = rf d 281 68 ls (.int (I a j.toNatClampNeg) :: s) (SH n, I, L, R, nc, ns, nx) := g_ial (by decide +kernel) q
theorem e281_68 (hn : ip_nl l3 = true) : rf d 281 68 [l0, l1, l2, l3, l4] (.int x :: s) h = rf d 281 70 [l0, l1, l2, l3, some (.int x)] s h := g_sti (i := .istore 4) (len := 2) (q := 3) (p := 2) (by decide +kernel) rfl rfl hn
theorem e281_70 : rf d 281 70 ls s h = rf d 281 39 ls s h := rf_goto ⟨okD_ok (i := .goto (-31)) (len := 3) (by decide +kernel), rfl⟩
theorem e281_73 : rf d 281 73 [l0, l1, l2, some (.int x), l4] s h = rf d 281 74 [l0, l1, l2, some (.int x), l4] (.int x :: s) h := rf_pure (i := .iload_n 3) (len := 1) (okD_ok (by decide +kernel)) rfl
theorem e281_74 : rf d 281 74 ls [.int x] h = some (.inl (some (.int x)), h) := g_ri (by decide +kernel) rt281
theorem en282 : cf d 282 [.ref a, .int x0, .int x1] h = rf d 282 0 [some (.ref a), some (.int x0), some (.int x1), none, none] [] h := rfl
theorem e282_0 : rf d 282 0 [some (.ref a), l1, l2, l3, l4] s h = rf d 282 1 [some (.ref a), l1, l2, l3, l4] (.ref a :: s) h := rf_pure (i := .aload_n 0) (len := 1) (okD_ok (by decide +kernel)) rfl
theorem e282_1 : rf d 282 1 [some (.ref a), l1, l2, l3, l4] s h = rf d 282 2 [some (.ref a), l1, l2, l3, l4] (.ref a :: s) h := rf_pure (i := .aload_n 0) (len := 1) (okD_ok (by decide +kernel)) rfl
theorem e282_2 : rf d 282 2 [l0, some (.int x), l2, l3, l4] s h = rf d 282 3 [l0, some (.int x), l2, l3, l4] (.int x :: s) h := rf_pure (i := .iload_n 1) (len := 1) (okD_ok (by decide +kernel)) rfl
theorem e282_3 (hcat : ip_cat s ≤ 8) : rf (d + 1) 282 3 ls (.int x0 :: .ref 265 :: s) (SH n, I, L, R, nc, ns, nx) = rf_k (d + 1) 282 3 ls s (cf d 244 [.ref 265, .int x0] (SH n, I, L, R, nc, ns, nx)) := g_cv (idx := 401) (t := 8) [.int x0] (by decide +kernel) ow282 ms_8_401 mt_8_401 cy244_8 rfl rfl mL244 rfl rfl (by decide) hcat
theorem e282_6 : rf d 282 6 ls (.int x :: s) h = if x = 0 then rf d 282 13 ls s h else rf d 282 9 ls s h := g_if (c := .eq) (off := 7) _ (by decide +kernel) rfl cmp_d
theorem e282_9 : rf d 282 9 ls s h = rf d 282 10 ls (.int 0 :: s) h := rf_pure (i := .iconst (0)) (len := 1) (okD_ok (by decide +kernel)) rfl
theorem e282_10 : rf d 282 10 ls s h = rf d 282 14 ls s h := rf_goto ⟨okD_ok (i := .goto (4)) (len := 3) (by decide +kernel), rfl⟩
theorem e282_13 : rf d 282 13 ls s h = rf d 282 14 ls (.int 1 :: s) h := rf_pure (i := .iconst (1)) (len := 1) (okD_ok (by decide +kernel)) rfl
theorem e282_14 : rf d 282 14 ls (.int x :: .ref 265 :: s) (SH n, I, L, R, nc, ns, nx) = rf d 282 17 ls s (SH n, ip_up I 265 0 x, L, R, nc, ns, nx) := g_pI (idx := 142) (by decide +kernel) ow282 f_8_142 rfl (by decide +kernel) rfl (by decide)
theorem e282_17 : rf d 282 17 [some (.ref a), l1, l2, l3, l4] s h = rf d 282 18 [some (.ref a), l1, l2, l3, l4] (.ref a :: s) h := rf_pure (i := .aload_n 0) (len := 1) (okD_ok (by decide +kernel)) rfl
theorem e282_18 : rf d 282 18 ls (.ref 265 :: s) (SH n, I, L, R, nc, ns, nx) = rf d 282 21 ls (.int (I 265 0) :: s) (SH n, I, L, R, nc, ns, nx) := g_I (idx := 142) (by decide +kernel) ow282 f_8_142 rfl rfl (by decide)
theorem e282_21 : rf d 282 21 ls (.int x :: s) h = if x ≤ 0 then rf d 282 26 ls s h else rf d 282 24 ls s h := g_if (c := .le) (off := 5) _ (by decide +kernel) rfl cmp_d
theorem e282_24 : rf d 282 24 ls s h = rf d 282 25 ls (.int 0 :: s) h := rf_pure (i := .iconst (0)) (len := 1) (okD_ok (by decide +kernel)) rfl
theorem e282_25 : rf d 282 25 ls [.int x] h = some (.inl (some (.int x)), h) := g_ri (by decide +kernel) rt282
theorem e282_26 : rf d 282 26 [l0, l1, some (.int x), l3, l4] s h = rf d 282 27 [l0, l1, some (.int x), l3, l4] (.int x :: s) h := rf_pure (i := .iload_n 2) (len := 1) (okD_ok (by decide +kernel)) rfl
theorem e282_27 (hn : ip_nl l2 = true) : rf d 282 27 [l0, l1, l2, l3, l4] (.int x :: s) h = rf d 282 28 [l0, l1, l2, some (.int x), l4] s h := g_sti (i := .istore_n 3) (len := 1) (q := 2) (p := 1) (by decide +kernel) rfl rfl hn
theorem e282_28 : rf d 282 28 [some (.ref a), l1, l2, l3, l4] s h = rf d 282 29 [some (.ref a), l1, l2, l3, l4] (.ref a :: s) h := rf_pure (i := .aload_n 0) (len := 1) (okD_ok (by decide +kernel)) rfl
theorem e282_29 : rf d 282 29 [l0, some (.int x), l2, l3, l4] s h = rf d 282 30 [l0, some (.int x), l2, l3, l4] (.int x :: s) h := rf_pure (i := .iload_n 1) (len := 1) (okD_ok (by decide +kernel)) rfl
theorem e282_30 : rf d 282 30 ls s h = rf d 282 31 ls (.int 0 :: s) h := rf_pure (i := .iconst (0)) (len := 1) (okD_ok (by decide +kernel)) rfl
theorem e282_31 (hcat : ip_cat s ≤ 8) : rf (d + 1) 282 31 ls (.int x1 :: .int x0 :: .ref 265 :: s) (SH n, I, L, R, nc, ns, nx) = rf_k (d + 1) 282 31 ls s (cf d 262 [.ref 265, .int x0, .int x1] (SH n, I, L, R, nc, ns, nx)) := g_cv (idx := 438) (t := 8) [.int x1, .int x0] (by decide +kernel) ow282 ms_8_438 mt_8_438 cy262_8 rfl rfl mL262 rfl rfl (by decide) hcat
theorem e282_34 (hn : ip_nl l3 = true) : rf d 282 34 [l0, l1, l2, l3, l4] (.int x :: s) h = rf d 282 36 [l0, l1, l2, l3, some (.int x)] s h := g_sti (i := .istore 4) (len := 2) (q := 3) (p := 2) (by decide +kernel) rfl rfl hn
theorem e282_36 : rf d 282 36 [l0, l1, l2, l3, some (.int x)] s h = rf d 282 38 [l0, l1, l2, l3, some (.int x)] (.int x :: s) h := rf_pure (i := .iload 4) (len := 2) (okD_ok (by decide +kernel)) rfl
theorem e282_38 : rf d 282 38 ls s h = rf d 282 39 ls (.int (-1) :: s) h := rf_pure (i := .iconst (-1)) (len := 1) (okD_ok (by decide +kernel)) rfl
theorem e282_39 : rf d 282 39 ls (.int y :: .int x :: s) h = if x = y then rf d 282 68 ls s h else rf d 282 42 ls s h := g_ic (c := .eq) (off := 29) _ (by decide +kernel) rfl cmp_d
theorem e282_42 : rf d 282 42 [l0, l1, some (.int x), l3, l4] s h = rf d 282 43 [l0, l1, some (.int x), l3, l4] (.int x :: s) h := rf_pure (i := .iload_n 2) (len := 1) (okD_ok (by decide +kernel)) rfl
theorem e282_43 : rf d 282 43 ls (.int x :: s) h = if x < 0 then rf d 282 68 ls s h else rf d 282 46 ls s h := g_if (c := .lt) (off := 25) _ (by decide +kernel) rfl cmp_d
theorem e282_46 : rf d 282 46 [l0, l1, l2, some (.int x), l4] s h = rf d 282 47 [l0, l1, l2, some (.int x), l4] (.int x :: s) h := rf_pure (i := .iload_n 3) (len := 1) (okD_ok (by decide +kernel)) rfl
theorem e282_47 : rf d 282 47 ls (.int x :: s) h = if ¬ x = 0 then rf d 282 53 ls s h else rf d 282 50 ls s h := g_if (c := .ne) (off := 6) _ (by decide +kernel) rfl cmp_d
theorem e282_50 : rf d 282 50 [l0, l1, l2, l3, some (.int x)] s h = rf d 282 52 [l0, l1, l2, l3, some (.int x)] (.int x :: s) h := rf_pure (i := .iload 4) (len := 2) (okD_ok (by decide +kernel)) rfl
theorem e282_52 : rf d 282 52 ls [.int x] h = some (.inl (some (.int x)), h) := g_ri (by decide +kernel) rt282
theorem e282_53 (hn : ip_nl l2 = true) : rf d 282 53 [l0, l1, l2, some (.int x), l4] s h = rf d 282 56 [l0, l1, l2, some (.int (x + (-1))), l4] s h := g_inc (q := 2) (z := -1) (w := (-1)) (x := x) (by decide) (by decide +kernel) rfl rfl hn
theorem e282_56 : rf d 282 56 [some (.ref a), l1, l2, l3, l4] s h = rf d 282 57 [some (.ref a), l1, l2, l3, l4] (.ref a :: s) h := rf_pure (i := .aload_n 0) (len := 1) (okD_ok (by decide +kernel)) rfl
theorem e282_57 : rf d 282 57 [l0, some (.int x), l2, l3, l4] s h = rf d 282 58 [l0, some (.int x), l2, l3, l4] (.int x :: s) h := rf_pure (i := .iload_n 1) (len := 1) (okD_ok (by decide +kernel)) rfl
theorem e282_58 : rf d 282 58 [l0, l1, l2, l3, some (.int x)] s h = rf d 282 60 [l0, l1, l2, l3, some (.int x)] (.int x :: s) h := rf_pure (i := .iload 4) (len := 2) (okD_ok (by decide +kernel)) rfl
theorem e282_60 (hcat : ip_cat s ≤ 8) : rf (d + 1) 282 60 ls (.int x1 :: .int x0 :: .ref 265 :: s) (SH n, I, L, R, nc, ns, nx) = rf_k (d + 1) 282 60 ls s (cf d 262 [.ref 265, .int x0, .int x1] (SH n, I, L, R, nc, ns, nx)) := g_cv (idx := 438) (t := 8) [.int x1, .int x0] (by decide +kernel) ow282 ms_8_438 mt_8_438 cy262_8 rfl rfl mL262 rfl rfl (by decide) hcat
theorem e282_63 (hn : ip_nl l3 = true) : rf d 282 63 [l0, l1, l2, l3, l4] (.int x :: s) h = rf d 282 65 [l0, l1, l2, l3, some (.int x)] s h := g_sti (i := .istore 4) (len := 2) (q := 3) (p := 2) (by decide +kernel) rfl rfl hn
theorem e282_65 : rf d 282 65 ls s h = rf d 282 36 ls s h := rf_goto ⟨okD_ok (i := .goto (-29)) (len := 3) (by decide +kernel), rfl⟩
theorem e282_68 : rf d 282 68 ls s h = rf d 282 69 ls (.int (-1) :: s) h := rf_pure (i := .iconst (-1)) (len := 1) (okD_ok (by decide +kernel)) rfl
theorem e282_69 : rf d 282 69 ls [.int x] h = some (.inl (some (.int x)), h) := g_ri (by decide +kernel) rt282
theorem en283 : cf d 283 [.ref a, .int x0] h = rf d 283 0 [some (.ref a), some (.int x0), none, none, none] [] h := rfl
theorem e283_0 : rf d 283 0 [some (.ref a), l1, l2, l3, l4] s h = rf d 283 1 [some (.ref a), l1, l2, l3, l4] (.ref a :: s) h := rf_pure (i := .aload_n 0) (len := 1) (okD_ok (by decide +kernel)) rfl
theorem e283_1 : rf d 283 1 ls s h = rf d 283 2 ls (.int 0 :: s) h := rf_pure (i := .iconst (0)) (len := 1) (okD_ok (by decide +kernel)) rfl
theorem e283_2 : rf d 283 2 ls (.int x :: .ref 265 :: s) (SH n, I, L, R, nc, ns, nx) = rf d 283 5 ls s (SH n, ip_up I 265 0 x, L, R, nc, ns, nx) := g_pI (idx := 142) (by decide +kernel) ow283 f_8_142 rfl (by decide +kernel) rfl (by decide)
theorem e283_5 : rf d 283 5 ls s h = rf d 283 6 ls (.int 0 :: s) h := rf_pure (i := .iconst (0)) (len := 1) (okD_ok (by decide +kernel)) rfl
theorem e283_6 (hn : ip_nl l1 = true) : rf d 283 6 [l0, l1, l2, l3, l4] (.int x :: s) h = rf d 283 7 [l0, l1, some (.int x), l3, l4] s h := g_sti (i := .istore_n 2) (len := 1) (q := 1) (p := 1) (by decide +kernel) rfl rfl hn
theorem e283_7 : rf d 283 7 ls s h = rf d 283 8 ls (.int 0 :: s) h := rf_pure (i := .iconst (0)) (len := 1) (okD_ok (by decide +kernel)) rfl
theorem e283_8 (hn : ip_nl l2 = true) : rf d 283 8 [l0, l1, l2, l3, l4] (.int x :: s) h = rf d 283 9 [l0, l1, l2, some (.int x), l4] s h := g_sti (i := .istore_n 3) (len := 1) (q := 2) (p := 1) (by decide +kernel) rfl rfl hn
theorem e283_9 : rf d 283 9 ls s h = rf d 283 10 ls (.int 0 :: s) h := rf_pure (i := .iconst (0)) (len := 1) (okD_ok (by decide +kernel)) rfl
theorem e283_10 (hn : ip_nl l3 = true) : rf d 283 10 [l0, l1, l2, l3, l4] (.int x :: s) h = rf d 283 12 [l0, l1, l2, l3, some (.int x)] s h := g_sti (i := .istore 4) (len := 2) (q := 3) (p := 2) (by decide +kernel) rfl rfl hn
theorem e283_12 : rf d 283 12 [l0, l1, l2, l3, some (.int x)] s h = rf d 283 14 [l0, l1, l2, l3, some (.int x)] (.int x :: s) h := rf_pure (i := .iload 4) (len := 2) (okD_ok (by decide +kernel)) rfl
theorem e283_14 : rf d 283 14 [some (.ref a), l1, l2, l3, l4] s h = rf d 283 15 [some (.ref a), l1, l2, l3, l4] (.ref a :: s) h := rf_pure (i := .aload_n 0) (len := 1) (okD_ok (by decide +kernel)) rfl
theorem e283_15 : rf d 283 15 ls (.ref 265 :: s) (SH n, I, L, R, nc, ns, nx) = rf d 283 18 ls (.int (I 265 37) :: s) (SH n, I, L, R, nc, ns, nx) := g_I (idx := 303) (by decide +kernel) ow283 f_8_303 rfl rfl (by decide)
theorem e283_18 : rf d 283 18 ls (.int y :: .int x :: s) h = if y ≤ x then rf d 283 76 ls s h else rf d 283 21 ls s h := g_ic (c := .ge) (off := 58) _ (by decide +kernel) rfl cmp_d
theorem e283_21 : rf d 283 21 [l0, l1, some (.int x), l3, l4] s h = rf d 283 22 [l0, l1, some (.int x), l3, l4] (.int x :: s) h := rf_pure (i := .iload_n 2) (len := 1) (okD_ok (by decide +kernel)) rfl
theorem e283_22 : rf d 283 22 [some (.ref a), l1, l2, l3, l4] s h = rf d 283 23 [some (.ref a), l1, l2, l3, l4] (.ref a :: s) h := rf_pure (i := .aload_n 0) (len := 1) (okD_ok (by decide +kernel)) rfl
theorem e283_23 (hR : LYR R) : rf d 283 23 ls (.ref 265 :: s) (SH n, I, L, R, nc, ns, nx) = rf d 283 26 ls (.ref 289 :: s) (SH n, I, L, R, nc, ns, nx) := g_R (idx := 85) (by decide +kernel) ow283 f_8_85 rfl rfl (by decide) (ly_265_39 hR)
theorem e283_26 : rf d 283 26 [l0, l1, l2, l3, some (.int x)] s h = rf d 283 28 [l0, l1, l2, l3, some (.int x)] (.int x :: s) h := rf_pure (i := .iload 4) (len := 2) (okD_ok (by decide +kernel)) rfl
theorem e283_28 (q : ia n a j) : rf d 283 28 ls (.int j :: .ref a :: s) (SH n, I, L, R, nc, ns, nx) = rf d 283 29 ls (.int (I a j.toNatClampNeg) :: s) (SH n, I, L, R, nc, ns, nx) := g_ial (by decide +kernel) q
theorem e283_29 : rf d 283 29 ls (.int x :: s) h = if ¬ x = 0 then rf d 283 36 ls s h else rf d 283 32 ls s h := g_if (c := .ne) (off := 7) _ (by decide +kernel) rfl cmp_d
theorem e283_32 : rf d 283 32 ls s h = rf d 283 33 ls (.int 1 :: s) h := rf_pure (i := .iconst (1)) (len := 1) (okD_ok (by decide +kernel)) rfl
theorem e283_33 : rf d 283 33 ls s h = rf d 283 37 ls s h := rf_goto ⟨okD_ok (i := .goto (4)) (len := 3) (by decide +kernel), rfl⟩
theorem e283_36 : rf d 283 36 ls s h = rf d 283 37 ls (.int 0 :: s) h := rf_pure (i := .iconst (0)) (len := 1) (okD_ok (by decide +kernel)) rfl
theorem e283_37 : rf d 283 37 ls (.int y :: .int x :: s) h = rf d 283 38 ls (.int (x + y) :: s) h := rf_pure (i := .iadd) (len := 1) (okD_ok (by decide +kernel)) rfl
theorem e283_38 (hn : ip_nl l1 = true) : rf d 283 38 [l0, l1, l2, l3, l4] (.int x :: s) h = rf d 283 39 [l0, l1, some (.int x), l3, l4] s h := g_sti (i := .istore_n 2) (len := 1) (q := 1) (p := 1) (by decide +kernel) rfl rfl hn
theorem e283_39 : rf d 283 39 [l0, l1, l2, some (.int x), l4] s h = rf d 283 40 [l0, l1, l2, some (.int x), l4] (.int x :: s) h := rf_pure (i := .iload_n 3) (len := 1) (okD_ok (by decide +kernel)) rfl
theorem e283_40 : rf d 283 40 [some (.ref a), l1, l2, l3, l4] s h = rf d 283 41 [some (.ref a), l1, l2, l3, l4] (.ref a :: s) h := rf_pure (i := .aload_n 0) (len := 1) (okD_ok (by decide +kernel)) rfl
theorem e283_41 (hR : LYR R) : rf d 283 41 ls (.ref 265 :: s) (SH n, I, L, R, nc, ns, nx) = rf d 283 44 ls (.ref 289 :: s) (SH n, I, L, R, nc, ns, nx) := g_R (idx := 85) (by decide +kernel) ow283 f_8_85 rfl rfl (by decide) (ly_265_39 hR)
theorem e283_44 : rf d 283 44 [l0, l1, l2, l3, some (.int x)] s h = rf d 283 46 [l0, l1, l2, l3, some (.int x)] (.int x :: s) h := rf_pure (i := .iload 4) (len := 2) (okD_ok (by decide +kernel)) rfl
theorem e283_46 (q : ia n a j) : rf d 283 46 ls (.int j :: .ref a :: s) (SH n, I, L, R, nc, ns, nx) = rf d 283 47 ls (.int (I a j.toNatClampNeg) :: s) (SH n, I, L, R, nc, ns, nx) := g_ial (by decide +kernel) q
theorem e283_47 : rf d 283 47 ls (.int x :: s) h = if x = 0 then rf d 283 67 ls s h else rf d 283 50 ls s h := g_if (c := .eq) (off := 20) _ (by decide +kernel) rfl cmp_d
theorem e283_50 : rf d 283 50 [some (.ref a), l1, l2, l3, l4] s h = rf d 283 51 [some (.ref a), l1, l2, l3, l4] (.ref a :: s) h := rf_pure (i := .aload_n 0) (len := 1) (okD_ok (by decide +kernel)) rfl
theorem e283_51 (hR : LYR R) : rf d 283 51 ls (.ref 265 :: s) (SH n, I, L, R, nc, ns, nx) = rf d 283 54 ls (.ref 291 :: s) (SH n, I, L, R, nc, ns, nx) := g_R (idx := 91) (by decide +kernel) ow283 f_8_91 rfl rfl (by decide) (ly_265_41 hR)
theorem e283_54 : rf d 283 54 [l0, l1, l2, l3, some (.int x)] s h = rf d 283 56 [l0, l1, l2, l3, some (.int x)] (.int x :: s) h := rf_pure (i := .iload 4) (len := 2) (okD_ok (by decide +kernel)) rfl
theorem e283_56 (q : ia n a j) : rf d 283 56 ls (.int j :: .ref a :: s) (SH n, I, L, R, nc, ns, nx) = rf d 283 57 ls (.int (I a j.toNatClampNeg) :: s) (SH n, I, L, R, nc, ns, nx) := g_ial (by decide +kernel) q
theorem e283_57 : rf d 283 57 [l0, some (.int x), l2, l3, l4] s h = rf d 283 58 [l0, some (.int x), l2, l3, l4] (.int x :: s) h := rf_pure (i := .iload_n 1) (len := 1) (okD_ok (by decide +kernel)) rfl
theorem e283_58 : rf d 283 58 ls s h = rf d 283 59 ls (.int 5 :: s) h := rf_pure (i := .iconst (5)) (len := 1) (okD_ok (by decide +kernel)) rfl
theorem e283_59 : rf d 283 59 ls (.int y :: .int x :: s) h = rf d 283 60 ls (.int (x - y) :: s) h := rf_pure (i := .isub) (len := 1) (okD_ok (by decide +kernel)) rfl
theorem e283_60 : rf d 283 60 ls (.int y :: .int x :: s) h = if ¬ x = y then rf d 283 67 ls s h else rf d 283 63 ls s h := g_ic (c := .ne) (off := 7) _ (by decide +kernel) rfl cmp_d
theorem e283_63 : rf d 283 63 ls s h = rf d 283 64 ls (.int 1 :: s) h := rf_pure (i := .iconst (1)) (len := 1) (okD_ok (by decide +kernel)) rfl
theorem e283_64 : rf d 283 64 ls s h = rf d 283 68 ls s h := rf_goto ⟨okD_ok (i := .goto (4)) (len := 3) (by decide +kernel), rfl⟩
theorem e283_67 : rf d 283 67 ls s h = rf d 283 68 ls (.int 0 :: s) h := rf_pure (i := .iconst (0)) (len := 1) (okD_ok (by decide +kernel)) rfl
theorem e283_68 : rf d 283 68 ls (.int y :: .int x :: s) h = rf d 283 69 ls (.int (x + y) :: s) h := rf_pure (i := .iadd) (len := 1) (okD_ok (by decide +kernel)) rfl
theorem e283_69 (hn : ip_nl l2 = true) : rf d 283 69 [l0, l1, l2, l3, l4] (.int x :: s) h = rf d 283 70 [l0, l1, l2, some (.int x), l4] s h := g_sti (i := .istore_n 3) (len := 1) (q := 2) (p := 1) (by decide +kernel) rfl rfl hn
theorem e283_70 (hn : ip_nl l3 = true) : rf d 283 70 [l0, l1, l2, l3, some (.int x)] s h = rf d 283 73 [l0, l1, l2, l3, some (.int (x + 1))] s h := g_inc (q := 3) (z := 1) (w := 1) (x := x) (by decide) (by decide +kernel) rfl rfl hn
theorem e283_73 : rf d 283 73 ls s h = rf d 283 12 ls s h := rf_goto ⟨okD_ok (i := .goto (-61)) (len := 3) (by decide +kernel), rfl⟩
theorem e283_76 : rf d 283 76 [l0, some (.int x), l2, l3, l4] s h = rf d 283 77 [l0, some (.int x), l2, l3, l4] (.int x :: s) h := rf_pure (i := .iload_n 1) (len := 1) (okD_ok (by decide +kernel)) rfl
theorem e283_136 : rf d 283 136 [some (.ref a), l1, l2, l3, l4] s h = rf d 283 137 [some (.ref a), l1, l2, l3, l4] (.ref a :: s) h := rf_pure (i := .aload_n 0) (len := 1) (okD_ok (by decide +kernel)) rfl
theorem e283_137 : rf d 283 137 ls (.ref 265 :: s) (SH n, I, L, R, nc, ns, nx) = rf d 283 140 ls (.int (I 265 17) :: s) (SH n, I, L, R, nc, ns, nx) := g_I (idx := 291) (by decide +kernel) ow283 f_8_291 rfl rfl (by decide)
theorem e283_140 : rf d 283 140 ls [.int x] h = some (.inl (some (.int x)), h) := g_ri (by decide +kernel) rt283
theorem e283_141 : rf d 283 141 [some (.ref a), l1, l2, l3, l4] s h = rf d 283 142 [some (.ref a), l1, l2, l3, l4] (.ref a :: s) h := rf_pure (i := .aload_n 0) (len := 1) (okD_ok (by decide +kernel)) rfl
theorem e283_142 : rf d 283 142 ls (.ref 265 :: s) (SH n, I, L, R, nc, ns, nx) = rf d 283 145 ls (.int (I 265 37) :: s) (SH n, I, L, R, nc, ns, nx) := g_I (idx := 303) (by decide +kernel) ow283 f_8_303 rfl rfl (by decide)
theorem e283_145 : rf d 283 145 ls [.int x] h = some (.inl (some (.int x)), h) := g_ri (by decide +kernel) rt283
theorem e283_146 : rf d 283 146 [some (.ref a), l1, l2, l3, l4] s h = rf d 283 147 [some (.ref a), l1, l2, l3, l4] (.ref a :: s) h := rf_pure (i := .aload_n 0) (len := 1) (okD_ok (by decide +kernel)) rfl
theorem e283_147 : rf d 283 147 ls (.ref 265 :: s) (SH n, I, L, R, nc, ns, nx) = rf d 283 150 ls (.int (I 265 38) :: s) (SH n, I, L, R, nc, ns, nx) := g_I (idx := 306) (by decide +kernel) ow283 f_8_306 rfl rfl (by decide)
theorem e283_150 : rf d 283 150 ls [.int x] h = some (.inl (some (.int x)), h) := g_ri (by decide +kernel) rt283
theorem e283_151 : rf d 283 151 [l0, l1, some (.int x), l3, l4] s h = rf d 283 152 [l0, l1, some (.int x), l3, l4] (.int x :: s) h := rf_pure (i := .iload_n 2) (len := 1) (okD_ok (by decide +kernel)) rfl
theorem e283_152 : rf d 283 152 ls [.int x] h = some (.inl (some (.int x)), h) := g_ri (by decide +kernel) rt283
theorem e283_153 : rf d 283 153 [some (.ref a), l1, l2, l3, l4] s h = rf d 283 154 [some (.ref a), l1, l2, l3, l4] (.ref a :: s) h := rf_pure (i := .aload_n 0) (len := 1) (okD_ok (by decide +kernel)) rfl
theorem e283_154 : rf d 283 154 ls (.ref 265 :: s) (SH n, I, L, R, nc, ns, nx) = rf d 283 157 ls (.int (I 265 37) :: s) (SH n, I, L, R, nc, ns, nx) := g_I (idx := 303) (by decide +kernel) ow283 f_8_303 rfl rfl (by decide)
theorem e283_157 : rf d 283 157 [l0, l1, some (.int x), l3, l4] s h = rf d 283 158 [l0, l1, some (.int x), l3, l4] (.int x :: s) h := rf_pure (i := .iload_n 2) (len := 1) (okD_ok (by decide +kernel)) rfl
theorem e283_158 : rf d 283 158 ls (.int y :: .int x :: s) h = rf d 283 159 ls (.int (x - y) :: s) h := rf_pure (i := .isub) (len := 1) (okD_ok (by decide +kernel)) rfl
theorem e283_159 : rf d 283 159 ls [.int x] h = some (.inl (some (.int x)), h) := g_ri (by decide +kernel) rt283
theorem e283_160 : rf d 283 160 [l0, l1, l2, some (.int x), l4] s h = rf d 283 161 [l0, l1, l2, some (.int x), l4] (.int x :: s) h := rf_pure (i := .iload_n 3) (len := 1) (okD_ok (by decide +kernel)) rfl
theorem e283_161 : rf d 283 161 ls [.int x] h = some (.inl (some (.int x)), h) := g_ri (by decide +kernel) rt283
theorem e283_162 : rf d 283 162 [l0, l1, l2, some (.int x), l4] s h = rf d 283 163 [l0, l1, l2, some (.int x), l4] (.int x :: s) h := rf_pure (i := .iload_n 3) (len := 1) (okD_ok (by decide +kernel)) rfl
theorem e283_163 : rf d 283 163 ls [.int x] h = some (.inl (some (.int x)), h) := g_ri (by decide +kernel) rt283
theorem e283_164 : rf d 283 164 [l0, l1, l2, some (.int x), l4] s h = rf d 283 165 [l0, l1, l2, some (.int x), l4] (.int x :: s) h := rf_pure (i := .iload_n 3) (len := 1) (okD_ok (by decide +kernel)) rfl
theorem e283_165 : rf d 283 165 ls [.int x] h = some (.inl (some (.int x)), h) := g_ri (by decide +kernel) rt283
theorem e283_166 : rf d 283 166 [l0, l1, l2, some (.int x), l4] s h = rf d 283 167 [l0, l1, l2, some (.int x), l4] (.int x :: s) h := rf_pure (i := .iload_n 3) (len := 1) (okD_ok (by decide +kernel)) rfl
theorem e283_167 : rf d 283 167 ls [.int x] h = some (.inl (some (.int x)), h) := g_ri (by decide +kernel) rt283
theorem e283_168 : rf d 283 168 [some (.ref a), l1, l2, l3, l4] s h = rf d 283 169 [some (.ref a), l1, l2, l3, l4] (.ref a :: s) h := rf_pure (i := .aload_n 0) (len := 1) (okD_ok (by decide +kernel)) rfl
theorem e283_169 : rf d 283 169 ls (.ref 265 :: s) (SH n, I, L, R, nc, ns, nx) = rf d 283 172 ls (.int (I 265 18) :: s) (SH n, I, L, R, nc, ns, nx) := g_I (idx := 294) (by decide +kernel) ow283 f_8_294 rfl rfl (by decide)
theorem e283_172 : rf d 283 172 ls [.int x] h = some (.inl (some (.int x)), h) := g_ri (by decide +kernel) rt283
theorem e283_173 : rf d 283 173 [some (.ref a), l1, l2, l3, l4] s h = rf d 283 174 [some (.ref a), l1, l2, l3, l4] (.ref a :: s) h := rf_pure (i := .aload_n 0) (len := 1) (okD_ok (by decide +kernel)) rfl
theorem e283_174 : rf d 283 174 ls (.ref 265 :: s) (SH n, I, L, R, nc, ns, nx) = rf d 283 177 ls (.int (I 265 70) :: s) (SH n, I, L, R, nc, ns, nx) := g_I (idx := 444) (by decide +kernel) ow283 f_8_444 rfl rfl (by decide)
theorem e283_177 : rf d 283 177 ls [.int x] h = some (.inl (some (.int x)), h) := g_ri (by decide +kernel) rt283
theorem e283_178 : rf d 283 178 ls s h = rf d 283 179 ls (.int (-1) :: s) h := rf_pure (i := .iconst (-1)) (len := 1) (okD_ok (by decide +kernel)) rfl
theorem e283_179 : rf d 283 179 ls [.int x] h = some (.inl (some (.int x)), h) := g_ri (by decide +kernel) rt283
theorem en284 : cf d 284 [.ref a0] h = rf d 284 0 [some (.ref a0), none, none, none, none, none, none] [] h := rfl
theorem e284_3 : rf d 284 3 ls (.int x :: s) h = rf d 284 4 ls (.int x :: .int x :: s) h := rf_pure (i := .dup) (len := 1) (okD_ok (by decide +kernel)) rfl
theorem e284_3r : rf d 284 3 ls (.ref a :: s) h = rf d 284 4 ls (.ref a :: .ref a :: s) h := rf_pure (i := .dup) (len := 1) (okD_ok (by decide +kernel)) rfl
theorem e284_7 (hn : ip_nl l0 = true) : rf d 284 7 [l0, l1, l2, l3, l4, l5, l6] (.ref a :: s) h = rf d 284 8 [l0, some (.ref a), l2, l3, l4, l5, l6] s h := g_sta (i := .astore_n 1) (len := 1) (q := 0) (p := 1) (by decide +kernel) rfl rfl hn
theorem e284_11 : rf d 284 11 ls (.int x :: s) h = rf d 284 12 ls (.int x :: .int x :: s) h := rf_pure (i := .dup) (len := 1) (okD_ok (by decide +kernel)) rfl
theorem e284_11r : rf d 284 11 ls (.ref a :: s) h = rf d 284 12 ls (.ref a :: .ref a :: s) h := rf_pure (i := .dup) (len := 1) (okD_ok (by decide +kernel)) rfl
theorem e284_15 (hn : ip_nl l1 = true) : rf d 284 15 [l0, l1, l2, l3, l4, l5, l6] (.ref a :: s) h = rf d 284 16 [l0, l1, some (.ref a), l3, l4, l5, l6] s h := g_sta (i := .astore_n 2) (len := 1) (q := 1) (p := 1) (by decide +kernel) rfl rfl hn
theorem e284_16 : rf d 284 16 ls s h = rf d 284 17 ls (.int 1 :: s) h := rf_pure (i := .iconst (1)) (len := 1) (okD_ok (by decide +kernel)) rfl
theorem e284_19 (hn : ip_nl l2 = true) : rf d 284 19 [l0, l1, l2, l3, l4, l5, l6] (.ref a :: s) h = rf d 284 20 [l0, l1, l2, some (.ref a), l4, l5, l6] s h := g_sta (i := .astore_n 3) (len := 1) (q := 2) (p := 1) (by decide +kernel) rfl rfl hn
theorem e284_20 : rf d 284 20 ls s h = rf d 284 21 ls (.int 0 :: s) h := rf_pure (i := .iconst (0)) (len := 1) (okD_ok (by decide +kernel)) rfl
theorem e284_21 (hn : ip_nl l3 = true) : rf d 284 21 [l0, l1, l2, l3, l4, l5, l6] (.int x :: s) h = rf d 284 23 [l0, l1, l2, l3, some (.int x), l5, l6] s h := g_sti (i := .istore 4) (len := 2) (q := 3) (p := 2) (by decide +kernel) rfl rfl hn
theorem e284_23 : rf d 284 23 [l0, l1, l2, l3, some (.int x), l5, l6] s h = rf d 284 25 [l0, l1, l2, l3, some (.int x), l5, l6] (.int x :: s) h := rf_pure (i := .iload 4) (len := 2) (okD_ok (by decide +kernel)) rfl
theorem e284_25 : rf d 284 25 [some (.ref a), l1, l2, l3, l4, l5, l6] s h = rf d 284 26 [some (.ref a), l1, l2, l3, l4, l5, l6] (.ref a :: s) h := rf_pure (i := .aload_n 0) (len := 1) (okD_ok (by decide +kernel)) rfl
theorem e284_26 : rf d 284 26 ls (.ref 0 :: s) (SH n, I, L, R, nc, ns, nx) = rf d 284 27 ls (.int (Int32.ofNat n) :: s) (SH n, I, L, R, nc, ns, nx) := g_slen (by decide +kernel)
theorem e284_27 : rf d 284 27 ls s h = rf d 284 29 ls (.int 6 :: s) h := rf_pure (i := .bipush (6)) (len := 2) (okD_ok (by decide +kernel)) rfl
theorem e284_29 : rf d 284 29 ls (.int y :: .int x :: s) h = rf d 284 30 ls (.int (x - y) :: s) h := rf_pure (i := .isub) (len := 1) (okD_ok (by decide +kernel)) rfl
theorem e284_30 : rf d 284 30 ls (.int y :: .int x :: s) h = if y < x then rf d 284 2526 ls s h else rf d 284 33 ls s h := g_ic (c := .gt) (off := 2496) _ (by decide +kernel) rfl cmp_d
theorem e284_33 : rf d 284 33 [some (.ref a), l1, l2, l3, l4, l5, l6] s h = rf d 284 34 [some (.ref a), l1, l2, l3, l4, l5, l6] (.ref a :: s) h := rf_pure (i := .aload_n 0) (len := 1) (okD_ok (by decide +kernel)) rfl
theorem e284_34 : rf d 284 34 [l0, l1, l2, l3, some (.int x), l5, l6] s h = rf d 284 36 [l0, l1, l2, l3, some (.int x), l5, l6] (.int x :: s) h := rf_pure (i := .iload 4) (len := 2) (okD_ok (by decide +kernel)) rfl
theorem e284_36 (q : inb j n) : rf d 284 36 ls (.int j :: .ref 0 :: s) (SH n, I, L, R, nc, ns, nx) = rf d 284 37 ls (.int (I 0 j.toNatClampNeg) :: s) (SH n, I, L, R, nc, ns, nx) := g_sal (by decide +kernel) q
theorem e284_37 : rf d 284 37 ls s h = rf d 284 39 ls (.int 63 :: s) h := rf_pure (i := .bipush (63)) (len := 2) (okD_ok (by decide +kernel)) rfl
theorem e284_39 : rf d 284 39 ls (.int y :: .int x :: s) h = rf d 284 40 ls (.int (x &&& y) :: s) h := rf_pure (i := .iand) (len := 1) (okD_ok (by decide +kernel)) rfl
theorem e284_216 : rf d 284 216 [l0, some (.ref a), l2, l3, l4, l5, l6] s h = rf d 284 217 [l0, some (.ref a), l2, l3, l4, l5, l6] (.ref a :: s) h := rf_pure (i := .aload_n 1) (len := 1) (okD_ok (by decide +kernel)) rfl
theorem e284_217 : rf d 284 217 [some (.ref a), l1, l2, l3, l4, l5, l6] s h = rf d 284 218 [some (.ref a), l1, l2, l3, l4, l5, l6] (.ref a :: s) h := rf_pure (i := .aload_n 0) (len := 1) (okD_ok (by decide +kernel)) rfl
theorem e284_218 : rf d 284 218 [l0, l1, l2, l3, some (.int x), l5, l6] s h = rf d 284 220 [l0, l1, l2, l3, some (.int x), l5, l6] (.int x :: s) h := rf_pure (i := .iload 4) (len := 2) (okD_ok (by decide +kernel)) rfl
theorem e284_220 : rf d 284 220 ls s h = rf d 284 221 ls (.int 1 :: s) h := rf_pure (i := .iconst (1)) (len := 1) (okD_ok (by decide +kernel)) rfl
theorem e284_221 : rf d 284 221 ls (.int y :: .int x :: s) h = rf d 284 222 ls (.int (x + y) :: s) h := rf_pure (i := .iadd) (len := 1) (okD_ok (by decide +kernel)) rfl
theorem e284_222 (q : inb j n) : rf d 284 222 ls (.int j :: .ref 0 :: s) (SH n, I, L, R, nc, ns, nx) = rf d 284 223 ls (.int (I 0 j.toNatClampNeg) :: s) (SH n, I, L, R, nc, ns, nx) := g_sal (by decide +kernel) q
theorem e284_223 : rf d 284 223 [some (.ref a), l1, l2, l3, l4, l5, l6] s h = rf d 284 224 [some (.ref a), l1, l2, l3, l4, l5, l6] (.ref a :: s) h := rf_pure (i := .aload_n 0) (len := 1) (okD_ok (by decide +kernel)) rfl
theorem e284_224 : rf d 284 224 [l0, l1, l2, l3, some (.int x), l5, l6] s h = rf d 284 226 [l0, l1, l2, l3, some (.int x), l5, l6] (.int x :: s) h := rf_pure (i := .iload 4) (len := 2) (okD_ok (by decide +kernel)) rfl
theorem e284_226 : rf d 284 226 ls s h = rf d 284 227 ls (.int 2 :: s) h := rf_pure (i := .iconst (2)) (len := 1) (okD_ok (by decide +kernel)) rfl
theorem e284_227 : rf d 284 227 ls (.int y :: .int x :: s) h = rf d 284 228 ls (.int (x + y) :: s) h := rf_pure (i := .iadd) (len := 1) (okD_ok (by decide +kernel)) rfl
theorem e284_228 (q : inb j n) : rf d 284 228 ls (.int j :: .ref 0 :: s) (SH n, I, L, R, nc, ns, nx) = rf d 284 229 ls (.int (I 0 j.toNatClampNeg) :: s) (SH n, I, L, R, nc, ns, nx) := g_sal (by decide +kernel) q
theorem e284_229 : rf d 284 229 [some (.ref a), l1, l2, l3, l4, l5, l6] s h = rf d 284 230 [some (.ref a), l1, l2, l3, l4, l5, l6] (.ref a :: s) h := rf_pure (i := .aload_n 0) (len := 1) (okD_ok (by decide +kernel)) rfl
theorem e284_230 : rf d 284 230 [l0, l1, l2, l3, some (.int x), l5, l6] s h = rf d 284 232 [l0, l1, l2, l3, some (.int x), l5, l6] (.int x :: s) h := rf_pure (i := .iload 4) (len := 2) (okD_ok (by decide +kernel)) rfl
theorem e284_232 : rf d 284 232 ls s h = rf d 284 233 ls (.int 3 :: s) h := rf_pure (i := .iconst (3)) (len := 1) (okD_ok (by decide +kernel)) rfl
theorem e284_233 : rf d 284 233 ls (.int y :: .int x :: s) h = rf d 284 234 ls (.int (x + y) :: s) h := rf_pure (i := .iadd) (len := 1) (okD_ok (by decide +kernel)) rfl
theorem e284_234 (q : inb j n) : rf d 284 234 ls (.int j :: .ref 0 :: s) (SH n, I, L, R, nc, ns, nx) = rf d 284 235 ls (.int (I 0 j.toNatClampNeg) :: s) (SH n, I, L, R, nc, ns, nx) := g_sal (by decide +kernel) q
theorem e284_235 : rf d 284 235 [some (.ref a), l1, l2, l3, l4, l5, l6] s h = rf d 284 236 [some (.ref a), l1, l2, l3, l4, l5, l6] (.ref a :: s) h := rf_pure (i := .aload_n 0) (len := 1) (okD_ok (by decide +kernel)) rfl
theorem e284_236 : rf d 284 236 [l0, l1, l2, l3, some (.int x), l5, l6] s h = rf d 284 238 [l0, l1, l2, l3, some (.int x), l5, l6] (.int x :: s) h := rf_pure (i := .iload 4) (len := 2) (okD_ok (by decide +kernel)) rfl
theorem e284_238 : rf d 284 238 ls s h = rf d 284 239 ls (.int 4 :: s) h := rf_pure (i := .iconst (4)) (len := 1) (okD_ok (by decide +kernel)) rfl
theorem e284_239 : rf d 284 239 ls (.int y :: .int x :: s) h = rf d 284 240 ls (.int (x + y) :: s) h := rf_pure (i := .iadd) (len := 1) (okD_ok (by decide +kernel)) rfl
theorem e284_240 (q : inb j n) : rf d 284 240 ls (.int j :: .ref 0 :: s) (SH n, I, L, R, nc, ns, nx) = rf d 284 241 ls (.int (I 0 j.toNatClampNeg) :: s) (SH n, I, L, R, nc, ns, nx) := g_sal (by decide +kernel) q
theorem e284_241 : rf d 284 241 [some (.ref a), l1, l2, l3, l4, l5, l6] s h = rf d 284 242 [some (.ref a), l1, l2, l3, l4, l5, l6] (.ref a :: s) h := rf_pure (i := .aload_n 0) (len := 1) (okD_ok (by decide +kernel)) rfl
theorem e284_242 : rf d 284 242 [l0, l1, l2, l3, some (.int x), l5, l6] s h = rf d 284 244 [l0, l1, l2, l3, some (.int x), l5, l6] (.int x :: s) h := rf_pure (i := .iload 4) (len := 2) (okD_ok (by decide +kernel)) rfl
theorem e284_244 : rf d 284 244 ls s h = rf d 284 245 ls (.int 5 :: s) h := rf_pure (i := .iconst (5)) (len := 1) (okD_ok (by decide +kernel)) rfl
theorem e284_245 : rf d 284 245 ls (.int y :: .int x :: s) h = rf d 284 246 ls (.int (x + y) :: s) h := rf_pure (i := .iadd) (len := 1) (okD_ok (by decide +kernel)) rfl
theorem e284_246 (q : inb j n) : rf d 284 246 ls (.int j :: .ref 0 :: s) (SH n, I, L, R, nc, ns, nx) = rf d 284 247 ls (.int (I 0 j.toNatClampNeg) :: s) (SH n, I, L, R, nc, ns, nx) := g_sal (by decide +kernel) q
theorem e284_247 (hcat : ip_cat s ≤ 8) : rf (d + 1) 284 247 ls (.int x4 :: .int x3 :: .int x2 :: .int x1 :: .int x0 :: .ref 2 :: s) (SH n, I, L, R, nc, ns, nx) = rf_k (d + 1) 284 247 ls s (cf d 13 [.ref 2, .int x0, .int x1, .int x2, .int x3, .int x4] (SH n, I, L, R, nc, ns, nx)) := g_cv (idx := 118) (t := 7) [.int x4, .int x3, .int x2, .int x1, .int x0] (by decide +kernel) ow284 ms_9_118 mt_9_118 cy13_7 rfl rfl mL13 rfl rfl (by decide) hcat
theorem e284_250 : rf d 284 250 [l0, l1, some (.ref a), l3, l4, l5, l6] s h = rf d 284 251 [l0, l1, some (.ref a), l3, l4, l5, l6] (.ref a :: s) h := rf_pure (i := .aload_n 2) (len := 1) (okD_ok (by decide +kernel)) rfl
theorem e284_251 : rf d 284 251 [some (.ref a), l1, l2, l3, l4, l5, l6] s h = rf d 284 252 [some (.ref a), l1, l2, l3, l4, l5, l6] (.ref a :: s) h := rf_pure (i := .aload_n 0) (len := 1) (okD_ok (by decide +kernel)) rfl
theorem e284_252 : rf d 284 252 [l0, l1, l2, l3, some (.int x), l5, l6] s h = rf d 284 254 [l0, l1, l2, l3, some (.int x), l5, l6] (.int x :: s) h := rf_pure (i := .iload 4) (len := 2) (okD_ok (by decide +kernel)) rfl
theorem e284_254 : rf d 284 254 ls s h = rf d 284 255 ls (.int 1 :: s) h := rf_pure (i := .iconst (1)) (len := 1) (okD_ok (by decide +kernel)) rfl
theorem e284_255 : rf d 284 255 ls (.int y :: .int x :: s) h = rf d 284 256 ls (.int (x + y) :: s) h := rf_pure (i := .iadd) (len := 1) (okD_ok (by decide +kernel)) rfl
theorem e284_256 (q : inb j n) : rf d 284 256 ls (.int j :: .ref 0 :: s) (SH n, I, L, R, nc, ns, nx) = rf d 284 257 ls (.int (I 0 j.toNatClampNeg) :: s) (SH n, I, L, R, nc, ns, nx) := g_sal (by decide +kernel) q
theorem e284_257 : rf d 284 257 [some (.ref a), l1, l2, l3, l4, l5, l6] s h = rf d 284 258 [some (.ref a), l1, l2, l3, l4, l5, l6] (.ref a :: s) h := rf_pure (i := .aload_n 0) (len := 1) (okD_ok (by decide +kernel)) rfl
theorem e284_258 : rf d 284 258 [l0, l1, l2, l3, some (.int x), l5, l6] s h = rf d 284 260 [l0, l1, l2, l3, some (.int x), l5, l6] (.int x :: s) h := rf_pure (i := .iload 4) (len := 2) (okD_ok (by decide +kernel)) rfl
theorem e284_260 : rf d 284 260 ls s h = rf d 284 261 ls (.int 2 :: s) h := rf_pure (i := .iconst (2)) (len := 1) (okD_ok (by decide +kernel)) rfl
theorem e284_261 : rf d 284 261 ls (.int y :: .int x :: s) h = rf d 284 262 ls (.int (x + y) :: s) h := rf_pure (i := .iadd) (len := 1) (okD_ok (by decide +kernel)) rfl
theorem e284_262 (q : inb j n) : rf d 284 262 ls (.int j :: .ref 0 :: s) (SH n, I, L, R, nc, ns, nx) = rf d 284 263 ls (.int (I 0 j.toNatClampNeg) :: s) (SH n, I, L, R, nc, ns, nx) := g_sal (by decide +kernel) q
theorem e284_263 : rf d 284 263 [some (.ref a), l1, l2, l3, l4, l5, l6] s h = rf d 284 264 [some (.ref a), l1, l2, l3, l4, l5, l6] (.ref a :: s) h := rf_pure (i := .aload_n 0) (len := 1) (okD_ok (by decide +kernel)) rfl
theorem e284_264 : rf d 284 264 [l0, l1, l2, l3, some (.int x), l5, l6] s h = rf d 284 266 [l0, l1, l2, l3, some (.int x), l5, l6] (.int x :: s) h := rf_pure (i := .iload 4) (len := 2) (okD_ok (by decide +kernel)) rfl
theorem e284_266 : rf d 284 266 ls s h = rf d 284 267 ls (.int 3 :: s) h := rf_pure (i := .iconst (3)) (len := 1) (okD_ok (by decide +kernel)) rfl
theorem e284_267 : rf d 284 267 ls (.int y :: .int x :: s) h = rf d 284 268 ls (.int (x + y) :: s) h := rf_pure (i := .iadd) (len := 1) (okD_ok (by decide +kernel)) rfl
theorem e284_268 (q : inb j n) : rf d 284 268 ls (.int j :: .ref 0 :: s) (SH n, I, L, R, nc, ns, nx) = rf d 284 269 ls (.int (I 0 j.toNatClampNeg) :: s) (SH n, I, L, R, nc, ns, nx) := g_sal (by decide +kernel) q
theorem e284_269 : rf d 284 269 [some (.ref a), l1, l2, l3, l4, l5, l6] s h = rf d 284 270 [some (.ref a), l1, l2, l3, l4, l5, l6] (.ref a :: s) h := rf_pure (i := .aload_n 0) (len := 1) (okD_ok (by decide +kernel)) rfl
theorem e284_270 : rf d 284 270 [l0, l1, l2, l3, some (.int x), l5, l6] s h = rf d 284 272 [l0, l1, l2, l3, some (.int x), l5, l6] (.int x :: s) h := rf_pure (i := .iload 4) (len := 2) (okD_ok (by decide +kernel)) rfl
theorem e284_272 : rf d 284 272 ls s h = rf d 284 273 ls (.int 4 :: s) h := rf_pure (i := .iconst (4)) (len := 1) (okD_ok (by decide +kernel)) rfl
theorem e284_273 : rf d 284 273 ls (.int y :: .int x :: s) h = rf d 284 274 ls (.int (x + y) :: s) h := rf_pure (i := .iadd) (len := 1) (okD_ok (by decide +kernel)) rfl
theorem e284_274 (q : inb j n) : rf d 284 274 ls (.int j :: .ref 0 :: s) (SH n, I, L, R, nc, ns, nx) = rf d 284 275 ls (.int (I 0 j.toNatClampNeg) :: s) (SH n, I, L, R, nc, ns, nx) := g_sal (by decide +kernel) q
theorem e284_275 : rf d 284 275 [some (.ref a), l1, l2, l3, l4, l5, l6] s h = rf d 284 276 [some (.ref a), l1, l2, l3, l4, l5, l6] (.ref a :: s) h := rf_pure (i := .aload_n 0) (len := 1) (okD_ok (by decide +kernel)) rfl
theorem e284_276 : rf d 284 276 [l0, l1, l2, l3, some (.int x), l5, l6] s h = rf d 284 278 [l0, l1, l2, l3, some (.int x), l5, l6] (.int x :: s) h := rf_pure (i := .iload 4) (len := 2) (okD_ok (by decide +kernel)) rfl
theorem e284_278 : rf d 284 278 ls s h = rf d 284 279 ls (.int 5 :: s) h := rf_pure (i := .iconst (5)) (len := 1) (okD_ok (by decide +kernel)) rfl
theorem e284_279 : rf d 284 279 ls (.int y :: .int x :: s) h = rf d 284 280 ls (.int (x + y) :: s) h := rf_pure (i := .iadd) (len := 1) (okD_ok (by decide +kernel)) rfl
theorem e284_280 (q : inb j n) : rf d 284 280 ls (.int j :: .ref 0 :: s) (SH n, I, L, R, nc, ns, nx) = rf d 284 281 ls (.int (I 0 j.toNatClampNeg) :: s) (SH n, I, L, R, nc, ns, nx) := g_sal (by decide +kernel) q
theorem e284_281 (hcat : ip_cat s ≤ 8) : rf (d + 1) 284 281 ls (.int x4 :: .int x3 :: .int x2 :: .int x1 :: .int x0 :: .ref 265 :: s) (SH n, I, L, R, nc, ns, nx) = rf_k (d + 1) 284 281 ls s (cf d 190 [.ref 265, .int x0, .int x1, .int x2, .int x3, .int x4] (SH n, I, L, R, nc, ns, nx)) := g_cv (idx := 122) (t := 8) [.int x4, .int x3, .int x2, .int x1, .int x0] (by decide +kernel) ow284 ms_9_122 mt_9_122 cy190_8 rfl rfl mL190 rfl rfl (by decide) hcat
theorem e284_284 : rf d 284 284 ls (.int y :: .int x :: s) h = if x = y then rf d 284 2520 ls s h else rf d 284 287 ls s h := g_ic (c := .eq) (off := 2236) _ (by decide +kernel) rfl cmp_d
theorem e284_287 : rf d 284 287 ls s h = rf d 284 288 ls (.int 0 :: s) h := rf_pure (i := .iconst (0)) (len := 1) (okD_ok (by decide +kernel)) rfl
theorem e284_288 (hx : x = 0 ∨ x = 1) : rf d 284 288 ls [.int x] h = some (.inl (some (.int x)), h) := g_rz (by decide +kernel) rt284 hx
theorem e284_289 : rf d 284 289 [l0, some (.ref a), l2, l3, l4, l5, l6] s h = rf d 284 290 [l0, some (.ref a), l2, l3, l4, l5, l6] (.ref a :: s) h := rf_pure (i := .aload_n 1) (len := 1) (okD_ok (by decide +kernel)) rfl
theorem e284_290 : rf d 284 290 [some (.ref a), l1, l2, l3, l4, l5, l6] s h = rf d 284 291 [some (.ref a), l1, l2, l3, l4, l5, l6] (.ref a :: s) h := rf_pure (i := .aload_n 0) (len := 1) (okD_ok (by decide +kernel)) rfl
theorem e284_291 : rf d 284 291 [l0, l1, l2, l3, some (.int x), l5, l6] s h = rf d 284 293 [l0, l1, l2, l3, some (.int x), l5, l6] (.int x :: s) h := rf_pure (i := .iload 4) (len := 2) (okD_ok (by decide +kernel)) rfl
theorem e284_293 : rf d 284 293 ls s h = rf d 284 294 ls (.int 1 :: s) h := rf_pure (i := .iconst (1)) (len := 1) (okD_ok (by decide +kernel)) rfl
theorem e284_294 : rf d 284 294 ls (.int y :: .int x :: s) h = rf d 284 295 ls (.int (x + y) :: s) h := rf_pure (i := .iadd) (len := 1) (okD_ok (by decide +kernel)) rfl
theorem e284_295 (q : inb j n) : rf d 284 295 ls (.int j :: .ref 0 :: s) (SH n, I, L, R, nc, ns, nx) = rf d 284 296 ls (.int (I 0 j.toNatClampNeg) :: s) (SH n, I, L, R, nc, ns, nx) := g_sal (by decide +kernel) q
theorem e284_296 (hcat : ip_cat s ≤ 8) : rf (d + 1) 284 296 ls (.int x0 :: .ref 2 :: s) (SH n, I, L, R, nc, ns, nx) = rf_k (d + 1) 284 296 ls s (cf d 15 [.ref 2, .int x0] (SH n, I, L, R, nc, ns, nx)) := g_cv (idx := 123) (t := 7) [.int x0] (by decide +kernel) ow284 ms_9_123 mt_9_123 cy15_7 rfl rfl mL15 rfl rfl (by decide) hcat
theorem e284_299 : rf d 284 299 [l0, l1, some (.ref a), l3, l4, l5, l6] s h = rf d 284 300 [l0, l1, some (.ref a), l3, l4, l5, l6] (.ref a :: s) h := rf_pure (i := .aload_n 2) (len := 1) (okD_ok (by decide +kernel)) rfl
theorem e284_300 : rf d 284 300 [some (.ref a), l1, l2, l3, l4, l5, l6] s h = rf d 284 301 [some (.ref a), l1, l2, l3, l4, l5, l6] (.ref a :: s) h := rf_pure (i := .aload_n 0) (len := 1) (okD_ok (by decide +kernel)) rfl
theorem e284_301 : rf d 284 301 [l0, l1, l2, l3, some (.int x), l5, l6] s h = rf d 284 303 [l0, l1, l2, l3, some (.int x), l5, l6] (.int x :: s) h := rf_pure (i := .iload 4) (len := 2) (okD_ok (by decide +kernel)) rfl
theorem e284_303 : rf d 284 303 ls s h = rf d 284 304 ls (.int 1 :: s) h := rf_pure (i := .iconst (1)) (len := 1) (okD_ok (by decide +kernel)) rfl
theorem e284_304 : rf d 284 304 ls (.int y :: .int x :: s) h = rf d 284 305 ls (.int (x + y) :: s) h := rf_pure (i := .iadd) (len := 1) (okD_ok (by decide +kernel)) rfl
theorem e284_305 (q : inb j n) : rf d 284 305 ls (.int j :: .ref 0 :: s) (SH n, I, L, R, nc, ns, nx) = rf d 284 306 ls (.int (I 0 j.toNatClampNeg) :: s) (SH n, I, L, R, nc, ns, nx) := g_sal (by decide +kernel) q
theorem e284_306 (hcat : ip_cat s ≤ 8) : rf (d + 1) 284 306 ls (.int x0 :: .ref 265 :: s) (SH n, I, L, R, nc, ns, nx) = rf_k (d + 1) 284 306 ls s (cf d 191 [.ref 265, .int x0] (SH n, I, L, R, nc, ns, nx)) := g_cv (idx := 126) (t := 8) [.int x0] (by decide +kernel) ow284 ms_9_126 mt_9_126 cy191_8 rfl rfl mL191 rfl rfl (by decide) hcat
theorem e284_309 : rf d 284 309 ls (.int y :: .int x :: s) h = if x = y then rf d 284 2520 ls s h else rf d 284 312 ls s h := g_ic (c := .eq) (off := 2211) _ (by decide +kernel) rfl cmp_d
theorem e284_312 : rf d 284 312 ls s h = rf d 284 313 ls (.int 0 :: s) h := rf_pure (i := .iconst (0)) (len := 1) (okD_ok (by decide +kernel)) rfl
theorem e284_313 (hx : x = 0 ∨ x = 1) : rf d 284 313 ls [.int x] h = some (.inl (some (.int x)), h) := g_rz (by decide +kernel) rt284 hx
theorem e284_314 : rf d 284 314 [l0, some (.ref a), l2, l3, l4, l5, l6] s h = rf d 284 315 [l0, some (.ref a), l2, l3, l4, l5, l6] (.ref a :: s) h := rf_pure (i := .aload_n 1) (len := 1) (okD_ok (by decide +kernel)) rfl
theorem e284_315 : rf d 284 315 [l0, l1, l2, some (.ref a), l4, l5, l6] s h = rf d 284 316 [l0, l1, l2, some (.ref a), l4, l5, l6] (.ref a :: s) h := rf_pure (i := .aload_n 3) (len := 1) (okD_ok (by decide +kernel)) rfl
theorem e284_316 (hcat : ip_cat s ≤ 8) : rf (d + 1) 284 316 ls (.ref a1 :: .ref a0 :: s) h = rf_k (d + 1) 284 316 ls s (cf d 36 [.ref a0, .ref a1] h) := g_cs (idx := 127) [.ref a1, .ref a0] (by decide +kernel) ow284 ms_9_127 mt_9_127 (by decide) rfl mL36 rfl hcat
theorem e284_319 (hn : ip_nl l4 = true) : rf d 284 319 [l0, l1, l2, l3, l4, l5, l6] (.int x :: s) h = rf d 284 321 [l0, l1, l2, l3, l4, some (.int x), l6] s h := g_sti (i := .istore 5) (len := 2) (q := 4) (p := 2) (by decide +kernel) rfl rfl hn
theorem e284_321 : rf d 284 321 [l0, l1, some (.ref a), l3, l4, l5, l6] s h = rf d 284 322 [l0, l1, some (.ref a), l3, l4, l5, l6] (.ref a :: s) h := rf_pure (i := .aload_n 2) (len := 1) (okD_ok (by decide +kernel)) rfl
theorem e284_322 (hcat : ip_cat s ≤ 8) : rf (d + 1) 284 322 ls (.ref 265 :: s) (SH n, I, L, R, nc, ns, nx) = rf_k (d + 1) 284 322 ls s (cf d 192 [.ref 265] (SH n, I, L, R, nc, ns, nx)) := g_cv (idx := 132) (t := 8) [] (by decide +kernel) ow284 ms_9_132 mt_9_132 cy192_8 rfl rfl mL192 rfl rfl (by decide) hcat
theorem e284_325 (hn : ip_nl l5 = true) : rf d 284 325 [l0, l1, l2, l3, l4, l5, l6] (.int x :: s) h = rf d 284 327 [l0, l1, l2, l3, l4, l5, some (.int x)] s h := g_sti (i := .istore 6) (len := 2) (q := 5) (p := 2) (by decide +kernel) rfl rfl hn
theorem e284_327 : rf d 284 327 [l0, l1, some (.ref a), l3, l4, l5, l6] s h = rf d 284 328 [l0, l1, some (.ref a), l3, l4, l5, l6] (.ref a :: s) h := rf_pure (i := .aload_n 2) (len := 1) (okD_ok (by decide +kernel)) rfl
theorem e284_328 (hcat : ip_cat s ≤ 8) : rf (d + 1) 284 328 ls (.ref 265 :: s) (SH n, I, L, R, nc, ns, nx) = rf_k (d + 1) 284 328 ls s (cf d 189 [.ref 265] (SH n, I, L, R, nc, ns, nx)) := g_cv (idx := 133) (t := 8) [] (by decide +kernel) ow284 ms_9_133 mt_9_133 cy189_8 rfl rfl mL189 rfl rfl (by decide) hcat
theorem e284_331 : rf d 284 331 [l0, l1, l2, l3, l4, some (.int x), l6] s h = rf d 284 333 [l0, l1, l2, l3, l4, some (.int x), l6] (.int x :: s) h := rf_pure (i := .iload 5) (len := 2) (okD_ok (by decide +kernel)) rfl
theorem e284_333 : rf d 284 333 ls (.int y :: .int x :: s) h = if x = y then rf d 284 338 ls s h else rf d 284 336 ls s h := g_ic (c := .eq) (off := 5) _ (by decide +kernel) rfl cmp_d
theorem e284_336 : rf d 284 336 ls s h = rf d 284 337 ls (.int 0 :: s) h := rf_pure (i := .iconst (0)) (len := 1) (okD_ok (by decide +kernel)) rfl
theorem e284_337 (hx : x = 0 ∨ x = 1) : rf d 284 337 ls [.int x] h = some (.inl (some (.int x)), h) := g_rz (by decide +kernel) rt284 hx
theorem e284_338 : rf d 284 338 [l0, l1, l2, l3, l4, some (.int x), l6] s h = rf d 284 340 [l0, l1, l2, l3, l4, some (.int x), l6] (.int x :: s) h := rf_pure (i := .iload 5) (len := 2) (okD_ok (by decide +kernel)) rfl
theorem e284_340 : rf d 284 340 ls (.int x :: s) h = if ¬ x = 0 then rf d 284 355 ls s h else rf d 284 343 ls s h := g_if (c := .ne) (off := 15) _ (by decide +kernel) rfl cmp_d
theorem e284_343 : rf d 284 343 [l0, l1, l2, some (.ref a), l4, l5, l6] s h = rf d 284 344 [l0, l1, l2, some (.ref a), l4, l5, l6] (.ref a :: s) h := rf_pure (i := .aload_n 3) (len := 1) (okD_ok (by decide +kernel)) rfl
theorem e284_344 : rf d 284 344 ls s h = rf d 284 345 ls (.int 0 :: s) h := rf_pure (i := .iconst (0)) (len := 1) (okD_ok (by decide +kernel)) rfl
theorem e284_345 (q : la n a j) : rf d 284 345 ls (.int j :: .ref a :: s) (SH n, I, L, R, nc, ns, nx) = rf d 284 346 ls (.long (L a j.toNatClampNeg) :: s) (SH n, I, L, R, nc, ns, nx) := g_lal (by decide +kernel) q
theorem e284_346 : rf d 284 346 [l0, l1, l2, l3, l4, l5, some (.int x)] s h = rf d 284 348 [l0, l1, l2, l3, l4, l5, some (.int x)] (.int x :: s) h := rf_pure (i := .iload 6) (len := 2) (okD_ok (by decide +kernel)) rfl
theorem e284_348 : rf d 284 348 ls (.int x :: s) h = rf d 284 349 ls (.long x.toInt64 :: s) h := rf_pure (i := .i2l) (len := 1) (okD_ok (by decide +kernel)) rfl
theorem e284_349 : rf d 284 349 ls (.long v :: .long u :: s) h = rf d 284 350 ls (.int (lg_cmp u v) :: s) h := rf_pure (i := .lcmp) (len := 1) (okD_ok (by decide +kernel)) rfl
theorem e284_350 : rf d 284 350 ls (.int x :: s) h = if x = 0 then rf d 284 355 ls s h else rf d 284 353 ls s h := g_if (c := .eq) (off := 5) _ (by decide +kernel) rfl cmp_d
theorem e284_353 : rf d 284 353 ls s h = rf d 284 354 ls (.int 0 :: s) h := rf_pure (i := .iconst (0)) (len := 1) (okD_ok (by decide +kernel)) rfl
theorem e284_354 (hx : x = 0 ∨ x = 1) : rf d 284 354 ls [.int x] h = some (.inl (some (.int x)), h) := g_rz (by decide +kernel) rt284 hx
theorem e284_355 : rf d 284 355 ls s h = rf d 284 2520 ls s h := rf_goto ⟨okD_ok (i := .goto (2165)) (len := 3) (by decide +kernel), rfl⟩
theorem e284_358 : rf d 284 358 [l0, some (.ref a), l2, l3, l4, l5, l6] s h = rf d 284 359 [l0, some (.ref a), l2, l3, l4, l5, l6] (.ref a :: s) h := rf_pure (i := .aload_n 1) (len := 1) (okD_ok (by decide +kernel)) rfl
theorem e284_359 (hcat : ip_cat s ≤ 8) : rf (d + 1) 284 359 ls (.ref 2 :: s) (SH n, I, L, R, nc, ns, nx) = rf_k (d + 1) 284 359 ls s (cf d 16 [.ref 2] (SH n, I, L, R, nc, ns, nx)) := g_cv (idx := 136) (t := 7) [] (by decide +kernel) ow284 ms_9_136 mt_9_136 cy16_7 rfl rfl mL16 rfl rfl (by decide) hcat
theorem e284_362 : rf d 284 362 [l0, l1, some (.ref a), l3, l4, l5, l6] s h = rf d 284 363 [l0, l1, some (.ref a), l3, l4, l5, l6] (.ref a :: s) h := rf_pure (i := .aload_n 2) (len := 1) (okD_ok (by decide +kernel)) rfl
theorem e284_363 (hcat : ip_cat s ≤ 8) : rf (d + 1) 284 363 ls (.ref 265 :: s) (SH n, I, L, R, nc, ns, nx) = rf_k (d + 1) 284 363 ls s (cf d 214 [.ref 265] (SH n, I, L, R, nc, ns, nx)) := g_cv (idx := 139) (t := 8) [] (by decide +kernel) ow284 ms_9_139 mt_9_139 cy214_8 rfl rfl mL214 rfl rfl (by decide) hcat
theorem e284_366 : rf d 284 366 ls (.int y :: .int x :: s) h = if x = y then rf d 284 2520 ls s h else rf d 284 369 ls s h := g_ic (c := .eq) (off := 2154) _ (by decide +kernel) rfl cmp_d
theorem e284_369 : rf d 284 369 ls s h = rf d 284 370 ls (.int 0 :: s) h := rf_pure (i := .iconst (0)) (len := 1) (okD_ok (by decide +kernel)) rfl
theorem e284_370 (hx : x = 0 ∨ x = 1) : rf d 284 370 ls [.int x] h = some (.inl (some (.int x)), h) := g_rz (by decide +kernel) rt284 hx
theorem e284_371 : rf d 284 371 [l0, some (.ref a), l2, l3, l4, l5, l6] s h = rf d 284 372 [l0, some (.ref a), l2, l3, l4, l5, l6] (.ref a :: s) h := rf_pure (i := .aload_n 1) (len := 1) (okD_ok (by decide +kernel)) rfl
theorem e284_372 : rf d 284 372 [some (.ref a), l1, l2, l3, l4, l5, l6] s h = rf d 284 373 [some (.ref a), l1, l2, l3, l4, l5, l6] (.ref a :: s) h := rf_pure (i := .aload_n 0) (len := 1) (okD_ok (by decide +kernel)) rfl
theorem e284_373 : rf d 284 373 [l0, l1, l2, l3, some (.int x), l5, l6] s h = rf d 284 375 [l0, l1, l2, l3, some (.int x), l5, l6] (.int x :: s) h := rf_pure (i := .iload 4) (len := 2) (okD_ok (by decide +kernel)) rfl
theorem e284_375 : rf d 284 375 ls s h = rf d 284 376 ls (.int 1 :: s) h := rf_pure (i := .iconst (1)) (len := 1) (okD_ok (by decide +kernel)) rfl
theorem e284_376 : rf d 284 376 ls (.int y :: .int x :: s) h = rf d 284 377 ls (.int (x + y) :: s) h := rf_pure (i := .iadd) (len := 1) (okD_ok (by decide +kernel)) rfl
theorem e284_377 (q : inb j n) : rf d 284 377 ls (.int j :: .ref 0 :: s) (SH n, I, L, R, nc, ns, nx) = rf d 284 378 ls (.int (I 0 j.toNatClampNeg) :: s) (SH n, I, L, R, nc, ns, nx) := g_sal (by decide +kernel) q
theorem e284_378 : rf d 284 378 [some (.ref a), l1, l2, l3, l4, l5, l6] s h = rf d 284 379 [some (.ref a), l1, l2, l3, l4, l5, l6] (.ref a :: s) h := rf_pure (i := .aload_n 0) (len := 1) (okD_ok (by decide +kernel)) rfl
theorem e284_379 : rf d 284 379 [l0, l1, l2, l3, some (.int x), l5, l6] s h = rf d 284 381 [l0, l1, l2, l3, some (.int x), l5, l6] (.int x :: s) h := rf_pure (i := .iload 4) (len := 2) (okD_ok (by decide +kernel)) rfl
theorem e284_381 : rf d 284 381 ls s h = rf d 284 382 ls (.int 2 :: s) h := rf_pure (i := .iconst (2)) (len := 1) (okD_ok (by decide +kernel)) rfl
theorem e284_382 : rf d 284 382 ls (.int y :: .int x :: s) h = rf d 284 383 ls (.int (x + y) :: s) h := rf_pure (i := .iadd) (len := 1) (okD_ok (by decide +kernel)) rfl
theorem e284_383 (q : inb j n) : rf d 284 383 ls (.int j :: .ref 0 :: s) (SH n, I, L, R, nc, ns, nx) = rf d 284 384 ls (.int (I 0 j.toNatClampNeg) :: s) (SH n, I, L, R, nc, ns, nx) := g_sal (by decide +kernel) q
theorem e284_384 : rf d 284 384 [l0, l1, l2, some (.ref a), l4, l5, l6] s h = rf d 284 385 [l0, l1, l2, some (.ref a), l4, l5, l6] (.ref a :: s) h := rf_pure (i := .aload_n 3) (len := 1) (okD_ok (by decide +kernel)) rfl
theorem e284_385 (hcat : ip_cat s ≤ 8) : rf (d + 1) 284 385 ls (.ref a3 :: .int x2 :: .int x1 :: .ref a0 :: s) h = rf_k (d + 1) 284 385 ls s (cf d 73 [.ref a0, .int x1, .int x2, .ref a3] h) := g_cs (idx := 140) [.ref a3, .int x2, .int x1, .ref a0] (by decide +kernel) ow284 ms_9_140 mt_9_140 (by decide) rfl mL73 rfl hcat
theorem e284_388 (hn : ip_nl l4 = true) : rf d 284 388 [l0, l1, l2, l3, l4, l5, l6] (.int x :: s) h = rf d 284 390 [l0, l1, l2, l3, l4, some (.int x), l6] s h := g_sti (i := .istore 5) (len := 2) (q := 4) (p := 2) (by decide +kernel) rfl rfl hn
theorem e284_390 : rf d 284 390 [l0, l1, some (.ref a), l3, l4, l5, l6] s h = rf d 284 391 [l0, l1, some (.ref a), l3, l4, l5, l6] (.ref a :: s) h := rf_pure (i := .aload_n 2) (len := 1) (okD_ok (by decide +kernel)) rfl
theorem e284_391 : rf d 284 391 [some (.ref a), l1, l2, l3, l4, l5, l6] s h = rf d 284 392 [some (.ref a), l1, l2, l3, l4, l5, l6] (.ref a :: s) h := rf_pure (i := .aload_n 0) (len := 1) (okD_ok (by decide +kernel)) rfl
theorem e284_392 : rf d 284 392 [l0, l1, l2, l3, some (.int x), l5, l6] s h = rf d 284 394 [l0, l1, l2, l3, some (.int x), l5, l6] (.int x :: s) h := rf_pure (i := .iload 4) (len := 2) (okD_ok (by decide +kernel)) rfl
theorem e284_394 : rf d 284 394 ls s h = rf d 284 395 ls (.int 1 :: s) h := rf_pure (i := .iconst (1)) (len := 1) (okD_ok (by decide +kernel)) rfl
theorem e284_395 : rf d 284 395 ls (.int y :: .int x :: s) h = rf d 284 396 ls (.int (x + y) :: s) h := rf_pure (i := .iadd) (len := 1) (okD_ok (by decide +kernel)) rfl
theorem e284_396 (q : inb j n) : rf d 284 396 ls (.int j :: .ref 0 :: s) (SH n, I, L, R, nc, ns, nx) = rf d 284 397 ls (.int (I 0 j.toNatClampNeg) :: s) (SH n, I, L, R, nc, ns, nx) := g_sal (by decide +kernel) q
theorem e284_397 : rf d 284 397 [some (.ref a), l1, l2, l3, l4, l5, l6] s h = rf d 284 398 [some (.ref a), l1, l2, l3, l4, l5, l6] (.ref a :: s) h := rf_pure (i := .aload_n 0) (len := 1) (okD_ok (by decide +kernel)) rfl
theorem e284_398 : rf d 284 398 [l0, l1, l2, l3, some (.int x), l5, l6] s h = rf d 284 400 [l0, l1, l2, l3, some (.int x), l5, l6] (.int x :: s) h := rf_pure (i := .iload 4) (len := 2) (okD_ok (by decide +kernel)) rfl
theorem e284_400 : rf d 284 400 ls s h = rf d 284 401 ls (.int 2 :: s) h := rf_pure (i := .iconst (2)) (len := 1) (okD_ok (by decide +kernel)) rfl
theorem e284_401 : rf d 284 401 ls (.int y :: .int x :: s) h = rf d 284 402 ls (.int (x + y) :: s) h := rf_pure (i := .iadd) (len := 1) (okD_ok (by decide +kernel)) rfl
theorem e284_402 (q : inb j n) : rf d 284 402 ls (.int j :: .ref 0 :: s) (SH n, I, L, R, nc, ns, nx) = rf d 284 403 ls (.int (I 0 j.toNatClampNeg) :: s) (SH n, I, L, R, nc, ns, nx) := g_sal (by decide +kernel) q
theorem e284_403 (hcat : ip_cat s ≤ 8) : rf (d + 1) 284 403 ls (.int x1 :: .int x0 :: .ref 265 :: s) (SH n, I, L, R, nc, ns, nx) = rf_k (d + 1) 284 403 ls s (cf d 215 [.ref 265, .int x0, .int x1] (SH n, I, L, R, nc, ns, nx)) := g_cv (idx := 143) (t := 8) [.int x1, .int x0] (by decide +kernel) ow284 ms_9_143 mt_9_143 cy215_8 rfl rfl mL215 rfl rfl (by decide) hcat
theorem e284_406 (hn : ip_nl l5 = true) : rf d 284 406 [l0, l1, l2, l3, l4, l5, l6] (.int x :: s) h = rf d 284 408 [l0, l1, l2, l3, l4, l5, some (.int x)] s h := g_sti (i := .istore 6) (len := 2) (q := 5) (p := 2) (by decide +kernel) rfl rfl hn
theorem e284_408 : rf d 284 408 [l0, l1, some (.ref a), l3, l4, l5, l6] s h = rf d 284 409 [l0, l1, some (.ref a), l3, l4, l5, l6] (.ref a :: s) h := rf_pure (i := .aload_n 2) (len := 1) (okD_ok (by decide +kernel)) rfl
theorem e284_409 (hcat : ip_cat s ≤ 8) : rf (d + 1) 284 409 ls (.ref 265 :: s) (SH n, I, L, R, nc, ns, nx) = rf_k (d + 1) 284 409 ls s (cf d 189 [.ref 265] (SH n, I, L, R, nc, ns, nx)) := g_cv (idx := 133) (t := 8) [] (by decide +kernel) ow284 ms_9_133 mt_9_133 cy189_8 rfl rfl mL189 rfl rfl (by decide) hcat
theorem e284_412 : rf d 284 412 [l0, l1, l2, l3, l4, some (.int x), l6] s h = rf d 284 414 [l0, l1, l2, l3, l4, some (.int x), l6] (.int x :: s) h := rf_pure (i := .iload 5) (len := 2) (okD_ok (by decide +kernel)) rfl
theorem e284_414 : rf d 284 414 ls (.int y :: .int x :: s) h = if x = y then rf d 284 419 ls s h else rf d 284 417 ls s h := g_ic (c := .eq) (off := 5) _ (by decide +kernel) rfl cmp_d
theorem e284_417 : rf d 284 417 ls s h = rf d 284 418 ls (.int 0 :: s) h := rf_pure (i := .iconst (0)) (len := 1) (okD_ok (by decide +kernel)) rfl
theorem e284_418 (hx : x = 0 ∨ x = 1) : rf d 284 418 ls [.int x] h = some (.inl (some (.int x)), h) := g_rz (by decide +kernel) rt284 hx
theorem e284_419 : rf d 284 419 [l0, l1, l2, l3, l4, some (.int x), l6] s h = rf d 284 421 [l0, l1, l2, l3, l4, some (.int x), l6] (.int x :: s) h := rf_pure (i := .iload 5) (len := 2) (okD_ok (by decide +kernel)) rfl
theorem e284_421 : rf d 284 421 ls (.int x :: s) h = if ¬ x = 0 then rf d 284 436 ls s h else rf d 284 424 ls s h := g_if (c := .ne) (off := 15) _ (by decide +kernel) rfl cmp_d
theorem e284_424 : rf d 284 424 [l0, l1, l2, some (.ref a), l4, l5, l6] s h = rf d 284 425 [l0, l1, l2, some (.ref a), l4, l5, l6] (.ref a :: s) h := rf_pure (i := .aload_n 3) (len := 1) (okD_ok (by decide +kernel)) rfl
theorem e284_425 : rf d 284 425 ls s h = rf d 284 426 ls (.int 0 :: s) h := rf_pure (i := .iconst (0)) (len := 1) (okD_ok (by decide +kernel)) rfl
theorem e284_426 (q : la n a j) : rf d 284 426 ls (.int j :: .ref a :: s) (SH n, I, L, R, nc, ns, nx) = rf d 284 427 ls (.long (L a j.toNatClampNeg) :: s) (SH n, I, L, R, nc, ns, nx) := g_lal (by decide +kernel) q
theorem e284_427 : rf d 284 427 [l0, l1, l2, l3, l4, l5, some (.int x)] s h = rf d 284 429 [l0, l1, l2, l3, l4, l5, some (.int x)] (.int x :: s) h := rf_pure (i := .iload 6) (len := 2) (okD_ok (by decide +kernel)) rfl
theorem e284_429 : rf d 284 429 ls (.int x :: s) h = rf d 284 430 ls (.long x.toInt64 :: s) h := rf_pure (i := .i2l) (len := 1) (okD_ok (by decide +kernel)) rfl
theorem e284_430 : rf d 284 430 ls (.long v :: .long u :: s) h = rf d 284 431 ls (.int (lg_cmp u v) :: s) h := rf_pure (i := .lcmp) (len := 1) (okD_ok (by decide +kernel)) rfl
theorem e284_431 : rf d 284 431 ls (.int x :: s) h = if x = 0 then rf d 284 436 ls s h else rf d 284 434 ls s h := g_if (c := .eq) (off := 5) _ (by decide +kernel) rfl cmp_d
theorem e284_434 : rf d 284 434 ls s h = rf d 284 435 ls (.int 0 :: s) h := rf_pure (i := .iconst (0)) (len := 1) (okD_ok (by decide +kernel)) rfl
theorem e284_435 (hx : x = 0 ∨ x = 1) : rf d 284 435 ls [.int x] h = some (.inl (some (.int x)), h) := g_rz (by decide +kernel) rt284 hx
theorem e284_436 : rf d 284 436 ls s h = rf d 284 2520 ls s h := rf_goto ⟨okD_ok (i := .goto (2084)) (len := 3) (by decide +kernel), rfl⟩
theorem e284_439 : rf d 284 439 [l0, some (.ref a), l2, l3, l4, l5, l6] s h = rf d 284 440 [l0, some (.ref a), l2, l3, l4, l5, l6] (.ref a :: s) h := rf_pure (i := .aload_n 1) (len := 1) (okD_ok (by decide +kernel)) rfl
theorem e284_440 : rf d 284 440 [some (.ref a), l1, l2, l3, l4, l5, l6] s h = rf d 284 441 [some (.ref a), l1, l2, l3, l4, l5, l6] (.ref a :: s) h := rf_pure (i := .aload_n 0) (len := 1) (okD_ok (by decide +kernel)) rfl
theorem e284_441 : rf d 284 441 [l0, l1, l2, l3, some (.int x), l5, l6] s h = rf d 284 443 [l0, l1, l2, l3, some (.int x), l5, l6] (.int x :: s) h := rf_pure (i := .iload 4) (len := 2) (okD_ok (by decide +kernel)) rfl
theorem e284_443 : rf d 284 443 ls s h = rf d 284 444 ls (.int 1 :: s) h := rf_pure (i := .iconst (1)) (len := 1) (okD_ok (by decide +kernel)) rfl
theorem e284_444 : rf d 284 444 ls (.int y :: .int x :: s) h = rf d 284 445 ls (.int (x + y) :: s) h := rf_pure (i := .iadd) (len := 1) (okD_ok (by decide +kernel)) rfl
theorem e284_445 (q : inb j n) : rf d 284 445 ls (.int j :: .ref 0 :: s) (SH n, I, L, R, nc, ns, nx) = rf d 284 446 ls (.int (I 0 j.toNatClampNeg) :: s) (SH n, I, L, R, nc, ns, nx) := g_sal (by decide +kernel) q
theorem e284_446 : rf d 284 446 [some (.ref a), l1, l2, l3, l4, l5, l6] s h = rf d 284 447 [some (.ref a), l1, l2, l3, l4, l5, l6] (.ref a :: s) h := rf_pure (i := .aload_n 0) (len := 1) (okD_ok (by decide +kernel)) rfl
theorem e284_447 : rf d 284 447 [l0, l1, l2, l3, some (.int x), l5, l6] s h = rf d 284 449 [l0, l1, l2, l3, some (.int x), l5, l6] (.int x :: s) h := rf_pure (i := .iload 4) (len := 2) (okD_ok (by decide +kernel)) rfl
theorem e284_449 : rf d 284 449 ls s h = rf d 284 450 ls (.int 2 :: s) h := rf_pure (i := .iconst (2)) (len := 1) (okD_ok (by decide +kernel)) rfl
theorem e284_450 : rf d 284 450 ls (.int y :: .int x :: s) h = rf d 284 451 ls (.int (x + y) :: s) h := rf_pure (i := .iadd) (len := 1) (okD_ok (by decide +kernel)) rfl
theorem e284_451 (q : inb j n) : rf d 284 451 ls (.int j :: .ref 0 :: s) (SH n, I, L, R, nc, ns, nx) = rf d 284 452 ls (.int (I 0 j.toNatClampNeg) :: s) (SH n, I, L, R, nc, ns, nx) := g_sal (by decide +kernel) q
theorem e284_452 : rf d 284 452 [l0, l1, l2, some (.ref a), l4, l5, l6] s h = rf d 284 453 [l0, l1, l2, some (.ref a), l4, l5, l6] (.ref a :: s) h := rf_pure (i := .aload_n 3) (len := 1) (okD_ok (by decide +kernel)) rfl
theorem e284_453 (hcat : ip_cat s ≤ 8) : rf (d + 1) 284 453 ls (.ref a3 :: .int x2 :: .int x1 :: .ref a0 :: s) h = rf_k (d + 1) 284 453 ls s (cf d 76 [.ref a0, .int x1, .int x2, .ref a3] h) := g_cs (idx := 144) [.ref a3, .int x2, .int x1, .ref a0] (by decide +kernel) ow284 ms_9_144 mt_9_144 (by decide) rfl mL76 rfl hcat
theorem e284_456 (hn : ip_nl l4 = true) : rf d 284 456 [l0, l1, l2, l3, l4, l5, l6] (.int x :: s) h = rf d 284 458 [l0, l1, l2, l3, l4, some (.int x), l6] s h := g_sti (i := .istore 5) (len := 2) (q := 4) (p := 2) (by decide +kernel) rfl rfl hn
theorem e284_458 : rf d 284 458 [l0, l1, some (.ref a), l3, l4, l5, l6] s h = rf d 284 459 [l0, l1, some (.ref a), l3, l4, l5, l6] (.ref a :: s) h := rf_pure (i := .aload_n 2) (len := 1) (okD_ok (by decide +kernel)) rfl
theorem e284_459 : rf d 284 459 [some (.ref a), l1, l2, l3, l4, l5, l6] s h = rf d 284 460 [some (.ref a), l1, l2, l3, l4, l5, l6] (.ref a :: s) h := rf_pure (i := .aload_n 0) (len := 1) (okD_ok (by decide +kernel)) rfl
theorem e284_460 : rf d 284 460 [l0, l1, l2, l3, some (.int x), l5, l6] s h = rf d 284 462 [l0, l1, l2, l3, some (.int x), l5, l6] (.int x :: s) h := rf_pure (i := .iload 4) (len := 2) (okD_ok (by decide +kernel)) rfl
theorem e284_462 : rf d 284 462 ls s h = rf d 284 463 ls (.int 1 :: s) h := rf_pure (i := .iconst (1)) (len := 1) (okD_ok (by decide +kernel)) rfl
theorem e284_463 : rf d 284 463 ls (.int y :: .int x :: s) h = rf d 284 464 ls (.int (x + y) :: s) h := rf_pure (i := .iadd) (len := 1) (okD_ok (by decide +kernel)) rfl
theorem e284_464 (q : inb j n) : rf d 284 464 ls (.int j :: .ref 0 :: s) (SH n, I, L, R, nc, ns, nx) = rf d 284 465 ls (.int (I 0 j.toNatClampNeg) :: s) (SH n, I, L, R, nc, ns, nx) := g_sal (by decide +kernel) q
theorem e284_465 : rf d 284 465 [some (.ref a), l1, l2, l3, l4, l5, l6] s h = rf d 284 466 [some (.ref a), l1, l2, l3, l4, l5, l6] (.ref a :: s) h := rf_pure (i := .aload_n 0) (len := 1) (okD_ok (by decide +kernel)) rfl
theorem e284_466 : rf d 284 466 [l0, l1, l2, l3, some (.int x), l5, l6] s h = rf d 284 468 [l0, l1, l2, l3, some (.int x), l5, l6] (.int x :: s) h := rf_pure (i := .iload 4) (len := 2) (okD_ok (by decide +kernel)) rfl
theorem e284_468 : rf d 284 468 ls s h = rf d 284 469 ls (.int 2 :: s) h := rf_pure (i := .iconst (2)) (len := 1) (okD_ok (by decide +kernel)) rfl
theorem e284_469 : rf d 284 469 ls (.int y :: .int x :: s) h = rf d 284 470 ls (.int (x + y) :: s) h := rf_pure (i := .iadd) (len := 1) (okD_ok (by decide +kernel)) rfl
theorem e284_470 (q : inb j n) : rf d 284 470 ls (.int j :: .ref 0 :: s) (SH n, I, L, R, nc, ns, nx) = rf d 284 471 ls (.int (I 0 j.toNatClampNeg) :: s) (SH n, I, L, R, nc, ns, nx) := g_sal (by decide +kernel) q
theorem e284_471 (hcat : ip_cat s ≤ 8) : rf (d + 1) 284 471 ls (.int x1 :: .int x0 :: .ref 265 :: s) (SH n, I, L, R, nc, ns, nx) = rf_k (d + 1) 284 471 ls s (cf d 219 [.ref 265, .int x0, .int x1] (SH n, I, L, R, nc, ns, nx)) := g_cv (idx := 146) (t := 8) [.int x1, .int x0] (by decide +kernel) ow284 ms_9_146 mt_9_146 cy219_8 rfl rfl mL219 rfl rfl (by decide) hcat
theorem e284_474 (hn : ip_nl l5 = true) : rf d 284 474 [l0, l1, l2, l3, l4, l5, l6] (.int x :: s) h = rf d 284 476 [l0, l1, l2, l3, l4, l5, some (.int x)] s h := g_sti (i := .istore 6) (len := 2) (q := 5) (p := 2) (by decide +kernel) rfl rfl hn
theorem e284_476 : rf d 284 476 [l0, l1, some (.ref a), l3, l4, l5, l6] s h = rf d 284 477 [l0, l1, some (.ref a), l3, l4, l5, l6] (.ref a :: s) h := rf_pure (i := .aload_n 2) (len := 1) (okD_ok (by decide +kernel)) rfl
theorem e284_477 (hcat : ip_cat s ≤ 8) : rf (d + 1) 284 477 ls (.ref 265 :: s) (SH n, I, L, R, nc, ns, nx) = rf_k (d + 1) 284 477 ls s (cf d 189 [.ref 265] (SH n, I, L, R, nc, ns, nx)) := g_cv (idx := 133) (t := 8) [] (by decide +kernel) ow284 ms_9_133 mt_9_133 cy189_8 rfl rfl mL189 rfl rfl (by decide) hcat
theorem e284_480 : rf d 284 480 [l0, l1, l2, l3, l4, some (.int x), l6] s h = rf d 284 482 [l0, l1, l2, l3, l4, some (.int x), l6] (.int x :: s) h := rf_pure (i := .iload 5) (len := 2) (okD_ok (by decide +kernel)) rfl
theorem e284_482 : rf d 284 482 ls (.int y :: .int x :: s) h = if x = y then rf d 284 487 ls s h else rf d 284 485 ls s h := g_ic (c := .eq) (off := 5) _ (by decide +kernel) rfl cmp_d
theorem e284_485 : rf d 284 485 ls s h = rf d 284 486 ls (.int 0 :: s) h := rf_pure (i := .iconst (0)) (len := 1) (okD_ok (by decide +kernel)) rfl
theorem e284_486 (hx : x = 0 ∨ x = 1) : rf d 284 486 ls [.int x] h = some (.inl (some (.int x)), h) := g_rz (by decide +kernel) rt284 hx
theorem e284_487 : rf d 284 487 [l0, l1, l2, l3, l4, some (.int x), l6] s h = rf d 284 489 [l0, l1, l2, l3, l4, some (.int x), l6] (.int x :: s) h := rf_pure (i := .iload 5) (len := 2) (okD_ok (by decide +kernel)) rfl
theorem e284_489 : rf d 284 489 ls (.int x :: s) h = if ¬ x = 0 then rf d 284 504 ls s h else rf d 284 492 ls s h := g_if (c := .ne) (off := 15) _ (by decide +kernel) rfl cmp_d
theorem e284_492 : rf d 284 492 [l0, l1, l2, some (.ref a), l4, l5, l6] s h = rf d 284 493 [l0, l1, l2, some (.ref a), l4, l5, l6] (.ref a :: s) h := rf_pure (i := .aload_n 3) (len := 1) (okD_ok (by decide +kernel)) rfl
theorem e284_493 : rf d 284 493 ls s h = rf d 284 494 ls (.int 0 :: s) h := rf_pure (i := .iconst (0)) (len := 1) (okD_ok (by decide +kernel)) rfl
theorem e284_494 (q : la n a j) : rf d 284 494 ls (.int j :: .ref a :: s) (SH n, I, L, R, nc, ns, nx) = rf d 284 495 ls (.long (L a j.toNatClampNeg) :: s) (SH n, I, L, R, nc, ns, nx) := g_lal (by decide +kernel) q
theorem e284_495 : rf d 284 495 [l0, l1, l2, l3, l4, l5, some (.int x)] s h = rf d 284 497 [l0, l1, l2, l3, l4, l5, some (.int x)] (.int x :: s) h := rf_pure (i := .iload 6) (len := 2) (okD_ok (by decide +kernel)) rfl
theorem e284_497 : rf d 284 497 ls (.int x :: s) h = rf d 284 498 ls (.long x.toInt64 :: s) h := rf_pure (i := .i2l) (len := 1) (okD_ok (by decide +kernel)) rfl
theorem e284_498 : rf d 284 498 ls (.long v :: .long u :: s) h = rf d 284 499 ls (.int (lg_cmp u v) :: s) h := rf_pure (i := .lcmp) (len := 1) (okD_ok (by decide +kernel)) rfl
theorem e284_499 : rf d 284 499 ls (.int x :: s) h = if x = 0 then rf d 284 504 ls s h else rf d 284 502 ls s h := g_if (c := .eq) (off := 5) _ (by decide +kernel) rfl cmp_d
theorem e284_502 : rf d 284 502 ls s h = rf d 284 503 ls (.int 0 :: s) h := rf_pure (i := .iconst (0)) (len := 1) (okD_ok (by decide +kernel)) rfl
theorem e284_503 (hx : x = 0 ∨ x = 1) : rf d 284 503 ls [.int x] h = some (.inl (some (.int x)), h) := g_rz (by decide +kernel) rt284 hx
theorem e284_504 : rf d 284 504 ls s h = rf d 284 2520 ls s h := rf_goto ⟨okD_ok (i := .goto (2016)) (len := 3) (by decide +kernel), rfl⟩
theorem e284_507 : rf d 284 507 [l0, some (.ref a), l2, l3, l4, l5, l6] s h = rf d 284 508 [l0, some (.ref a), l2, l3, l4, l5, l6] (.ref a :: s) h := rf_pure (i := .aload_n 1) (len := 1) (okD_ok (by decide +kernel)) rfl
theorem e284_508 : rf d 284 508 [some (.ref a), l1, l2, l3, l4, l5, l6] s h = rf d 284 509 [some (.ref a), l1, l2, l3, l4, l5, l6] (.ref a :: s) h := rf_pure (i := .aload_n 0) (len := 1) (okD_ok (by decide +kernel)) rfl
theorem e284_509 : rf d 284 509 [l0, l1, l2, l3, some (.int x), l5, l6] s h = rf d 284 511 [l0, l1, l2, l3, some (.int x), l5, l6] (.int x :: s) h := rf_pure (i := .iload 4) (len := 2) (okD_ok (by decide +kernel)) rfl
theorem e284_511 : rf d 284 511 ls s h = rf d 284 512 ls (.int 1 :: s) h := rf_pure (i := .iconst (1)) (len := 1) (okD_ok (by decide +kernel)) rfl
theorem e284_512 : rf d 284 512 ls (.int y :: .int x :: s) h = rf d 284 513 ls (.int (x + y) :: s) h := rf_pure (i := .iadd) (len := 1) (okD_ok (by decide +kernel)) rfl
theorem e284_513 (q : inb j n) : rf d 284 513 ls (.int j :: .ref 0 :: s) (SH n, I, L, R, nc, ns, nx) = rf d 284 514 ls (.int (I 0 j.toNatClampNeg) :: s) (SH n, I, L, R, nc, ns, nx) := g_sal (by decide +kernel) q
theorem e284_514 : rf d 284 514 [some (.ref a), l1, l2, l3, l4, l5, l6] s h = rf d 284 515 [some (.ref a), l1, l2, l3, l4, l5, l6] (.ref a :: s) h := rf_pure (i := .aload_n 0) (len := 1) (okD_ok (by decide +kernel)) rfl
theorem e284_515 : rf d 284 515 [l0, l1, l2, l3, some (.int x), l5, l6] s h = rf d 284 517 [l0, l1, l2, l3, some (.int x), l5, l6] (.int x :: s) h := rf_pure (i := .iload 4) (len := 2) (okD_ok (by decide +kernel)) rfl
theorem e284_517 : rf d 284 517 ls s h = rf d 284 518 ls (.int 2 :: s) h := rf_pure (i := .iconst (2)) (len := 1) (okD_ok (by decide +kernel)) rfl
theorem e284_518 : rf d 284 518 ls (.int y :: .int x :: s) h = rf d 284 519 ls (.int (x + y) :: s) h := rf_pure (i := .iadd) (len := 1) (okD_ok (by decide +kernel)) rfl
theorem e284_519 (q : inb j n) : rf d 284 519 ls (.int j :: .ref 0 :: s) (SH n, I, L, R, nc, ns, nx) = rf d 284 520 ls (.int (I 0 j.toNatClampNeg) :: s) (SH n, I, L, R, nc, ns, nx) := g_sal (by decide +kernel) q
theorem e284_520 : rf d 284 520 [l0, l1, l2, some (.ref a), l4, l5, l6] s h = rf d 284 521 [l0, l1, l2, some (.ref a), l4, l5, l6] (.ref a :: s) h := rf_pure (i := .aload_n 3) (len := 1) (okD_ok (by decide +kernel)) rfl
theorem e284_521 (hcat : ip_cat s ≤ 8) : rf (d + 1) 284 521 ls (.ref a3 :: .int x2 :: .int x1 :: .ref a0 :: s) h = rf_k (d + 1) 284 521 ls s (cf d 78 [.ref a0, .int x1, .int x2, .ref a3] h) := g_cs (idx := 147) [.ref a3, .int x2, .int x1, .ref a0] (by decide +kernel) ow284 ms_9_147 mt_9_147 (by decide) rfl mL78 rfl hcat
theorem e284_524 (hn : ip_nl l4 = true) : rf d 284 524 [l0, l1, l2, l3, l4, l5, l6] (.int x :: s) h = rf d 284 526 [l0, l1, l2, l3, l4, some (.int x), l6] s h := g_sti (i := .istore 5) (len := 2) (q := 4) (p := 2) (by decide +kernel) rfl rfl hn
theorem e284_526 : rf d 284 526 [l0, l1, some (.ref a), l3, l4, l5, l6] s h = rf d 284 527 [l0, l1, some (.ref a), l3, l4, l5, l6] (.ref a :: s) h := rf_pure (i := .aload_n 2) (len := 1) (okD_ok (by decide +kernel)) rfl
theorem e284_527 : rf d 284 527 [some (.ref a), l1, l2, l3, l4, l5, l6] s h = rf d 284 528 [some (.ref a), l1, l2, l3, l4, l5, l6] (.ref a :: s) h := rf_pure (i := .aload_n 0) (len := 1) (okD_ok (by decide +kernel)) rfl
theorem e284_528 : rf d 284 528 [l0, l1, l2, l3, some (.int x), l5, l6] s h = rf d 284 530 [l0, l1, l2, l3, some (.int x), l5, l6] (.int x :: s) h := rf_pure (i := .iload 4) (len := 2) (okD_ok (by decide +kernel)) rfl
theorem e284_530 : rf d 284 530 ls s h = rf d 284 531 ls (.int 1 :: s) h := rf_pure (i := .iconst (1)) (len := 1) (okD_ok (by decide +kernel)) rfl
theorem e284_531 : rf d 284 531 ls (.int y :: .int x :: s) h = rf d 284 532 ls (.int (x + y) :: s) h := rf_pure (i := .iadd) (len := 1) (okD_ok (by decide +kernel)) rfl
theorem e284_532 (q : inb j n) : rf d 284 532 ls (.int j :: .ref 0 :: s) (SH n, I, L, R, nc, ns, nx) = rf d 284 533 ls (.int (I 0 j.toNatClampNeg) :: s) (SH n, I, L, R, nc, ns, nx) := g_sal (by decide +kernel) q
theorem e284_533 : rf d 284 533 [some (.ref a), l1, l2, l3, l4, l5, l6] s h = rf d 284 534 [some (.ref a), l1, l2, l3, l4, l5, l6] (.ref a :: s) h := rf_pure (i := .aload_n 0) (len := 1) (okD_ok (by decide +kernel)) rfl
theorem e284_534 : rf d 284 534 [l0, l1, l2, l3, some (.int x), l5, l6] s h = rf d 284 536 [l0, l1, l2, l3, some (.int x), l5, l6] (.int x :: s) h := rf_pure (i := .iload 4) (len := 2) (okD_ok (by decide +kernel)) rfl
theorem e284_536 : rf d 284 536 ls s h = rf d 284 537 ls (.int 2 :: s) h := rf_pure (i := .iconst (2)) (len := 1) (okD_ok (by decide +kernel)) rfl
theorem e284_537 : rf d 284 537 ls (.int y :: .int x :: s) h = rf d 284 538 ls (.int (x + y) :: s) h := rf_pure (i := .iadd) (len := 1) (okD_ok (by decide +kernel)) rfl
theorem e284_538 (q : inb j n) : rf d 284 538 ls (.int j :: .ref 0 :: s) (SH n, I, L, R, nc, ns, nx) = rf d 284 539 ls (.int (I 0 j.toNatClampNeg) :: s) (SH n, I, L, R, nc, ns, nx) := g_sal (by decide +kernel) q
theorem e284_539 (hcat : ip_cat s ≤ 8) : rf (d + 1) 284 539 ls (.int x1 :: .int x0 :: .ref 265 :: s) (SH n, I, L, R, nc, ns, nx) = rf_k (d + 1) 284 539 ls s (cf d 222 [.ref 265, .int x0, .int x1] (SH n, I, L, R, nc, ns, nx)) := g_cv (idx := 149) (t := 8) [.int x1, .int x0] (by decide +kernel) ow284 ms_9_149 mt_9_149 cy222_8 rfl rfl mL222 rfl rfl (by decide) hcat
theorem e284_542 (hn : ip_nl l5 = true) : rf d 284 542 [l0, l1, l2, l3, l4, l5, l6] (.int x :: s) h = rf d 284 544 [l0, l1, l2, l3, l4, l5, some (.int x)] s h := g_sti (i := .istore 6) (len := 2) (q := 5) (p := 2) (by decide +kernel) rfl rfl hn
theorem e284_544 : rf d 284 544 [l0, l1, some (.ref a), l3, l4, l5, l6] s h = rf d 284 545 [l0, l1, some (.ref a), l3, l4, l5, l6] (.ref a :: s) h := rf_pure (i := .aload_n 2) (len := 1) (okD_ok (by decide +kernel)) rfl
theorem e284_545 (hcat : ip_cat s ≤ 8) : rf (d + 1) 284 545 ls (.ref 265 :: s) (SH n, I, L, R, nc, ns, nx) = rf_k (d + 1) 284 545 ls s (cf d 189 [.ref 265] (SH n, I, L, R, nc, ns, nx)) := g_cv (idx := 133) (t := 8) [] (by decide +kernel) ow284 ms_9_133 mt_9_133 cy189_8 rfl rfl mL189 rfl rfl (by decide) hcat
theorem e284_548 : rf d 284 548 [l0, l1, l2, l3, l4, some (.int x), l6] s h = rf d 284 550 [l0, l1, l2, l3, l4, some (.int x), l6] (.int x :: s) h := rf_pure (i := .iload 5) (len := 2) (okD_ok (by decide +kernel)) rfl
theorem e284_550 : rf d 284 550 ls (.int y :: .int x :: s) h = if x = y then rf d 284 555 ls s h else rf d 284 553 ls s h := g_ic (c := .eq) (off := 5) _ (by decide +kernel) rfl cmp_d
theorem e284_553 : rf d 284 553 ls s h = rf d 284 554 ls (.int 0 :: s) h := rf_pure (i := .iconst (0)) (len := 1) (okD_ok (by decide +kernel)) rfl
theorem e284_554 (hx : x = 0 ∨ x = 1) : rf d 284 554 ls [.int x] h = some (.inl (some (.int x)), h) := g_rz (by decide +kernel) rt284 hx
theorem e284_555 : rf d 284 555 [l0, l1, l2, l3, l4, some (.int x), l6] s h = rf d 284 557 [l0, l1, l2, l3, l4, some (.int x), l6] (.int x :: s) h := rf_pure (i := .iload 5) (len := 2) (okD_ok (by decide +kernel)) rfl
theorem e284_557 : rf d 284 557 ls (.int x :: s) h = if ¬ x = 0 then rf d 284 572 ls s h else rf d 284 560 ls s h := g_if (c := .ne) (off := 15) _ (by decide +kernel) rfl cmp_d
theorem e284_560 : rf d 284 560 [l0, l1, l2, some (.ref a), l4, l5, l6] s h = rf d 284 561 [l0, l1, l2, some (.ref a), l4, l5, l6] (.ref a :: s) h := rf_pure (i := .aload_n 3) (len := 1) (okD_ok (by decide +kernel)) rfl
theorem e284_561 : rf d 284 561 ls s h = rf d 284 562 ls (.int 0 :: s) h := rf_pure (i := .iconst (0)) (len := 1) (okD_ok (by decide +kernel)) rfl
theorem e284_562 (q : la n a j) : rf d 284 562 ls (.int j :: .ref a :: s) (SH n, I, L, R, nc, ns, nx) = rf d 284 563 ls (.long (L a j.toNatClampNeg) :: s) (SH n, I, L, R, nc, ns, nx) := g_lal (by decide +kernel) q
theorem e284_563 : rf d 284 563 [l0, l1, l2, l3, l4, l5, some (.int x)] s h = rf d 284 565 [l0, l1, l2, l3, l4, l5, some (.int x)] (.int x :: s) h := rf_pure (i := .iload 6) (len := 2) (okD_ok (by decide +kernel)) rfl
theorem e284_565 : rf d 284 565 ls (.int x :: s) h = rf d 284 566 ls (.long x.toInt64 :: s) h := rf_pure (i := .i2l) (len := 1) (okD_ok (by decide +kernel)) rfl
theorem e284_566 : rf d 284 566 ls (.long v :: .long u :: s) h = rf d 284 567 ls (.int (lg_cmp u v) :: s) h := rf_pure (i := .lcmp) (len := 1) (okD_ok (by decide +kernel)) rfl
theorem e284_567 : rf d 284 567 ls (.int x :: s) h = if x = 0 then rf d 284 572 ls s h else rf d 284 570 ls s h := g_if (c := .eq) (off := 5) _ (by decide +kernel) rfl cmp_d
theorem e284_570 : rf d 284 570 ls s h = rf d 284 571 ls (.int 0 :: s) h := rf_pure (i := .iconst (0)) (len := 1) (okD_ok (by decide +kernel)) rfl
theorem e284_571 (hx : x = 0 ∨ x = 1) : rf d 284 571 ls [.int x] h = some (.inl (some (.int x)), h) := g_rz (by decide +kernel) rt284 hx
theorem e284_572 : rf d 284 572 ls s h = rf d 284 2520 ls s h := rf_goto ⟨okD_ok (i := .goto (1948)) (len := 3) (by decide +kernel), rfl⟩
theorem e284_575 : rf d 284 575 [l0, some (.ref a), l2, l3, l4, l5, l6] s h = rf d 284 576 [l0, some (.ref a), l2, l3, l4, l5, l6] (.ref a :: s) h := rf_pure (i := .aload_n 1) (len := 1) (okD_ok (by decide +kernel)) rfl
theorem e284_576 : rf d 284 576 [some (.ref a), l1, l2, l3, l4, l5, l6] s h = rf d 284 577 [some (.ref a), l1, l2, l3, l4, l5, l6] (.ref a :: s) h := rf_pure (i := .aload_n 0) (len := 1) (okD_ok (by decide +kernel)) rfl
theorem e284_577 : rf d 284 577 [l0, l1, l2, l3, some (.int x), l5, l6] s h = rf d 284 579 [l0, l1, l2, l3, some (.int x), l5, l6] (.int x :: s) h := rf_pure (i := .iload 4) (len := 2) (okD_ok (by decide +kernel)) rfl
theorem e284_579 : rf d 284 579 ls s h = rf d 284 580 ls (.int 1 :: s) h := rf_pure (i := .iconst (1)) (len := 1) (okD_ok (by decide +kernel)) rfl
theorem e284_580 : rf d 284 580 ls (.int y :: .int x :: s) h = rf d 284 581 ls (.int (x + y) :: s) h := rf_pure (i := .iadd) (len := 1) (okD_ok (by decide +kernel)) rfl
theorem e284_581 (q : inb j n) : rf d 284 581 ls (.int j :: .ref 0 :: s) (SH n, I, L, R, nc, ns, nx) = rf d 284 582 ls (.int (I 0 j.toNatClampNeg) :: s) (SH n, I, L, R, nc, ns, nx) := g_sal (by decide +kernel) q
theorem e284_582 : rf d 284 582 [some (.ref a), l1, l2, l3, l4, l5, l6] s h = rf d 284 583 [some (.ref a), l1, l2, l3, l4, l5, l6] (.ref a :: s) h := rf_pure (i := .aload_n 0) (len := 1) (okD_ok (by decide +kernel)) rfl
theorem e284_583 : rf d 284 583 [l0, l1, l2, l3, some (.int x), l5, l6] s h = rf d 284 585 [l0, l1, l2, l3, some (.int x), l5, l6] (.int x :: s) h := rf_pure (i := .iload 4) (len := 2) (okD_ok (by decide +kernel)) rfl
theorem e284_585 : rf d 284 585 ls s h = rf d 284 586 ls (.int 2 :: s) h := rf_pure (i := .iconst (2)) (len := 1) (okD_ok (by decide +kernel)) rfl
theorem e284_586 : rf d 284 586 ls (.int y :: .int x :: s) h = rf d 284 587 ls (.int (x + y) :: s) h := rf_pure (i := .iadd) (len := 1) (okD_ok (by decide +kernel)) rfl
theorem e284_587 (q : inb j n) : rf d 284 587 ls (.int j :: .ref 0 :: s) (SH n, I, L, R, nc, ns, nx) = rf d 284 588 ls (.int (I 0 j.toNatClampNeg) :: s) (SH n, I, L, R, nc, ns, nx) := g_sal (by decide +kernel) q
theorem e284_588 : rf d 284 588 [some (.ref a), l1, l2, l3, l4, l5, l6] s h = rf d 284 589 [some (.ref a), l1, l2, l3, l4, l5, l6] (.ref a :: s) h := rf_pure (i := .aload_n 0) (len := 1) (okD_ok (by decide +kernel)) rfl
theorem e284_589 : rf d 284 589 [l0, l1, l2, l3, some (.int x), l5, l6] s h = rf d 284 591 [l0, l1, l2, l3, some (.int x), l5, l6] (.int x :: s) h := rf_pure (i := .iload 4) (len := 2) (okD_ok (by decide +kernel)) rfl
theorem e284_591 : rf d 284 591 ls s h = rf d 284 592 ls (.int 3 :: s) h := rf_pure (i := .iconst (3)) (len := 1) (okD_ok (by decide +kernel)) rfl
theorem e284_592 : rf d 284 592 ls (.int y :: .int x :: s) h = rf d 284 593 ls (.int (x + y) :: s) h := rf_pure (i := .iadd) (len := 1) (okD_ok (by decide +kernel)) rfl
theorem e284_593 (q : inb j n) : rf d 284 593 ls (.int j :: .ref 0 :: s) (SH n, I, L, R, nc, ns, nx) = rf d 284 594 ls (.int (I 0 j.toNatClampNeg) :: s) (SH n, I, L, R, nc, ns, nx) := g_sal (by decide +kernel) q
theorem e284_594 : rf d 284 594 [l0, l1, l2, some (.ref a), l4, l5, l6] s h = rf d 284 595 [l0, l1, l2, some (.ref a), l4, l5, l6] (.ref a :: s) h := rf_pure (i := .aload_n 3) (len := 1) (okD_ok (by decide +kernel)) rfl
theorem e284_595 (hcat : ip_cat s ≤ 8) : rf (d + 1) 284 595 ls (.ref a4 :: .int x3 :: .int x2 :: .int x1 :: .ref a0 :: s) h = rf_k (d + 1) 284 595 ls s (cf d 82 [.ref a0, .int x1, .int x2, .int x3, .ref a4] h) := g_cs (idx := 150) [.ref a4, .int x3, .int x2, .int x1, .ref a0] (by decide +kernel) ow284 ms_9_150 mt_9_150 (by decide) rfl mL82 rfl hcat
theorem e284_598 (hn : ip_nl l4 = true) : rf d 284 598 [l0, l1, l2, l3, l4, l5, l6] (.int x :: s) h = rf d 284 600 [l0, l1, l2, l3, l4, some (.int x), l6] s h := g_sti (i := .istore 5) (len := 2) (q := 4) (p := 2) (by decide +kernel) rfl rfl hn
theorem e284_600 : rf d 284 600 [l0, l1, some (.ref a), l3, l4, l5, l6] s h = rf d 284 601 [l0, l1, some (.ref a), l3, l4, l5, l6] (.ref a :: s) h := rf_pure (i := .aload_n 2) (len := 1) (okD_ok (by decide +kernel)) rfl
theorem e284_601 : rf d 284 601 [some (.ref a), l1, l2, l3, l4, l5, l6] s h = rf d 284 602 [some (.ref a), l1, l2, l3, l4, l5, l6] (.ref a :: s) h := rf_pure (i := .aload_n 0) (len := 1) (okD_ok (by decide +kernel)) rfl
theorem e284_602 : rf d 284 602 [l0, l1, l2, l3, some (.int x), l5, l6] s h = rf d 284 604 [l0, l1, l2, l3, some (.int x), l5, l6] (.int x :: s) h := rf_pure (i := .iload 4) (len := 2) (okD_ok (by decide +kernel)) rfl
theorem e284_604 : rf d 284 604 ls s h = rf d 284 605 ls (.int 1 :: s) h := rf_pure (i := .iconst (1)) (len := 1) (okD_ok (by decide +kernel)) rfl
theorem e284_605 : rf d 284 605 ls (.int y :: .int x :: s) h = rf d 284 606 ls (.int (x + y) :: s) h := rf_pure (i := .iadd) (len := 1) (okD_ok (by decide +kernel)) rfl
theorem e284_606 (q : inb j n) : rf d 284 606 ls (.int j :: .ref 0 :: s) (SH n, I, L, R, nc, ns, nx) = rf d 284 607 ls (.int (I 0 j.toNatClampNeg) :: s) (SH n, I, L, R, nc, ns, nx) := g_sal (by decide +kernel) q
theorem e284_607 : rf d 284 607 [some (.ref a), l1, l2, l3, l4, l5, l6] s h = rf d 284 608 [some (.ref a), l1, l2, l3, l4, l5, l6] (.ref a :: s) h := rf_pure (i := .aload_n 0) (len := 1) (okD_ok (by decide +kernel)) rfl
theorem e284_608 : rf d 284 608 [l0, l1, l2, l3, some (.int x), l5, l6] s h = rf d 284 610 [l0, l1, l2, l3, some (.int x), l5, l6] (.int x :: s) h := rf_pure (i := .iload 4) (len := 2) (okD_ok (by decide +kernel)) rfl
theorem e284_610 : rf d 284 610 ls s h = rf d 284 611 ls (.int 2 :: s) h := rf_pure (i := .iconst (2)) (len := 1) (okD_ok (by decide +kernel)) rfl
theorem e284_611 : rf d 284 611 ls (.int y :: .int x :: s) h = rf d 284 612 ls (.int (x + y) :: s) h := rf_pure (i := .iadd) (len := 1) (okD_ok (by decide +kernel)) rfl
theorem e284_612 (q : inb j n) : rf d 284 612 ls (.int j :: .ref 0 :: s) (SH n, I, L, R, nc, ns, nx) = rf d 284 613 ls (.int (I 0 j.toNatClampNeg) :: s) (SH n, I, L, R, nc, ns, nx) := g_sal (by decide +kernel) q
theorem e284_613 : rf d 284 613 [some (.ref a), l1, l2, l3, l4, l5, l6] s h = rf d 284 614 [some (.ref a), l1, l2, l3, l4, l5, l6] (.ref a :: s) h := rf_pure (i := .aload_n 0) (len := 1) (okD_ok (by decide +kernel)) rfl
theorem e284_614 : rf d 284 614 [l0, l1, l2, l3, some (.int x), l5, l6] s h = rf d 284 616 [l0, l1, l2, l3, some (.int x), l5, l6] (.int x :: s) h := rf_pure (i := .iload 4) (len := 2) (okD_ok (by decide +kernel)) rfl
theorem e284_616 : rf d 284 616 ls s h = rf d 284 617 ls (.int 3 :: s) h := rf_pure (i := .iconst (3)) (len := 1) (okD_ok (by decide +kernel)) rfl
theorem e284_617 : rf d 284 617 ls (.int y :: .int x :: s) h = rf d 284 618 ls (.int (x + y) :: s) h := rf_pure (i := .iadd) (len := 1) (okD_ok (by decide +kernel)) rfl
theorem e284_618 (q : inb j n) : rf d 284 618 ls (.int j :: .ref 0 :: s) (SH n, I, L, R, nc, ns, nx) = rf d 284 619 ls (.int (I 0 j.toNatClampNeg) :: s) (SH n, I, L, R, nc, ns, nx) := g_sal (by decide +kernel) q
theorem e284_619 (hcat : ip_cat s ≤ 8) : rf (d + 1) 284 619 ls (.int x2 :: .int x1 :: .int x0 :: .ref 265 :: s) (SH n, I, L, R, nc, ns, nx) = rf_k (d + 1) 284 619 ls s (cf d 223 [.ref 265, .int x0, .int x1, .int x2] (SH n, I, L, R, nc, ns, nx)) := g_cv (idx := 153) (t := 8) [.int x2, .int x1, .int x0] (by decide +kernel) ow284 ms_9_153 mt_9_153 cy223_8 rfl rfl mL223 rfl rfl (by decide) hcat
theorem e284_622 (hn : ip_nl l5 = true) : rf d 284 622 [l0, l1, l2, l3, l4, l5, l6] (.int x :: s) h = rf d 284 624 [l0, l1, l2, l3, l4, l5, some (.int x)] s h := g_sti (i := .istore 6) (len := 2) (q := 5) (p := 2) (by decide +kernel) rfl rfl hn
theorem e284_624 : rf d 284 624 [l0, l1, some (.ref a), l3, l4, l5, l6] s h = rf d 284 625 [l0, l1, some (.ref a), l3, l4, l5, l6] (.ref a :: s) h := rf_pure (i := .aload_n 2) (len := 1) (okD_ok (by decide +kernel)) rfl
theorem e284_625 (hcat : ip_cat s ≤ 8) : rf (d + 1) 284 625 ls (.ref 265 :: s) (SH n, I, L, R, nc, ns, nx) = rf_k (d + 1) 284 625 ls s (cf d 189 [.ref 265] (SH n, I, L, R, nc, ns, nx)) := g_cv (idx := 133) (t := 8) [] (by decide +kernel) ow284 ms_9_133 mt_9_133 cy189_8 rfl rfl mL189 rfl rfl (by decide) hcat
theorem e284_628 : rf d 284 628 [l0, l1, l2, l3, l4, some (.int x), l6] s h = rf d 284 630 [l0, l1, l2, l3, l4, some (.int x), l6] (.int x :: s) h := rf_pure (i := .iload 5) (len := 2) (okD_ok (by decide +kernel)) rfl
theorem e284_630 : rf d 284 630 ls (.int y :: .int x :: s) h = if x = y then rf d 284 635 ls s h else rf d 284 633 ls s h := g_ic (c := .eq) (off := 5) _ (by decide +kernel) rfl cmp_d
theorem e284_633 : rf d 284 633 ls s h = rf d 284 634 ls (.int 0 :: s) h := rf_pure (i := .iconst (0)) (len := 1) (okD_ok (by decide +kernel)) rfl
theorem e284_634 (hx : x = 0 ∨ x = 1) : rf d 284 634 ls [.int x] h = some (.inl (some (.int x)), h) := g_rz (by decide +kernel) rt284 hx
theorem e284_635 : rf d 284 635 [l0, l1, l2, l3, l4, some (.int x), l6] s h = rf d 284 637 [l0, l1, l2, l3, l4, some (.int x), l6] (.int x :: s) h := rf_pure (i := .iload 5) (len := 2) (okD_ok (by decide +kernel)) rfl
theorem e284_637 : rf d 284 637 ls (.int x :: s) h = if ¬ x = 0 then rf d 284 652 ls s h else rf d 284 640 ls s h := g_if (c := .ne) (off := 15) _ (by decide +kernel) rfl cmp_d
theorem e284_640 : rf d 284 640 [l0, l1, l2, some (.ref a), l4, l5, l6] s h = rf d 284 641 [l0, l1, l2, some (.ref a), l4, l5, l6] (.ref a :: s) h := rf_pure (i := .aload_n 3) (len := 1) (okD_ok (by decide +kernel)) rfl
theorem e284_641 : rf d 284 641 ls s h = rf d 284 642 ls (.int 0 :: s) h := rf_pure (i := .iconst (0)) (len := 1) (okD_ok (by decide +kernel)) rfl
theorem e284_642 (q : la n a j) : rf d 284 642 ls (.int j :: .ref a :: s) (SH n, I, L, R, nc, ns, nx) = rf d 284 643 ls (.long (L a j.toNatClampNeg) :: s) (SH n, I, L, R, nc, ns, nx) := g_lal (by decide +kernel) q
theorem e284_643 : rf d 284 643 [l0, l1, l2, l3, l4, l5, some (.int x)] s h = rf d 284 645 [l0, l1, l2, l3, l4, l5, some (.int x)] (.int x :: s) h := rf_pure (i := .iload 6) (len := 2) (okD_ok (by decide +kernel)) rfl
theorem e284_645 : rf d 284 645 ls (.int x :: s) h = rf d 284 646 ls (.long x.toInt64 :: s) h := rf_pure (i := .i2l) (len := 1) (okD_ok (by decide +kernel)) rfl
theorem e284_646 : rf d 284 646 ls (.long v :: .long u :: s) h = rf d 284 647 ls (.int (lg_cmp u v) :: s) h := rf_pure (i := .lcmp) (len := 1) (okD_ok (by decide +kernel)) rfl
theorem e284_647 : rf d 284 647 ls (.int x :: s) h = if x = 0 then rf d 284 652 ls s h else rf d 284 650 ls s h := g_if (c := .eq) (off := 5) _ (by decide +kernel) rfl cmp_d
theorem e284_650 : rf d 284 650 ls s h = rf d 284 651 ls (.int 0 :: s) h := rf_pure (i := .iconst (0)) (len := 1) (okD_ok (by decide +kernel)) rfl
theorem e284_651 (hx : x = 0 ∨ x = 1) : rf d 284 651 ls [.int x] h = some (.inl (some (.int x)), h) := g_rz (by decide +kernel) rt284 hx
theorem e284_652 : rf d 284 652 ls s h = rf d 284 2520 ls s h := rf_goto ⟨okD_ok (i := .goto (1868)) (len := 3) (by decide +kernel), rfl⟩
theorem e284_655 : rf d 284 655 [l0, some (.ref a), l2, l3, l4, l5, l6] s h = rf d 284 656 [l0, some (.ref a), l2, l3, l4, l5, l6] (.ref a :: s) h := rf_pure (i := .aload_n 1) (len := 1) (okD_ok (by decide +kernel)) rfl
theorem e284_656 : rf d 284 656 [some (.ref a), l1, l2, l3, l4, l5, l6] s h = rf d 284 657 [some (.ref a), l1, l2, l3, l4, l5, l6] (.ref a :: s) h := rf_pure (i := .aload_n 0) (len := 1) (okD_ok (by decide +kernel)) rfl
theorem e284_657 : rf d 284 657 [l0, l1, l2, l3, some (.int x), l5, l6] s h = rf d 284 659 [l0, l1, l2, l3, some (.int x), l5, l6] (.int x :: s) h := rf_pure (i := .iload 4) (len := 2) (okD_ok (by decide +kernel)) rfl
theorem e284_659 : rf d 284 659 ls s h = rf d 284 660 ls (.int 1 :: s) h := rf_pure (i := .iconst (1)) (len := 1) (okD_ok (by decide +kernel)) rfl
theorem e284_660 : rf d 284 660 ls (.int y :: .int x :: s) h = rf d 284 661 ls (.int (x + y) :: s) h := rf_pure (i := .iadd) (len := 1) (okD_ok (by decide +kernel)) rfl
theorem e284_661 (q : inb j n) : rf d 284 661 ls (.int j :: .ref 0 :: s) (SH n, I, L, R, nc, ns, nx) = rf d 284 662 ls (.int (I 0 j.toNatClampNeg) :: s) (SH n, I, L, R, nc, ns, nx) := g_sal (by decide +kernel) q
theorem e284_662 : rf d 284 662 [some (.ref a), l1, l2, l3, l4, l5, l6] s h = rf d 284 663 [some (.ref a), l1, l2, l3, l4, l5, l6] (.ref a :: s) h := rf_pure (i := .aload_n 0) (len := 1) (okD_ok (by decide +kernel)) rfl
theorem e284_663 : rf d 284 663 [l0, l1, l2, l3, some (.int x), l5, l6] s h = rf d 284 665 [l0, l1, l2, l3, some (.int x), l5, l6] (.int x :: s) h := rf_pure (i := .iload 4) (len := 2) (okD_ok (by decide +kernel)) rfl
theorem e284_665 : rf d 284 665 ls s h = rf d 284 666 ls (.int 2 :: s) h := rf_pure (i := .iconst (2)) (len := 1) (okD_ok (by decide +kernel)) rfl
theorem e284_666 : rf d 284 666 ls (.int y :: .int x :: s) h = rf d 284 667 ls (.int (x + y) :: s) h := rf_pure (i := .iadd) (len := 1) (okD_ok (by decide +kernel)) rfl
theorem e284_667 (q : inb j n) : rf d 284 667 ls (.int j :: .ref 0 :: s) (SH n, I, L, R, nc, ns, nx) = rf d 284 668 ls (.int (I 0 j.toNatClampNeg) :: s) (SH n, I, L, R, nc, ns, nx) := g_sal (by decide +kernel) q
theorem e284_668 : rf d 284 668 [some (.ref a), l1, l2, l3, l4, l5, l6] s h = rf d 284 669 [some (.ref a), l1, l2, l3, l4, l5, l6] (.ref a :: s) h := rf_pure (i := .aload_n 0) (len := 1) (okD_ok (by decide +kernel)) rfl
theorem e284_669 : rf d 284 669 [l0, l1, l2, l3, some (.int x), l5, l6] s h = rf d 284 671 [l0, l1, l2, l3, some (.int x), l5, l6] (.int x :: s) h := rf_pure (i := .iload 4) (len := 2) (okD_ok (by decide +kernel)) rfl
theorem e284_671 : rf d 284 671 ls s h = rf d 284 672 ls (.int 3 :: s) h := rf_pure (i := .iconst (3)) (len := 1) (okD_ok (by decide +kernel)) rfl
theorem e284_672 : rf d 284 672 ls (.int y :: .int x :: s) h = rf d 284 673 ls (.int (x + y) :: s) h := rf_pure (i := .iadd) (len := 1) (okD_ok (by decide +kernel)) rfl
theorem e284_673 (q : inb j n) : rf d 284 673 ls (.int j :: .ref 0 :: s) (SH n, I, L, R, nc, ns, nx) = rf d 284 674 ls (.int (I 0 j.toNatClampNeg) :: s) (SH n, I, L, R, nc, ns, nx) := g_sal (by decide +kernel) q
theorem e284_674 : rf d 284 674 [l0, l1, l2, some (.ref a), l4, l5, l6] s h = rf d 284 675 [l0, l1, l2, some (.ref a), l4, l5, l6] (.ref a :: s) h := rf_pure (i := .aload_n 3) (len := 1) (okD_ok (by decide +kernel)) rfl
theorem e284_675 (hcat : ip_cat s ≤ 8) : rf (d + 1) 284 675 ls (.ref a4 :: .int x3 :: .int x2 :: .int x1 :: .ref a0 :: s) h = rf_k (d + 1) 284 675 ls s (cf d 84 [.ref a0, .int x1, .int x2, .int x3, .ref a4] h) := g_cs (idx := 154) [.ref a4, .int x3, .int x2, .int x1, .ref a0] (by decide +kernel) ow284 ms_9_154 mt_9_154 (by decide) rfl mL84 rfl hcat
theorem e284_678 (hn : ip_nl l4 = true) : rf d 284 678 [l0, l1, l2, l3, l4, l5, l6] (.int x :: s) h = rf d 284 680 [l0, l1, l2, l3, l4, some (.int x), l6] s h := g_sti (i := .istore 5) (len := 2) (q := 4) (p := 2) (by decide +kernel) rfl rfl hn
theorem e284_680 : rf d 284 680 [l0, l1, some (.ref a), l3, l4, l5, l6] s h = rf d 284 681 [l0, l1, some (.ref a), l3, l4, l5, l6] (.ref a :: s) h := rf_pure (i := .aload_n 2) (len := 1) (okD_ok (by decide +kernel)) rfl
theorem e284_681 : rf d 284 681 [some (.ref a), l1, l2, l3, l4, l5, l6] s h = rf d 284 682 [some (.ref a), l1, l2, l3, l4, l5, l6] (.ref a :: s) h := rf_pure (i := .aload_n 0) (len := 1) (okD_ok (by decide +kernel)) rfl
theorem e284_682 : rf d 284 682 [l0, l1, l2, l3, some (.int x), l5, l6] s h = rf d 284 684 [l0, l1, l2, l3, some (.int x), l5, l6] (.int x :: s) h := rf_pure (i := .iload 4) (len := 2) (okD_ok (by decide +kernel)) rfl
theorem e284_684 : rf d 284 684 ls s h = rf d 284 685 ls (.int 1 :: s) h := rf_pure (i := .iconst (1)) (len := 1) (okD_ok (by decide +kernel)) rfl
theorem e284_685 : rf d 284 685 ls (.int y :: .int x :: s) h = rf d 284 686 ls (.int (x + y) :: s) h := rf_pure (i := .iadd) (len := 1) (okD_ok (by decide +kernel)) rfl
theorem e284_686 (q : inb j n) : rf d 284 686 ls (.int j :: .ref 0 :: s) (SH n, I, L, R, nc, ns, nx) = rf d 284 687 ls (.int (I 0 j.toNatClampNeg) :: s) (SH n, I, L, R, nc, ns, nx) := g_sal (by decide +kernel) q
theorem e284_687 : rf d 284 687 [some (.ref a), l1, l2, l3, l4, l5, l6] s h = rf d 284 688 [some (.ref a), l1, l2, l3, l4, l5, l6] (.ref a :: s) h := rf_pure (i := .aload_n 0) (len := 1) (okD_ok (by decide +kernel)) rfl
theorem e284_688 : rf d 284 688 [l0, l1, l2, l3, some (.int x), l5, l6] s h = rf d 284 690 [l0, l1, l2, l3, some (.int x), l5, l6] (.int x :: s) h := rf_pure (i := .iload 4) (len := 2) (okD_ok (by decide +kernel)) rfl
theorem e284_690 : rf d 284 690 ls s h = rf d 284 691 ls (.int 2 :: s) h := rf_pure (i := .iconst (2)) (len := 1) (okD_ok (by decide +kernel)) rfl
theorem e284_691 : rf d 284 691 ls (.int y :: .int x :: s) h = rf d 284 692 ls (.int (x + y) :: s) h := rf_pure (i := .iadd) (len := 1) (okD_ok (by decide +kernel)) rfl
theorem e284_692 (q : inb j n) : rf d 284 692 ls (.int j :: .ref 0 :: s) (SH n, I, L, R, nc, ns, nx) = rf d 284 693 ls (.int (I 0 j.toNatClampNeg) :: s) (SH n, I, L, R, nc, ns, nx) := g_sal (by decide +kernel) q
theorem e284_693 : rf d 284 693 [some (.ref a), l1, l2, l3, l4, l5, l6] s h = rf d 284 694 [some (.ref a), l1, l2, l3, l4, l5, l6] (.ref a :: s) h := rf_pure (i := .aload_n 0) (len := 1) (okD_ok (by decide +kernel)) rfl
theorem e284_694 : rf d 284 694 [l0, l1, l2, l3, some (.int x), l5, l6] s h = rf d 284 696 [l0, l1, l2, l3, some (.int x), l5, l6] (.int x :: s) h := rf_pure (i := .iload 4) (len := 2) (okD_ok (by decide +kernel)) rfl
theorem e284_696 : rf d 284 696 ls s h = rf d 284 697 ls (.int 3 :: s) h := rf_pure (i := .iconst (3)) (len := 1) (okD_ok (by decide +kernel)) rfl
theorem e284_697 : rf d 284 697 ls (.int y :: .int x :: s) h = rf d 284 698 ls (.int (x + y) :: s) h := rf_pure (i := .iadd) (len := 1) (okD_ok (by decide +kernel)) rfl
theorem e284_698 (q : inb j n) : rf d 284 698 ls (.int j :: .ref 0 :: s) (SH n, I, L, R, nc, ns, nx) = rf d 284 699 ls (.int (I 0 j.toNatClampNeg) :: s) (SH n, I, L, R, nc, ns, nx) := g_sal (by decide +kernel) q
theorem e284_699 (hcat : ip_cat s ≤ 8) : rf (d + 1) 284 699 ls (.int x2 :: .int x1 :: .int x0 :: .ref 265 :: s) (SH n, I, L, R, nc, ns, nx) = rf_k (d + 1) 284 699 ls s (cf d 224 [.ref 265, .int x0, .int x1, .int x2] (SH n, I, L, R, nc, ns, nx)) := g_cv (idx := 156) (t := 8) [.int x2, .int x1, .int x0] (by decide +kernel) ow284 ms_9_156 mt_9_156 cy224_8 rfl rfl mL224 rfl rfl (by decide) hcat
theorem e284_702 (hn : ip_nl l5 = true) : rf d 284 702 [l0, l1, l2, l3, l4, l5, l6] (.int x :: s) h = rf d 284 704 [l0, l1, l2, l3, l4, l5, some (.int x)] s h := g_sti (i := .istore 6) (len := 2) (q := 5) (p := 2) (by decide +kernel) rfl rfl hn
theorem e284_704 : rf d 284 704 [l0, l1, some (.ref a), l3, l4, l5, l6] s h = rf d 284 705 [l0, l1, some (.ref a), l3, l4, l5, l6] (.ref a :: s) h := rf_pure (i := .aload_n 2) (len := 1) (okD_ok (by decide +kernel)) rfl
theorem e284_705 (hcat : ip_cat s ≤ 8) : rf (d + 1) 284 705 ls (.ref 265 :: s) (SH n, I, L, R, nc, ns, nx) = rf_k (d + 1) 284 705 ls s (cf d 189 [.ref 265] (SH n, I, L, R, nc, ns, nx)) := g_cv (idx := 133) (t := 8) [] (by decide +kernel) ow284 ms_9_133 mt_9_133 cy189_8 rfl rfl mL189 rfl rfl (by decide) hcat
theorem e284_708 : rf d 284 708 [l0, l1, l2, l3, l4, some (.int x), l6] s h = rf d 284 710 [l0, l1, l2, l3, l4, some (.int x), l6] (.int x :: s) h := rf_pure (i := .iload 5) (len := 2) (okD_ok (by decide +kernel)) rfl
theorem e284_710 : rf d 284 710 ls (.int y :: .int x :: s) h = if x = y then rf d 284 715 ls s h else rf d 284 713 ls s h := g_ic (c := .eq) (off := 5) _ (by decide +kernel) rfl cmp_d
theorem e284_713 : rf d 284 713 ls s h = rf d 284 714 ls (.int 0 :: s) h := rf_pure (i := .iconst (0)) (len := 1) (okD_ok (by decide +kernel)) rfl
theorem e284_714 (hx : x = 0 ∨ x = 1) : rf d 284 714 ls [.int x] h = some (.inl (some (.int x)), h) := g_rz (by decide +kernel) rt284 hx
theorem e284_715 : rf d 284 715 [l0, l1, l2, l3, l4, some (.int x), l6] s h = rf d 284 717 [l0, l1, l2, l3, l4, some (.int x), l6] (.int x :: s) h := rf_pure (i := .iload 5) (len := 2) (okD_ok (by decide +kernel)) rfl
theorem e284_717 : rf d 284 717 ls (.int x :: s) h = if ¬ x = 0 then rf d 284 732 ls s h else rf d 284 720 ls s h := g_if (c := .ne) (off := 15) _ (by decide +kernel) rfl cmp_d
theorem e284_720 : rf d 284 720 [l0, l1, l2, some (.ref a), l4, l5, l6] s h = rf d 284 721 [l0, l1, l2, some (.ref a), l4, l5, l6] (.ref a :: s) h := rf_pure (i := .aload_n 3) (len := 1) (okD_ok (by decide +kernel)) rfl
theorem e284_721 : rf d 284 721 ls s h = rf d 284 722 ls (.int 0 :: s) h := rf_pure (i := .iconst (0)) (len := 1) (okD_ok (by decide +kernel)) rfl
theorem e284_722 (q : la n a j) : rf d 284 722 ls (.int j :: .ref a :: s) (SH n, I, L, R, nc, ns, nx) = rf d 284 723 ls (.long (L a j.toNatClampNeg) :: s) (SH n, I, L, R, nc, ns, nx) := g_lal (by decide +kernel) q
theorem e284_723 : rf d 284 723 [l0, l1, l2, l3, l4, l5, some (.int x)] s h = rf d 284 725 [l0, l1, l2, l3, l4, l5, some (.int x)] (.int x :: s) h := rf_pure (i := .iload 6) (len := 2) (okD_ok (by decide +kernel)) rfl
theorem e284_725 : rf d 284 725 ls (.int x :: s) h = rf d 284 726 ls (.long x.toInt64 :: s) h := rf_pure (i := .i2l) (len := 1) (okD_ok (by decide +kernel)) rfl
theorem e284_726 : rf d 284 726 ls (.long v :: .long u :: s) h = rf d 284 727 ls (.int (lg_cmp u v) :: s) h := rf_pure (i := .lcmp) (len := 1) (okD_ok (by decide +kernel)) rfl
theorem e284_727 : rf d 284 727 ls (.int x :: s) h = if x = 0 then rf d 284 732 ls s h else rf d 284 730 ls s h := g_if (c := .eq) (off := 5) _ (by decide +kernel) rfl cmp_d
theorem e284_730 : rf d 284 730 ls s h = rf d 284 731 ls (.int 0 :: s) h := rf_pure (i := .iconst (0)) (len := 1) (okD_ok (by decide +kernel)) rfl
theorem e284_731 (hx : x = 0 ∨ x = 1) : rf d 284 731 ls [.int x] h = some (.inl (some (.int x)), h) := g_rz (by decide +kernel) rt284 hx
theorem e284_732 : rf d 284 732 ls s h = rf d 284 2520 ls s h := rf_goto ⟨okD_ok (i := .goto (1788)) (len := 3) (by decide +kernel), rfl⟩
theorem e284_735 : rf d 284 735 [l0, some (.ref a), l2, l3, l4, l5, l6] s h = rf d 284 736 [l0, some (.ref a), l2, l3, l4, l5, l6] (.ref a :: s) h := rf_pure (i := .aload_n 1) (len := 1) (okD_ok (by decide +kernel)) rfl
theorem e284_736 : rf d 284 736 [some (.ref a), l1, l2, l3, l4, l5, l6] s h = rf d 284 737 [some (.ref a), l1, l2, l3, l4, l5, l6] (.ref a :: s) h := rf_pure (i := .aload_n 0) (len := 1) (okD_ok (by decide +kernel)) rfl
theorem e284_737 : rf d 284 737 [l0, l1, l2, l3, some (.int x), l5, l6] s h = rf d 284 739 [l0, l1, l2, l3, some (.int x), l5, l6] (.int x :: s) h := rf_pure (i := .iload 4) (len := 2) (okD_ok (by decide +kernel)) rfl
theorem e284_739 : rf d 284 739 ls s h = rf d 284 740 ls (.int 1 :: s) h := rf_pure (i := .iconst (1)) (len := 1) (okD_ok (by decide +kernel)) rfl
theorem e284_740 : rf d 284 740 ls (.int y :: .int x :: s) h = rf d 284 741 ls (.int (x + y) :: s) h := rf_pure (i := .iadd) (len := 1) (okD_ok (by decide +kernel)) rfl
theorem e284_741 (q : inb j n) : rf d 284 741 ls (.int j :: .ref 0 :: s) (SH n, I, L, R, nc, ns, nx) = rf d 284 742 ls (.int (I 0 j.toNatClampNeg) :: s) (SH n, I, L, R, nc, ns, nx) := g_sal (by decide +kernel) q
theorem e284_742 : rf d 284 742 [some (.ref a), l1, l2, l3, l4, l5, l6] s h = rf d 284 743 [some (.ref a), l1, l2, l3, l4, l5, l6] (.ref a :: s) h := rf_pure (i := .aload_n 0) (len := 1) (okD_ok (by decide +kernel)) rfl
theorem e284_743 : rf d 284 743 [l0, l1, l2, l3, some (.int x), l5, l6] s h = rf d 284 745 [l0, l1, l2, l3, some (.int x), l5, l6] (.int x :: s) h := rf_pure (i := .iload 4) (len := 2) (okD_ok (by decide +kernel)) rfl
theorem e284_745 : rf d 284 745 ls s h = rf d 284 746 ls (.int 2 :: s) h := rf_pure (i := .iconst (2)) (len := 1) (okD_ok (by decide +kernel)) rfl
theorem e284_746 : rf d 284 746 ls (.int y :: .int x :: s) h = rf d 284 747 ls (.int (x + y) :: s) h := rf_pure (i := .iadd) (len := 1) (okD_ok (by decide +kernel)) rfl
theorem e284_747 (q : inb j n) : rf d 284 747 ls (.int j :: .ref 0 :: s) (SH n, I, L, R, nc, ns, nx) = rf d 284 748 ls (.int (I 0 j.toNatClampNeg) :: s) (SH n, I, L, R, nc, ns, nx) := g_sal (by decide +kernel) q
theorem e284_748 : rf d 284 748 [l0, l1, l2, some (.ref a), l4, l5, l6] s h = rf d 284 749 [l0, l1, l2, some (.ref a), l4, l5, l6] (.ref a :: s) h := rf_pure (i := .aload_n 3) (len := 1) (okD_ok (by decide +kernel)) rfl
theorem e284_749 (hcat : ip_cat s ≤ 8) : rf (d + 1) 284 749 ls (.ref a3 :: .int x2 :: .int x1 :: .ref a0 :: s) h = rf_k (d + 1) 284 749 ls s (cf d 89 [.ref a0, .int x1, .int x2, .ref a3] h) := g_cs (idx := 157) [.ref a3, .int x2, .int x1, .ref a0] (by decide +kernel) ow284 ms_9_157 mt_9_157 (by decide) rfl mL89 rfl hcat
theorem e284_752 (hn : ip_nl l4 = true) : rf d 284 752 [l0, l1, l2, l3, l4, l5, l6] (.int x :: s) h = rf d 284 754 [l0, l1, l2, l3, l4, some (.int x), l6] s h := g_sti (i := .istore 5) (len := 2) (q := 4) (p := 2) (by decide +kernel) rfl rfl hn
theorem e284_754 : rf d 284 754 [l0, l1, some (.ref a), l3, l4, l5, l6] s h = rf d 284 755 [l0, l1, some (.ref a), l3, l4, l5, l6] (.ref a :: s) h := rf_pure (i := .aload_n 2) (len := 1) (okD_ok (by decide +kernel)) rfl
theorem e284_755 : rf d 284 755 [some (.ref a), l1, l2, l3, l4, l5, l6] s h = rf d 284 756 [some (.ref a), l1, l2, l3, l4, l5, l6] (.ref a :: s) h := rf_pure (i := .aload_n 0) (len := 1) (okD_ok (by decide +kernel)) rfl
theorem e284_756 : rf d 284 756 [l0, l1, l2, l3, some (.int x), l5, l6] s h = rf d 284 758 [l0, l1, l2, l3, some (.int x), l5, l6] (.int x :: s) h := rf_pure (i := .iload 4) (len := 2) (okD_ok (by decide +kernel)) rfl
theorem e284_758 : rf d 284 758 ls s h = rf d 284 759 ls (.int 1 :: s) h := rf_pure (i := .iconst (1)) (len := 1) (okD_ok (by decide +kernel)) rfl
theorem e284_759 : rf d 284 759 ls (.int y :: .int x :: s) h = rf d 284 760 ls (.int (x + y) :: s) h := rf_pure (i := .iadd) (len := 1) (okD_ok (by decide +kernel)) rfl
theorem e284_760 (q : inb j n) : rf d 284 760 ls (.int j :: .ref 0 :: s) (SH n, I, L, R, nc, ns, nx) = rf d 284 761 ls (.int (I 0 j.toNatClampNeg) :: s) (SH n, I, L, R, nc, ns, nx) := g_sal (by decide +kernel) q
theorem e284_761 : rf d 284 761 [some (.ref a), l1, l2, l3, l4, l5, l6] s h = rf d 284 762 [some (.ref a), l1, l2, l3, l4, l5, l6] (.ref a :: s) h := rf_pure (i := .aload_n 0) (len := 1) (okD_ok (by decide +kernel)) rfl
theorem e284_762 : rf d 284 762 [l0, l1, l2, l3, some (.int x), l5, l6] s h = rf d 284 764 [l0, l1, l2, l3, some (.int x), l5, l6] (.int x :: s) h := rf_pure (i := .iload 4) (len := 2) (okD_ok (by decide +kernel)) rfl
theorem e284_764 : rf d 284 764 ls s h = rf d 284 765 ls (.int 2 :: s) h := rf_pure (i := .iconst (2)) (len := 1) (okD_ok (by decide +kernel)) rfl
theorem e284_765 : rf d 284 765 ls (.int y :: .int x :: s) h = rf d 284 766 ls (.int (x + y) :: s) h := rf_pure (i := .iadd) (len := 1) (okD_ok (by decide +kernel)) rfl
theorem e284_766 (q : inb j n) : rf d 284 766 ls (.int j :: .ref 0 :: s) (SH n, I, L, R, nc, ns, nx) = rf d 284 767 ls (.int (I 0 j.toNatClampNeg) :: s) (SH n, I, L, R, nc, ns, nx) := g_sal (by decide +kernel) q
theorem e284_767 (hcat : ip_cat s ≤ 8) : rf (d + 1) 284 767 ls (.int x1 :: .int x0 :: .ref 265 :: s) (SH n, I, L, R, nc, ns, nx) = rf_k (d + 1) 284 767 ls s (cf d 227 [.ref 265, .int x0, .int x1] (SH n, I, L, R, nc, ns, nx)) := g_cv (idx := 159) (t := 8) [.int x1, .int x0] (by decide +kernel) ow284 ms_9_159 mt_9_159 cy227_8 rfl rfl mL227 rfl rfl (by decide) hcat
theorem e284_770 (hn : ip_nl l5 = true) : rf d 284 770 [l0, l1, l2, l3, l4, l5, l6] (.int x :: s) h = rf d 284 772 [l0, l1, l2, l3, l4, l5, some (.int x)] s h := g_sti (i := .istore 6) (len := 2) (q := 5) (p := 2) (by decide +kernel) rfl rfl hn
theorem e284_772 : rf d 284 772 [l0, l1, some (.ref a), l3, l4, l5, l6] s h = rf d 284 773 [l0, l1, some (.ref a), l3, l4, l5, l6] (.ref a :: s) h := rf_pure (i := .aload_n 2) (len := 1) (okD_ok (by decide +kernel)) rfl
theorem e284_773 (hcat : ip_cat s ≤ 8) : rf (d + 1) 284 773 ls (.ref 265 :: s) (SH n, I, L, R, nc, ns, nx) = rf_k (d + 1) 284 773 ls s (cf d 189 [.ref 265] (SH n, I, L, R, nc, ns, nx)) := g_cv (idx := 133) (t := 8) [] (by decide +kernel) ow284 ms_9_133 mt_9_133 cy189_8 rfl rfl mL189 rfl rfl (by decide) hcat
theorem e284_776 : rf d 284 776 [l0, l1, l2, l3, l4, some (.int x), l6] s h = rf d 284 778 [l0, l1, l2, l3, l4, some (.int x), l6] (.int x :: s) h := rf_pure (i := .iload 5) (len := 2) (okD_ok (by decide +kernel)) rfl
theorem e284_778 : rf d 284 778 ls (.int y :: .int x :: s) h = if x = y then rf d 284 783 ls s h else rf d 284 781 ls s h := g_ic (c := .eq) (off := 5) _ (by decide +kernel) rfl cmp_d
theorem e284_781 : rf d 284 781 ls s h = rf d 284 782 ls (.int 0 :: s) h := rf_pure (i := .iconst (0)) (len := 1) (okD_ok (by decide +kernel)) rfl
theorem e284_782 (hx : x = 0 ∨ x = 1) : rf d 284 782 ls [.int x] h = some (.inl (some (.int x)), h) := g_rz (by decide +kernel) rt284 hx
theorem e284_783 : rf d 284 783 [l0, l1, l2, l3, l4, some (.int x), l6] s h = rf d 284 785 [l0, l1, l2, l3, l4, some (.int x), l6] (.int x :: s) h := rf_pure (i := .iload 5) (len := 2) (okD_ok (by decide +kernel)) rfl
theorem e284_785 : rf d 284 785 ls (.int x :: s) h = if ¬ x = 0 then rf d 284 807 ls s h else rf d 284 788 ls s h := g_if (c := .ne) (off := 22) _ (by decide +kernel) rfl cmp_d
theorem e284_788 : rf d 284 788 [l0, l1, l2, some (.ref a), l4, l5, l6] s h = rf d 284 789 [l0, l1, l2, some (.ref a), l4, l5, l6] (.ref a :: s) h := rf_pure (i := .aload_n 3) (len := 1) (okD_ok (by decide +kernel)) rfl
theorem e284_789 : rf d 284 789 ls s h = rf d 284 790 ls (.int 0 :: s) h := rf_pure (i := .iconst (0)) (len := 1) (okD_ok (by decide +kernel)) rfl
theorem e284_790 (q : la n a j) : rf d 284 790 ls (.int j :: .ref a :: s) (SH n, I, L, R, nc, ns, nx) = rf d 284 791 ls (.long (L a j.toNatClampNeg) :: s) (SH n, I, L, R, nc, ns, nx) := g_lal (by decide +kernel) q
theorem e284_791 : rf d 284 791 [l0, l1, l2, l3, l4, l5, some (.int x)] s h = rf d 284 793 [l0, l1, l2, l3, l4, l5, some (.int x)] (.int x :: s) h := rf_pure (i := .iload 6) (len := 2) (okD_ok (by decide +kernel)) rfl
theorem e284_793 : rf d 284 793 ls (.int x :: s) h = if x = 0 then rf d 284 800 ls s h else rf d 284 796 ls s h := g_if (c := .eq) (off := 7) _ (by decide +kernel) rfl cmp_d
theorem e284_796 : rf d 284 796 ls s h = rf d 284 797 ls (.long 1 :: s) h := rf_pure (i := .lconst 1) (len := 1) (okD_ok (by decide +kernel)) rfl
theorem e284_797 : rf d 284 797 ls s h = rf d 284 801 ls s h := rf_goto ⟨okD_ok (i := .goto (4)) (len := 3) (by decide +kernel), rfl⟩
theorem e284_800 : rf d 284 800 ls s h = rf d 284 801 ls (.long 0 :: s) h := rf_pure (i := .lconst 0) (len := 1) (okD_ok (by decide +kernel)) rfl
theorem e284_801 : rf d 284 801 ls (.long v :: .long u :: s) h = rf d 284 802 ls (.int (lg_cmp u v) :: s) h := rf_pure (i := .lcmp) (len := 1) (okD_ok (by decide +kernel)) rfl
theorem e284_802 : rf d 284 802 ls (.int x :: s) h = if x = 0 then rf d 284 807 ls s h else rf d 284 805 ls s h := g_if (c := .eq) (off := 5) _ (by decide +kernel) rfl cmp_d
theorem e284_805 : rf d 284 805 ls s h = rf d 284 806 ls (.int 0 :: s) h := rf_pure (i := .iconst (0)) (len := 1) (okD_ok (by decide +kernel)) rfl
theorem e284_806 (hx : x = 0 ∨ x = 1) : rf d 284 806 ls [.int x] h = some (.inl (some (.int x)), h) := g_rz (by decide +kernel) rt284 hx
theorem e284_807 : rf d 284 807 ls s h = rf d 284 2520 ls s h := rf_goto ⟨okD_ok (i := .goto (1713)) (len := 3) (by decide +kernel), rfl⟩
theorem e284_810 : rf d 284 810 [l0, some (.ref a), l2, l3, l4, l5, l6] s h = rf d 284 811 [l0, some (.ref a), l2, l3, l4, l5, l6] (.ref a :: s) h := rf_pure (i := .aload_n 1) (len := 1) (okD_ok (by decide +kernel)) rfl
theorem e284_811 : rf d 284 811 [some (.ref a), l1, l2, l3, l4, l5, l6] s h = rf d 284 812 [some (.ref a), l1, l2, l3, l4, l5, l6] (.ref a :: s) h := rf_pure (i := .aload_n 0) (len := 1) (okD_ok (by decide +kernel)) rfl
theorem e284_812 : rf d 284 812 [l0, l1, l2, l3, some (.int x), l5, l6] s h = rf d 284 814 [l0, l1, l2, l3, some (.int x), l5, l6] (.int x :: s) h := rf_pure (i := .iload 4) (len := 2) (okD_ok (by decide +kernel)) rfl
theorem e284_814 : rf d 284 814 ls s h = rf d 284 815 ls (.int 1 :: s) h := rf_pure (i := .iconst (1)) (len := 1) (okD_ok (by decide +kernel)) rfl
theorem e284_815 : rf d 284 815 ls (.int y :: .int x :: s) h = rf d 284 816 ls (.int (x + y) :: s) h := rf_pure (i := .iadd) (len := 1) (okD_ok (by decide +kernel)) rfl
theorem e284_816 (q : inb j n) : rf d 284 816 ls (.int j :: .ref 0 :: s) (SH n, I, L, R, nc, ns, nx) = rf d 284 817 ls (.int (I 0 j.toNatClampNeg) :: s) (SH n, I, L, R, nc, ns, nx) := g_sal (by decide +kernel) q
theorem e284_817 : rf d 284 817 [l0, l1, l2, some (.ref a), l4, l5, l6] s h = rf d 284 818 [l0, l1, l2, some (.ref a), l4, l5, l6] (.ref a :: s) h := rf_pure (i := .aload_n 3) (len := 1) (okD_ok (by decide +kernel)) rfl
theorem e284_818 (hcat : ip_cat s ≤ 8) : rf (d + 1) 284 818 ls (.ref a2 :: .int x1 :: .ref a0 :: s) h = rf_k (d + 1) 284 818 ls s (cf d 94 [.ref a0, .int x1, .ref a2] h) := g_cs (idx := 160) [.ref a2, .int x1, .ref a0] (by decide +kernel) ow284 ms_9_160 mt_9_160 (by decide) rfl mL94 rfl hcat
theorem e284_821 (hn : ip_nl l4 = true) : rf d 284 821 [l0, l1, l2, l3, l4, l5, l6] (.int x :: s) h = rf d 284 823 [l0, l1, l2, l3, l4, some (.int x), l6] s h := g_sti (i := .istore 5) (len := 2) (q := 4) (p := 2) (by decide +kernel) rfl rfl hn
theorem e284_823 : rf d 284 823 [l0, l1, some (.ref a), l3, l4, l5, l6] s h = rf d 284 824 [l0, l1, some (.ref a), l3, l4, l5, l6] (.ref a :: s) h := rf_pure (i := .aload_n 2) (len := 1) (okD_ok (by decide +kernel)) rfl
theorem e284_824 : rf d 284 824 [some (.ref a), l1, l2, l3, l4, l5, l6] s h = rf d 284 825 [some (.ref a), l1, l2, l3, l4, l5, l6] (.ref a :: s) h := rf_pure (i := .aload_n 0) (len := 1) (okD_ok (by decide +kernel)) rfl
theorem e284_825 : rf d 284 825 [l0, l1, l2, l3, some (.int x), l5, l6] s h = rf d 284 827 [l0, l1, l2, l3, some (.int x), l5, l6] (.int x :: s) h := rf_pure (i := .iload 4) (len := 2) (okD_ok (by decide +kernel)) rfl
theorem e284_827 : rf d 284 827 ls s h = rf d 284 828 ls (.int 1 :: s) h := rf_pure (i := .iconst (1)) (len := 1) (okD_ok (by decide +kernel)) rfl
theorem e284_828 : rf d 284 828 ls (.int y :: .int x :: s) h = rf d 284 829 ls (.int (x + y) :: s) h := rf_pure (i := .iadd) (len := 1) (okD_ok (by decide +kernel)) rfl
theorem e284_829 (q : inb j n) : rf d 284 829 ls (.int j :: .ref 0 :: s) (SH n, I, L, R, nc, ns, nx) = rf d 284 830 ls (.int (I 0 j.toNatClampNeg) :: s) (SH n, I, L, R, nc, ns, nx) := g_sal (by decide +kernel) q
theorem e284_830 (hcat : ip_cat s ≤ 8) : rf (d + 1) 284 830 ls (.int x0 :: .ref 265 :: s) (SH n, I, L, R, nc, ns, nx) = rf_k (d + 1) 284 830 ls s (cf d 229 [.ref 265, .int x0] (SH n, I, L, R, nc, ns, nx)) := g_cv (idx := 163) (t := 8) [.int x0] (by decide +kernel) ow284 ms_9_163 mt_9_163 cy229_8 rfl rfl mL229 rfl rfl (by decide) hcat
theorem e284_833 (hn : ip_nl l5 = true) : rf d 284 833 [l0, l1, l2, l3, l4, l5, l6] (.int x :: s) h = rf d 284 835 [l0, l1, l2, l3, l4, l5, some (.int x)] s h := g_sti (i := .istore 6) (len := 2) (q := 5) (p := 2) (by decide +kernel) rfl rfl hn
theorem e284_835 : rf d 284 835 [l0, l1, some (.ref a), l3, l4, l5, l6] s h = rf d 284 836 [l0, l1, some (.ref a), l3, l4, l5, l6] (.ref a :: s) h := rf_pure (i := .aload_n 2) (len := 1) (okD_ok (by decide +kernel)) rfl
theorem e284_836 (hcat : ip_cat s ≤ 8) : rf (d + 1) 284 836 ls (.ref 265 :: s) (SH n, I, L, R, nc, ns, nx) = rf_k (d + 1) 284 836 ls s (cf d 189 [.ref 265] (SH n, I, L, R, nc, ns, nx)) := g_cv (idx := 133) (t := 8) [] (by decide +kernel) ow284 ms_9_133 mt_9_133 cy189_8 rfl rfl mL189 rfl rfl (by decide) hcat
theorem e284_839 : rf d 284 839 [l0, l1, l2, l3, l4, some (.int x), l6] s h = rf d 284 841 [l0, l1, l2, l3, l4, some (.int x), l6] (.int x :: s) h := rf_pure (i := .iload 5) (len := 2) (okD_ok (by decide +kernel)) rfl
theorem e284_841 : rf d 284 841 ls (.int y :: .int x :: s) h = if x = y then rf d 284 846 ls s h else rf d 284 844 ls s h := g_ic (c := .eq) (off := 5) _ (by decide +kernel) rfl cmp_d
theorem e284_844 : rf d 284 844 ls s h = rf d 284 845 ls (.int 0 :: s) h := rf_pure (i := .iconst (0)) (len := 1) (okD_ok (by decide +kernel)) rfl
theorem e284_845 (hx : x = 0 ∨ x = 1) : rf d 284 845 ls [.int x] h = some (.inl (some (.int x)), h) := g_rz (by decide +kernel) rt284 hx
theorem e284_846 : rf d 284 846 [l0, l1, l2, l3, l4, some (.int x), l6] s h = rf d 284 848 [l0, l1, l2, l3, l4, some (.int x), l6] (.int x :: s) h := rf_pure (i := .iload 5) (len := 2) (okD_ok (by decide +kernel)) rfl
theorem e284_848 : rf d 284 848 ls (.int x :: s) h = if ¬ x = 0 then rf d 284 870 ls s h else rf d 284 851 ls s h := g_if (c := .ne) (off := 22) _ (by decide +kernel) rfl cmp_d
theorem e284_851 : rf d 284 851 [l0, l1, l2, some (.ref a), l4, l5, l6] s h = rf d 284 852 [l0, l1, l2, some (.ref a), l4, l5, l6] (.ref a :: s) h := rf_pure (i := .aload_n 3) (len := 1) (okD_ok (by decide +kernel)) rfl
theorem e284_852 : rf d 284 852 ls s h = rf d 284 853 ls (.int 0 :: s) h := rf_pure (i := .iconst (0)) (len := 1) (okD_ok (by decide +kernel)) rfl
theorem e284_853 (q : la n a j) : rf d 284 853 ls (.int j :: .ref a :: s) (SH n, I, L, R, nc, ns, nx) = rf d 284 854 ls (.long (L a j.toNatClampNeg) :: s) (SH n, I, L, R, nc, ns, nx) := g_lal (by decide +kernel) q
theorem e284_854 : rf d 284 854 [l0, l1, l2, l3, l4, l5, some (.int x)] s h = rf d 284 856 [l0, l1, l2, l3, l4, l5, some (.int x)] (.int x :: s) h := rf_pure (i := .iload 6) (len := 2) (okD_ok (by decide +kernel)) rfl
theorem e284_856 : rf d 284 856 ls (.int x :: s) h = if x = 0 then rf d 284 863 ls s h else rf d 284 859 ls s h := g_if (c := .eq) (off := 7) _ (by decide +kernel) rfl cmp_d
theorem e284_859 : rf d 284 859 ls s h = rf d 284 860 ls (.long 1 :: s) h := rf_pure (i := .lconst 1) (len := 1) (okD_ok (by decide +kernel)) rfl
theorem e284_860 : rf d 284 860 ls s h = rf d 284 864 ls s h := rf_goto ⟨okD_ok (i := .goto (4)) (len := 3) (by decide +kernel), rfl⟩
theorem e284_863 : rf d 284 863 ls s h = rf d 284 864 ls (.long 0 :: s) h := rf_pure (i := .lconst 0) (len := 1) (okD_ok (by decide +kernel)) rfl
theorem e284_864 : rf d 284 864 ls (.long v :: .long u :: s) h = rf d 284 865 ls (.int (lg_cmp u v) :: s) h := rf_pure (i := .lcmp) (len := 1) (okD_ok (by decide +kernel)) rfl
theorem e284_865 : rf d 284 865 ls (.int x :: s) h = if x = 0 then rf d 284 870 ls s h else rf d 284 868 ls s h := g_if (c := .eq) (off := 5) _ (by decide +kernel) rfl cmp_d
theorem e284_868 : rf d 284 868 ls s h = rf d 284 869 ls (.int 0 :: s) h := rf_pure (i := .iconst (0)) (len := 1) (okD_ok (by decide +kernel)) rfl
theorem e284_869 (hx : x = 0 ∨ x = 1) : rf d 284 869 ls [.int x] h = some (.inl (some (.int x)), h) := g_rz (by decide +kernel) rt284 hx
theorem e284_870 : rf d 284 870 ls s h = rf d 284 2520 ls s h := rf_goto ⟨okD_ok (i := .goto (1650)) (len := 3) (by decide +kernel), rfl⟩
theorem e284_873 : rf d 284 873 [l0, some (.ref a), l2, l3, l4, l5, l6] s h = rf d 284 874 [l0, some (.ref a), l2, l3, l4, l5, l6] (.ref a :: s) h := rf_pure (i := .aload_n 1) (len := 1) (okD_ok (by decide +kernel)) rfl
theorem e284_874 : rf d 284 874 [some (.ref a), l1, l2, l3, l4, l5, l6] s h = rf d 284 875 [some (.ref a), l1, l2, l3, l4, l5, l6] (.ref a :: s) h := rf_pure (i := .aload_n 0) (len := 1) (okD_ok (by decide +kernel)) rfl
theorem e284_875 : rf d 284 875 [l0, l1, l2, l3, some (.int x), l5, l6] s h = rf d 284 877 [l0, l1, l2, l3, some (.int x), l5, l6] (.int x :: s) h := rf_pure (i := .iload 4) (len := 2) (okD_ok (by decide +kernel)) rfl
theorem e284_877 : rf d 284 877 ls s h = rf d 284 878 ls (.int 1 :: s) h := rf_pure (i := .iconst (1)) (len := 1) (okD_ok (by decide +kernel)) rfl
theorem e284_878 : rf d 284 878 ls (.int y :: .int x :: s) h = rf d 284 879 ls (.int (x + y) :: s) h := rf_pure (i := .iadd) (len := 1) (okD_ok (by decide +kernel)) rfl
theorem e284_879 (q : inb j n) : rf d 284 879 ls (.int j :: .ref 0 :: s) (SH n, I, L, R, nc, ns, nx) = rf d 284 880 ls (.int (I 0 j.toNatClampNeg) :: s) (SH n, I, L, R, nc, ns, nx) := g_sal (by decide +kernel) q
theorem e284_880 : rf d 284 880 [some (.ref a), l1, l2, l3, l4, l5, l6] s h = rf d 284 881 [some (.ref a), l1, l2, l3, l4, l5, l6] (.ref a :: s) h := rf_pure (i := .aload_n 0) (len := 1) (okD_ok (by decide +kernel)) rfl
theorem e284_881 : rf d 284 881 [l0, l1, l2, l3, some (.int x), l5, l6] s h = rf d 284 883 [l0, l1, l2, l3, some (.int x), l5, l6] (.int x :: s) h := rf_pure (i := .iload 4) (len := 2) (okD_ok (by decide +kernel)) rfl
theorem e284_883 : rf d 284 883 ls s h = rf d 284 884 ls (.int 2 :: s) h := rf_pure (i := .iconst (2)) (len := 1) (okD_ok (by decide +kernel)) rfl
theorem e284_884 : rf d 284 884 ls (.int y :: .int x :: s) h = rf d 284 885 ls (.int (x + y) :: s) h := rf_pure (i := .iadd) (len := 1) (okD_ok (by decide +kernel)) rfl
theorem e284_885 (q : inb j n) : rf d 284 885 ls (.int j :: .ref 0 :: s) (SH n, I, L, R, nc, ns, nx) = rf d 284 886 ls (.int (I 0 j.toNatClampNeg) :: s) (SH n, I, L, R, nc, ns, nx) := g_sal (by decide +kernel) q
theorem e284_886 : rf d 284 886 [l0, l1, l2, some (.ref a), l4, l5, l6] s h = rf d 284 887 [l0, l1, l2, some (.ref a), l4, l5, l6] (.ref a :: s) h := rf_pure (i := .aload_n 3) (len := 1) (okD_ok (by decide +kernel)) rfl
theorem e284_887 (hcat : ip_cat s ≤ 8) : rf (d + 1) 284 887 ls (.ref a3 :: .int x2 :: .int x1 :: .ref a0 :: s) h = rf_k (d + 1) 284 887 ls s (cf d 96 [.ref a0, .int x1, .int x2, .ref a3] h) := g_cs (idx := 164) [.ref a3, .int x2, .int x1, .ref a0] (by decide +kernel) ow284 ms_9_164 mt_9_164 (by decide) rfl mL96 rfl hcat
theorem e284_890 (hn : ip_nl l4 = true) : rf d 284 890 [l0, l1, l2, l3, l4, l5, l6] (.int x :: s) h = rf d 284 892 [l0, l1, l2, l3, l4, some (.int x), l6] s h := g_sti (i := .istore 5) (len := 2) (q := 4) (p := 2) (by decide +kernel) rfl rfl hn
theorem e284_892 : rf d 284 892 [l0, l1, some (.ref a), l3, l4, l5, l6] s h = rf d 284 893 [l0, l1, some (.ref a), l3, l4, l5, l6] (.ref a :: s) h := rf_pure (i := .aload_n 2) (len := 1) (okD_ok (by decide +kernel)) rfl
theorem e284_893 : rf d 284 893 [some (.ref a), l1, l2, l3, l4, l5, l6] s h = rf d 284 894 [some (.ref a), l1, l2, l3, l4, l5, l6] (.ref a :: s) h := rf_pure (i := .aload_n 0) (len := 1) (okD_ok (by decide +kernel)) rfl
theorem e284_894 : rf d 284 894 [l0, l1, l2, l3, some (.int x), l5, l6] s h = rf d 284 896 [l0, l1, l2, l3, some (.int x), l5, l6] (.int x :: s) h := rf_pure (i := .iload 4) (len := 2) (okD_ok (by decide +kernel)) rfl
theorem e284_896 : rf d 284 896 ls s h = rf d 284 897 ls (.int 1 :: s) h := rf_pure (i := .iconst (1)) (len := 1) (okD_ok (by decide +kernel)) rfl
theorem e284_897 : rf d 284 897 ls (.int y :: .int x :: s) h = rf d 284 898 ls (.int (x + y) :: s) h := rf_pure (i := .iadd) (len := 1) (okD_ok (by decide +kernel)) rfl
theorem e284_898 (q : inb j n) : rf d 284 898 ls (.int j :: .ref 0 :: s) (SH n, I, L, R, nc, ns, nx) = rf d 284 899 ls (.int (I 0 j.toNatClampNeg) :: s) (SH n, I, L, R, nc, ns, nx) := g_sal (by decide +kernel) q
theorem e284_899 : rf d 284 899 [some (.ref a), l1, l2, l3, l4, l5, l6] s h = rf d 284 900 [some (.ref a), l1, l2, l3, l4, l5, l6] (.ref a :: s) h := rf_pure (i := .aload_n 0) (len := 1) (okD_ok (by decide +kernel)) rfl
theorem e284_900 : rf d 284 900 [l0, l1, l2, l3, some (.int x), l5, l6] s h = rf d 284 902 [l0, l1, l2, l3, some (.int x), l5, l6] (.int x :: s) h := rf_pure (i := .iload 4) (len := 2) (okD_ok (by decide +kernel)) rfl
theorem e284_902 : rf d 284 902 ls s h = rf d 284 903 ls (.int 2 :: s) h := rf_pure (i := .iconst (2)) (len := 1) (okD_ok (by decide +kernel)) rfl
theorem e284_903 : rf d 284 903 ls (.int y :: .int x :: s) h = rf d 284 904 ls (.int (x + y) :: s) h := rf_pure (i := .iadd) (len := 1) (okD_ok (by decide +kernel)) rfl
theorem e284_904 (q : inb j n) : rf d 284 904 ls (.int j :: .ref 0 :: s) (SH n, I, L, R, nc, ns, nx) = rf d 284 905 ls (.int (I 0 j.toNatClampNeg) :: s) (SH n, I, L, R, nc, ns, nx) := g_sal (by decide +kernel) q
theorem e284_905 (hcat : ip_cat s ≤ 8) : rf (d + 1) 284 905 ls (.int x1 :: .int x0 :: .ref 265 :: s) (SH n, I, L, R, nc, ns, nx) = rf_k (d + 1) 284 905 ls s (cf d 230 [.ref 265, .int x0, .int x1] (SH n, I, L, R, nc, ns, nx)) := g_cv (idx := 166) (t := 8) [.int x1, .int x0] (by decide +kernel) ow284 ms_9_166 mt_9_166 cy230_8 rfl rfl mL230 rfl rfl (by decide) hcat
theorem e284_908 (hn : ip_nl l5 = true) : rf d 284 908 [l0, l1, l2, l3, l4, l5, l6] (.int x :: s) h = rf d 284 910 [l0, l1, l2, l3, l4, l5, some (.int x)] s h := g_sti (i := .istore 6) (len := 2) (q := 5) (p := 2) (by decide +kernel) rfl rfl hn
theorem e284_910 : rf d 284 910 [l0, l1, some (.ref a), l3, l4, l5, l6] s h = rf d 284 911 [l0, l1, some (.ref a), l3, l4, l5, l6] (.ref a :: s) h := rf_pure (i := .aload_n 2) (len := 1) (okD_ok (by decide +kernel)) rfl
theorem e284_911 (hcat : ip_cat s ≤ 8) : rf (d + 1) 284 911 ls (.ref 265 :: s) (SH n, I, L, R, nc, ns, nx) = rf_k (d + 1) 284 911 ls s (cf d 189 [.ref 265] (SH n, I, L, R, nc, ns, nx)) := g_cv (idx := 133) (t := 8) [] (by decide +kernel) ow284 ms_9_133 mt_9_133 cy189_8 rfl rfl mL189 rfl rfl (by decide) hcat
theorem e284_914 : rf d 284 914 [l0, l1, l2, l3, l4, some (.int x), l6] s h = rf d 284 916 [l0, l1, l2, l3, l4, some (.int x), l6] (.int x :: s) h := rf_pure (i := .iload 5) (len := 2) (okD_ok (by decide +kernel)) rfl
theorem e284_916 : rf d 284 916 ls (.int y :: .int x :: s) h = if x = y then rf d 284 921 ls s h else rf d 284 919 ls s h := g_ic (c := .eq) (off := 5) _ (by decide +kernel) rfl cmp_d
theorem e284_919 : rf d 284 919 ls s h = rf d 284 920 ls (.int 0 :: s) h := rf_pure (i := .iconst (0)) (len := 1) (okD_ok (by decide +kernel)) rfl
theorem e284_920 (hx : x = 0 ∨ x = 1) : rf d 284 920 ls [.int x] h = some (.inl (some (.int x)), h) := g_rz (by decide +kernel) rt284 hx
theorem e284_921 : rf d 284 921 [l0, l1, l2, l3, l4, some (.int x), l6] s h = rf d 284 923 [l0, l1, l2, l3, l4, some (.int x), l6] (.int x :: s) h := rf_pure (i := .iload 5) (len := 2) (okD_ok (by decide +kernel)) rfl
theorem e284_923 : rf d 284 923 ls (.int x :: s) h = if ¬ x = 0 then rf d 284 938 ls s h else rf d 284 926 ls s h := g_if (c := .ne) (off := 15) _ (by decide +kernel) rfl cmp_d
theorem e284_926 : rf d 284 926 [l0, l1, l2, some (.ref a), l4, l5, l6] s h = rf d 284 927 [l0, l1, l2, some (.ref a), l4, l5, l6] (.ref a :: s) h := rf_pure (i := .aload_n 3) (len := 1) (okD_ok (by decide +kernel)) rfl
theorem e284_927 : rf d 284 927 ls s h = rf d 284 928 ls (.int 0 :: s) h := rf_pure (i := .iconst (0)) (len := 1) (okD_ok (by decide +kernel)) rfl
theorem e284_928 (q : la n a j) : rf d 284 928 ls (.int j :: .ref a :: s) (SH n, I, L, R, nc, ns, nx) = rf d 284 929 ls (.long (L a j.toNatClampNeg) :: s) (SH n, I, L, R, nc, ns, nx) := g_lal (by decide +kernel) q
theorem e284_929 : rf d 284 929 [l0, l1, l2, l3, l4, l5, some (.int x)] s h = rf d 284 931 [l0, l1, l2, l3, l4, l5, some (.int x)] (.int x :: s) h := rf_pure (i := .iload 6) (len := 2) (okD_ok (by decide +kernel)) rfl
theorem e284_931 : rf d 284 931 ls (.int x :: s) h = rf d 284 932 ls (.long x.toInt64 :: s) h := rf_pure (i := .i2l) (len := 1) (okD_ok (by decide +kernel)) rfl
theorem e284_932 : rf d 284 932 ls (.long v :: .long u :: s) h = rf d 284 933 ls (.int (lg_cmp u v) :: s) h := rf_pure (i := .lcmp) (len := 1) (okD_ok (by decide +kernel)) rfl
theorem e284_933 : rf d 284 933 ls (.int x :: s) h = if x = 0 then rf d 284 938 ls s h else rf d 284 936 ls s h := g_if (c := .eq) (off := 5) _ (by decide +kernel) rfl cmp_d
theorem e284_936 : rf d 284 936 ls s h = rf d 284 937 ls (.int 0 :: s) h := rf_pure (i := .iconst (0)) (len := 1) (okD_ok (by decide +kernel)) rfl
theorem e284_937 (hx : x = 0 ∨ x = 1) : rf d 284 937 ls [.int x] h = some (.inl (some (.int x)), h) := g_rz (by decide +kernel) rt284 hx
theorem e284_938 : rf d 284 938 ls s h = rf d 284 2520 ls s h := rf_goto ⟨okD_ok (i := .goto (1582)) (len := 3) (by decide +kernel), rfl⟩
theorem e284_941 : rf d 284 941 [l0, some (.ref a), l2, l3, l4, l5, l6] s h = rf d 284 942 [l0, some (.ref a), l2, l3, l4, l5, l6] (.ref a :: s) h := rf_pure (i := .aload_n 1) (len := 1) (okD_ok (by decide +kernel)) rfl
theorem e284_942 : rf d 284 942 [l0, l1, l2, some (.ref a), l4, l5, l6] s h = rf d 284 943 [l0, l1, l2, some (.ref a), l4, l5, l6] (.ref a :: s) h := rf_pure (i := .aload_n 3) (len := 1) (okD_ok (by decide +kernel)) rfl
theorem e284_943 (hcat : ip_cat s ≤ 8) : rf (d + 1) 284 943 ls (.ref a1 :: .ref a0 :: s) h = rf_k (d + 1) 284 943 ls s (cf d 119 [.ref a0, .ref a1] h) := g_cs (idx := 167) [.ref a1, .ref a0] (by decide +kernel) ow284 ms_9_167 mt_9_167 (by decide) rfl mL119 rfl hcat
theorem e284_946 (hn : ip_nl l4 = true) : rf d 284 946 [l0, l1, l2, l3, l4, l5, l6] (.int x :: s) h = rf d 284 948 [l0, l1, l2, l3, l4, some (.int x), l6] s h := g_sti (i := .istore 5) (len := 2) (q := 4) (p := 2) (by decide +kernel) rfl rfl hn
theorem e284_948 : rf d 284 948 [l0, l1, some (.ref a), l3, l4, l5, l6] s h = rf d 284 949 [l0, l1, some (.ref a), l3, l4, l5, l6] (.ref a :: s) h := rf_pure (i := .aload_n 2) (len := 1) (okD_ok (by decide +kernel)) rfl
theorem e284_949 (hcat : ip_cat s ≤ 8) : rf (d + 1) 284 949 ls (.ref 265 :: s) (SH n, I, L, R, nc, ns, nx) = rf_k (d + 1) 284 949 ls s (cf d 242 [.ref 265] (SH n, I, L, R, nc, ns, nx)) := g_cv (idx := 169) (t := 8) [] (by decide +kernel) ow284 ms_9_169 mt_9_169 cy242_8 rfl rfl mL242 rfl rfl (by decide) hcat
theorem e284_952 (hn : ip_nl l5 = true) : rf d 284 952 [l0, l1, l2, l3, l4, l5, l6] (.int x :: s) h = rf d 284 954 [l0, l1, l2, l3, l4, l5, some (.int x)] s h := g_sti (i := .istore 6) (len := 2) (q := 5) (p := 2) (by decide +kernel) rfl rfl hn
theorem e284_954 : rf d 284 954 [l0, l1, some (.ref a), l3, l4, l5, l6] s h = rf d 284 955 [l0, l1, some (.ref a), l3, l4, l5, l6] (.ref a :: s) h := rf_pure (i := .aload_n 2) (len := 1) (okD_ok (by decide +kernel)) rfl
theorem e284_955 (hcat : ip_cat s ≤ 8) : rf (d + 1) 284 955 ls (.ref 265 :: s) (SH n, I, L, R, nc, ns, nx) = rf_k (d + 1) 284 955 ls s (cf d 189 [.ref 265] (SH n, I, L, R, nc, ns, nx)) := g_cv (idx := 133) (t := 8) [] (by decide +kernel) ow284 ms_9_133 mt_9_133 cy189_8 rfl rfl mL189 rfl rfl (by decide) hcat
theorem e284_958 : rf d 284 958 [l0, l1, l2, l3, l4, some (.int x), l6] s h = rf d 284 960 [l0, l1, l2, l3, l4, some (.int x), l6] (.int x :: s) h := rf_pure (i := .iload 5) (len := 2) (okD_ok (by decide +kernel)) rfl
theorem e284_960 : rf d 284 960 ls (.int y :: .int x :: s) h = if x = y then rf d 284 965 ls s h else rf d 284 963 ls s h := g_ic (c := .eq) (off := 5) _ (by decide +kernel) rfl cmp_d
theorem e284_963 : rf d 284 963 ls s h = rf d 284 964 ls (.int 0 :: s) h := rf_pure (i := .iconst (0)) (len := 1) (okD_ok (by decide +kernel)) rfl
theorem e284_964 (hx : x = 0 ∨ x = 1) : rf d 284 964 ls [.int x] h = some (.inl (some (.int x)), h) := g_rz (by decide +kernel) rt284 hx
theorem e284_965 : rf d 284 965 [l0, l1, l2, l3, l4, some (.int x), l6] s h = rf d 284 967 [l0, l1, l2, l3, l4, some (.int x), l6] (.int x :: s) h := rf_pure (i := .iload 5) (len := 2) (okD_ok (by decide +kernel)) rfl
theorem e284_967 : rf d 284 967 ls (.int x :: s) h = if ¬ x = 0 then rf d 284 982 ls s h else rf d 284 970 ls s h := g_if (c := .ne) (off := 15) _ (by decide +kernel) rfl cmp_d
theorem e284_970 : rf d 284 970 [l0, l1, l2, some (.ref a), l4, l5, l6] s h = rf d 284 971 [l0, l1, l2, some (.ref a), l4, l5, l6] (.ref a :: s) h := rf_pure (i := .aload_n 3) (len := 1) (okD_ok (by decide +kernel)) rfl
theorem e284_971 : rf d 284 971 ls s h = rf d 284 972 ls (.int 0 :: s) h := rf_pure (i := .iconst (0)) (len := 1) (okD_ok (by decide +kernel)) rfl
theorem e284_972 (q : la n a j) : rf d 284 972 ls (.int j :: .ref a :: s) (SH n, I, L, R, nc, ns, nx) = rf d 284 973 ls (.long (L a j.toNatClampNeg) :: s) (SH n, I, L, R, nc, ns, nx) := g_lal (by decide +kernel) q
theorem e284_973 : rf d 284 973 [l0, l1, l2, l3, l4, l5, some (.int x)] s h = rf d 284 975 [l0, l1, l2, l3, l4, l5, some (.int x)] (.int x :: s) h := rf_pure (i := .iload 6) (len := 2) (okD_ok (by decide +kernel)) rfl
theorem e284_975 : rf d 284 975 ls (.int x :: s) h = rf d 284 976 ls (.long x.toInt64 :: s) h := rf_pure (i := .i2l) (len := 1) (okD_ok (by decide +kernel)) rfl
theorem e284_976 : rf d 284 976 ls (.long v :: .long u :: s) h = rf d 284 977 ls (.int (lg_cmp u v) :: s) h := rf_pure (i := .lcmp) (len := 1) (okD_ok (by decide +kernel)) rfl
theorem e284_977 : rf d 284 977 ls (.int x :: s) h = if x = 0 then rf d 284 982 ls s h else rf d 284 980 ls s h := g_if (c := .eq) (off := 5) _ (by decide +kernel) rfl cmp_d
theorem e284_980 : rf d 284 980 ls s h = rf d 284 981 ls (.int 0 :: s) h := rf_pure (i := .iconst (0)) (len := 1) (okD_ok (by decide +kernel)) rfl
theorem e284_981 (hx : x = 0 ∨ x = 1) : rf d 284 981 ls [.int x] h = some (.inl (some (.int x)), h) := g_rz (by decide +kernel) rt284 hx
theorem e284_982 : rf d 284 982 ls s h = rf d 284 2520 ls s h := rf_goto ⟨okD_ok (i := .goto (1538)) (len := 3) (by decide +kernel), rfl⟩
theorem e284_985 : rf d 284 985 [l0, some (.ref a), l2, l3, l4, l5, l6] s h = rf d 284 986 [l0, some (.ref a), l2, l3, l4, l5, l6] (.ref a :: s) h := rf_pure (i := .aload_n 1) (len := 1) (okD_ok (by decide +kernel)) rfl
theorem e284_986 : rf d 284 986 [some (.ref a), l1, l2, l3, l4, l5, l6] s h = rf d 284 987 [some (.ref a), l1, l2, l3, l4, l5, l6] (.ref a :: s) h := rf_pure (i := .aload_n 0) (len := 1) (okD_ok (by decide +kernel)) rfl
theorem e284_987 : rf d 284 987 [l0, l1, l2, l3, some (.int x), l5, l6] s h = rf d 284 989 [l0, l1, l2, l3, some (.int x), l5, l6] (.int x :: s) h := rf_pure (i := .iload 4) (len := 2) (okD_ok (by decide +kernel)) rfl
theorem e284_989 : rf d 284 989 ls s h = rf d 284 990 ls (.int 1 :: s) h := rf_pure (i := .iconst (1)) (len := 1) (okD_ok (by decide +kernel)) rfl
theorem e284_990 : rf d 284 990 ls (.int y :: .int x :: s) h = rf d 284 991 ls (.int (x + y) :: s) h := rf_pure (i := .iadd) (len := 1) (okD_ok (by decide +kernel)) rfl
theorem e284_991 (q : inb j n) : rf d 284 991 ls (.int j :: .ref 0 :: s) (SH n, I, L, R, nc, ns, nx) = rf d 284 992 ls (.int (I 0 j.toNatClampNeg) :: s) (SH n, I, L, R, nc, ns, nx) := g_sal (by decide +kernel) q
theorem e284_992 : rf d 284 992 [l0, l1, l2, some (.ref a), l4, l5, l6] s h = rf d 284 993 [l0, l1, l2, some (.ref a), l4, l5, l6] (.ref a :: s) h := rf_pure (i := .aload_n 3) (len := 1) (okD_ok (by decide +kernel)) rfl
theorem e284_993 (hcat : ip_cat s ≤ 8) : rf (d + 1) 284 993 ls (.ref a2 :: .int x1 :: .ref a0 :: s) h = rf_k (d + 1) 284 993 ls s (cf d 122 [.ref a0, .int x1, .ref a2] h) := g_cs (idx := 170) [.ref a2, .int x1, .ref a0] (by decide +kernel) ow284 ms_9_170 mt_9_170 (by decide) rfl mL122 rfl hcat
theorem e284_996 (hn : ip_nl l4 = true) : rf d 284 996 [l0, l1, l2, l3, l4, l5, l6] (.int x :: s) h = rf d 284 998 [l0, l1, l2, l3, l4, some (.int x), l6] s h := g_sti (i := .istore 5) (len := 2) (q := 4) (p := 2) (by decide +kernel) rfl rfl hn
theorem e284_998 : rf d 284 998 [l0, l1, some (.ref a), l3, l4, l5, l6] s h = rf d 284 999 [l0, l1, some (.ref a), l3, l4, l5, l6] (.ref a :: s) h := rf_pure (i := .aload_n 2) (len := 1) (okD_ok (by decide +kernel)) rfl
theorem e284_999 : rf d 284 999 [some (.ref a), l1, l2, l3, l4, l5, l6] s h = rf d 284 1000 [some (.ref a), l1, l2, l3, l4, l5, l6] (.ref a :: s) h := rf_pure (i := .aload_n 0) (len := 1) (okD_ok (by decide +kernel)) rfl
theorem e284_1000 : rf d 284 1000 [l0, l1, l2, l3, some (.int x), l5, l6] s h = rf d 284 1002 [l0, l1, l2, l3, some (.int x), l5, l6] (.int x :: s) h := rf_pure (i := .iload 4) (len := 2) (okD_ok (by decide +kernel)) rfl
theorem e284_1002 : rf d 284 1002 ls s h = rf d 284 1003 ls (.int 1 :: s) h := rf_pure (i := .iconst (1)) (len := 1) (okD_ok (by decide +kernel)) rfl
theorem e284_1003 : rf d 284 1003 ls (.int y :: .int x :: s) h = rf d 284 1004 ls (.int (x + y) :: s) h := rf_pure (i := .iadd) (len := 1) (okD_ok (by decide +kernel)) rfl
theorem e284_1004 (q : inb j n) : rf d 284 1004 ls (.int j :: .ref 0 :: s) (SH n, I, L, R, nc, ns, nx) = rf d 284 1005 ls (.int (I 0 j.toNatClampNeg) :: s) (SH n, I, L, R, nc, ns, nx) := g_sal (by decide +kernel) q
theorem e284_1005 (hcat : ip_cat s ≤ 8) : rf (d + 1) 284 1005 ls (.int x0 :: .ref 265 :: s) (SH n, I, L, R, nc, ns, nx) = rf_k (d + 1) 284 1005 ls s (cf d 243 [.ref 265, .int x0] (SH n, I, L, R, nc, ns, nx)) := g_cv (idx := 172) (t := 8) [.int x0] (by decide +kernel) ow284 ms_9_172 mt_9_172 cy243_8 rfl rfl mL243 rfl rfl (by decide) hcat
theorem e284_1008 (hn : ip_nl l5 = true) : rf d 284 1008 [l0, l1, l2, l3, l4, l5, l6] (.int x :: s) h = rf d 284 1010 [l0, l1, l2, l3, l4, l5, some (.int x)] s h := g_sti (i := .istore 6) (len := 2) (q := 5) (p := 2) (by decide +kernel) rfl rfl hn
theorem e284_1010 : rf d 284 1010 [l0, l1, some (.ref a), l3, l4, l5, l6] s h = rf d 284 1011 [l0, l1, some (.ref a), l3, l4, l5, l6] (.ref a :: s) h := rf_pure (i := .aload_n 2) (len := 1) (okD_ok (by decide +kernel)) rfl
theorem e284_1011 (hcat : ip_cat s ≤ 8) : rf (d + 1) 284 1011 ls (.ref 265 :: s) (SH n, I, L, R, nc, ns, nx) = rf_k (d + 1) 284 1011 ls s (cf d 189 [.ref 265] (SH n, I, L, R, nc, ns, nx)) := g_cv (idx := 133) (t := 8) [] (by decide +kernel) ow284 ms_9_133 mt_9_133 cy189_8 rfl rfl mL189 rfl rfl (by decide) hcat
theorem e284_1014 : rf d 284 1014 [l0, l1, l2, l3, l4, some (.int x), l6] s h = rf d 284 1016 [l0, l1, l2, l3, l4, some (.int x), l6] (.int x :: s) h := rf_pure (i := .iload 5) (len := 2) (okD_ok (by decide +kernel)) rfl
theorem e284_1016 : rf d 284 1016 ls (.int y :: .int x :: s) h = if x = y then rf d 284 1021 ls s h else rf d 284 1019 ls s h := g_ic (c := .eq) (off := 5) _ (by decide +kernel) rfl cmp_d
theorem e284_1019 : rf d 284 1019 ls s h = rf d 284 1020 ls (.int 0 :: s) h := rf_pure (i := .iconst (0)) (len := 1) (okD_ok (by decide +kernel)) rfl
theorem e284_1020 (hx : x = 0 ∨ x = 1) : rf d 284 1020 ls [.int x] h = some (.inl (some (.int x)), h) := g_rz (by decide +kernel) rt284 hx
theorem e284_1021 : rf d 284 1021 [l0, l1, l2, l3, l4, some (.int x), l6] s h = rf d 284 1023 [l0, l1, l2, l3, l4, some (.int x), l6] (.int x :: s) h := rf_pure (i := .iload 5) (len := 2) (okD_ok (by decide +kernel)) rfl
theorem e284_1023 : rf d 284 1023 ls (.int x :: s) h = if ¬ x = 0 then rf d 284 1038 ls s h else rf d 284 1026 ls s h := g_if (c := .ne) (off := 15) _ (by decide +kernel) rfl cmp_d
theorem e284_1026 : rf d 284 1026 [l0, l1, l2, some (.ref a), l4, l5, l6] s h = rf d 284 1027 [l0, l1, l2, some (.ref a), l4, l5, l6] (.ref a :: s) h := rf_pure (i := .aload_n 3) (len := 1) (okD_ok (by decide +kernel)) rfl
theorem e284_1027 : rf d 284 1027 ls s h = rf d 284 1028 ls (.int 0 :: s) h := rf_pure (i := .iconst (0)) (len := 1) (okD_ok (by decide +kernel)) rfl
theorem e284_1028 (q : la n a j) : rf d 284 1028 ls (.int j :: .ref a :: s) (SH n, I, L, R, nc, ns, nx) = rf d 284 1029 ls (.long (L a j.toNatClampNeg) :: s) (SH n, I, L, R, nc, ns, nx) := g_lal (by decide +kernel) q
theorem e284_1029 : rf d 284 1029 [l0, l1, l2, l3, l4, l5, some (.int x)] s h = rf d 284 1031 [l0, l1, l2, l3, l4, l5, some (.int x)] (.int x :: s) h := rf_pure (i := .iload 6) (len := 2) (okD_ok (by decide +kernel)) rfl
theorem e284_1031 : rf d 284 1031 ls (.int x :: s) h = rf d 284 1032 ls (.long x.toInt64 :: s) h := rf_pure (i := .i2l) (len := 1) (okD_ok (by decide +kernel)) rfl
theorem e284_1032 : rf d 284 1032 ls (.long v :: .long u :: s) h = rf d 284 1033 ls (.int (lg_cmp u v) :: s) h := rf_pure (i := .lcmp) (len := 1) (okD_ok (by decide +kernel)) rfl
theorem e284_1033 : rf d 284 1033 ls (.int x :: s) h = if x = 0 then rf d 284 1038 ls s h else rf d 284 1036 ls s h := g_if (c := .eq) (off := 5) _ (by decide +kernel) rfl cmp_d
theorem e284_1036 : rf d 284 1036 ls s h = rf d 284 1037 ls (.int 0 :: s) h := rf_pure (i := .iconst (0)) (len := 1) (okD_ok (by decide +kernel)) rfl
theorem e284_1037 (hx : x = 0 ∨ x = 1) : rf d 284 1037 ls [.int x] h = some (.inl (some (.int x)), h) := g_rz (by decide +kernel) rt284 hx
theorem e284_1038 : rf d 284 1038 ls s h = rf d 284 2520 ls s h := rf_goto ⟨okD_ok (i := .goto (1482)) (len := 3) (by decide +kernel), rfl⟩
theorem e284_1041 : rf d 284 1041 [l0, some (.ref a), l2, l3, l4, l5, l6] s h = rf d 284 1042 [l0, some (.ref a), l2, l3, l4, l5, l6] (.ref a :: s) h := rf_pure (i := .aload_n 1) (len := 1) (okD_ok (by decide +kernel)) rfl
theorem e284_1042 : rf d 284 1042 [some (.ref a), l1, l2, l3, l4, l5, l6] s h = rf d 284 1043 [some (.ref a), l1, l2, l3, l4, l5, l6] (.ref a :: s) h := rf_pure (i := .aload_n 0) (len := 1) (okD_ok (by decide +kernel)) rfl
theorem e284_1043 : rf d 284 1043 [l0, l1, l2, l3, some (.int x), l5, l6] s h = rf d 284 1045 [l0, l1, l2, l3, some (.int x), l5, l6] (.int x :: s) h := rf_pure (i := .iload 4) (len := 2) (okD_ok (by decide +kernel)) rfl
theorem e284_1045 : rf d 284 1045 ls s h = rf d 284 1046 ls (.int 1 :: s) h := rf_pure (i := .iconst (1)) (len := 1) (okD_ok (by decide +kernel)) rfl
theorem e284_1046 : rf d 284 1046 ls (.int y :: .int x :: s) h = rf d 284 1047 ls (.int (x + y) :: s) h := rf_pure (i := .iadd) (len := 1) (okD_ok (by decide +kernel)) rfl
theorem e284_1047 (q : inb j n) : rf d 284 1047 ls (.int j :: .ref 0 :: s) (SH n, I, L, R, nc, ns, nx) = rf d 284 1048 ls (.int (I 0 j.toNatClampNeg) :: s) (SH n, I, L, R, nc, ns, nx) := g_sal (by decide +kernel) q
theorem e284_1048 : rf d 284 1048 [some (.ref a), l1, l2, l3, l4, l5, l6] s h = rf d 284 1049 [some (.ref a), l1, l2, l3, l4, l5, l6] (.ref a :: s) h := rf_pure (i := .aload_n 0) (len := 1) (okD_ok (by decide +kernel)) rfl
theorem e284_1049 : rf d 284 1049 [l0, l1, l2, l3, some (.int x), l5, l6] s h = rf d 284 1051 [l0, l1, l2, l3, some (.int x), l5, l6] (.int x :: s) h := rf_pure (i := .iload 4) (len := 2) (okD_ok (by decide +kernel)) rfl
theorem e284_1051 : rf d 284 1051 ls s h = rf d 284 1052 ls (.int 2 :: s) h := rf_pure (i := .iconst (2)) (len := 1) (okD_ok (by decide +kernel)) rfl
theorem e284_1052 : rf d 284 1052 ls (.int y :: .int x :: s) h = rf d 284 1053 ls (.int (x + y) :: s) h := rf_pure (i := .iadd) (len := 1) (okD_ok (by decide +kernel)) rfl
theorem e284_1053 (q : inb j n) : rf d 284 1053 ls (.int j :: .ref 0 :: s) (SH n, I, L, R, nc, ns, nx) = rf d 284 1054 ls (.int (I 0 j.toNatClampNeg) :: s) (SH n, I, L, R, nc, ns, nx) := g_sal (by decide +kernel) q
theorem e284_1054 : rf d 284 1054 [some (.ref a), l1, l2, l3, l4, l5, l6] s h = rf d 284 1055 [some (.ref a), l1, l2, l3, l4, l5, l6] (.ref a :: s) h := rf_pure (i := .aload_n 0) (len := 1) (okD_ok (by decide +kernel)) rfl
theorem e284_1055 : rf d 284 1055 [l0, l1, l2, l3, some (.int x), l5, l6] s h = rf d 284 1057 [l0, l1, l2, l3, some (.int x), l5, l6] (.int x :: s) h := rf_pure (i := .iload 4) (len := 2) (okD_ok (by decide +kernel)) rfl
theorem e284_1057 : rf d 284 1057 ls s h = rf d 284 1058 ls (.int 3 :: s) h := rf_pure (i := .iconst (3)) (len := 1) (okD_ok (by decide +kernel)) rfl
theorem e284_1058 : rf d 284 1058 ls (.int y :: .int x :: s) h = rf d 284 1059 ls (.int (x + y) :: s) h := rf_pure (i := .iadd) (len := 1) (okD_ok (by decide +kernel)) rfl
theorem e284_1059 (q : inb j n) : rf d 284 1059 ls (.int j :: .ref 0 :: s) (SH n, I, L, R, nc, ns, nx) = rf d 284 1060 ls (.int (I 0 j.toNatClampNeg) :: s) (SH n, I, L, R, nc, ns, nx) := g_sal (by decide +kernel) q
theorem e284_1060 : rf d 284 1060 [l0, l1, l2, some (.ref a), l4, l5, l6] s h = rf d 284 1061 [l0, l1, l2, some (.ref a), l4, l5, l6] (.ref a :: s) h := rf_pure (i := .aload_n 3) (len := 1) (okD_ok (by decide +kernel)) rfl
theorem e284_1061 (hcat : ip_cat s ≤ 8) : rf (d + 1) 284 1061 ls (.ref a4 :: .int x3 :: .int x2 :: .int x1 :: .ref a0 :: s) h = rf_k (d + 1) 284 1061 ls s (cf d 125 [.ref a0, .int x1, .int x2, .int x3, .ref a4] h) := g_cs (idx := 173) [.ref a4, .int x3, .int x2, .int x1, .ref a0] (by decide +kernel) ow284 ms_9_173 mt_9_173 (by decide) rfl mL125 rfl hcat
theorem e284_1064 (hn : ip_nl l4 = true) : rf d 284 1064 [l0, l1, l2, l3, l4, l5, l6] (.int x :: s) h = rf d 284 1066 [l0, l1, l2, l3, l4, some (.int x), l6] s h := g_sti (i := .istore 5) (len := 2) (q := 4) (p := 2) (by decide +kernel) rfl rfl hn
theorem e284_1066 : rf d 284 1066 [l0, l1, some (.ref a), l3, l4, l5, l6] s h = rf d 284 1067 [l0, l1, some (.ref a), l3, l4, l5, l6] (.ref a :: s) h := rf_pure (i := .aload_n 2) (len := 1) (okD_ok (by decide +kernel)) rfl
theorem e284_1067 : rf d 284 1067 [some (.ref a), l1, l2, l3, l4, l5, l6] s h = rf d 284 1068 [some (.ref a), l1, l2, l3, l4, l5, l6] (.ref a :: s) h := rf_pure (i := .aload_n 0) (len := 1) (okD_ok (by decide +kernel)) rfl
theorem e284_1068 : rf d 284 1068 [l0, l1, l2, l3, some (.int x), l5, l6] s h = rf d 284 1070 [l0, l1, l2, l3, some (.int x), l5, l6] (.int x :: s) h := rf_pure (i := .iload 4) (len := 2) (okD_ok (by decide +kernel)) rfl
theorem e284_1070 : rf d 284 1070 ls s h = rf d 284 1071 ls (.int 1 :: s) h := rf_pure (i := .iconst (1)) (len := 1) (okD_ok (by decide +kernel)) rfl
theorem e284_1071 : rf d 284 1071 ls (.int y :: .int x :: s) h = rf d 284 1072 ls (.int (x + y) :: s) h := rf_pure (i := .iadd) (len := 1) (okD_ok (by decide +kernel)) rfl
theorem e284_1072 (q : inb j n) : rf d 284 1072 ls (.int j :: .ref 0 :: s) (SH n, I, L, R, nc, ns, nx) = rf d 284 1073 ls (.int (I 0 j.toNatClampNeg) :: s) (SH n, I, L, R, nc, ns, nx) := g_sal (by decide +kernel) q
theorem e284_1073 : rf d 284 1073 [some (.ref a), l1, l2, l3, l4, l5, l6] s h = rf d 284 1074 [some (.ref a), l1, l2, l3, l4, l5, l6] (.ref a :: s) h := rf_pure (i := .aload_n 0) (len := 1) (okD_ok (by decide +kernel)) rfl
theorem e284_1074 : rf d 284 1074 [l0, l1, l2, l3, some (.int x), l5, l6] s h = rf d 284 1076 [l0, l1, l2, l3, some (.int x), l5, l6] (.int x :: s) h := rf_pure (i := .iload 4) (len := 2) (okD_ok (by decide +kernel)) rfl
theorem e284_1076 : rf d 284 1076 ls s h = rf d 284 1077 ls (.int 2 :: s) h := rf_pure (i := .iconst (2)) (len := 1) (okD_ok (by decide +kernel)) rfl
theorem e284_1077 : rf d 284 1077 ls (.int y :: .int x :: s) h = rf d 284 1078 ls (.int (x + y) :: s) h := rf_pure (i := .iadd) (len := 1) (okD_ok (by decide +kernel)) rfl
theorem e284_1078 (q : inb j n) : rf d 284 1078 ls (.int j :: .ref 0 :: s) (SH n, I, L, R, nc, ns, nx) = rf d 284 1079 ls (.int (I 0 j.toNatClampNeg) :: s) (SH n, I, L, R, nc, ns, nx) := g_sal (by decide +kernel) q
theorem e284_1079 : rf d 284 1079 [some (.ref a), l1, l2, l3, l4, l5, l6] s h = rf d 284 1080 [some (.ref a), l1, l2, l3, l4, l5, l6] (.ref a :: s) h := rf_pure (i := .aload_n 0) (len := 1) (okD_ok (by decide +kernel)) rfl
theorem e284_1080 : rf d 284 1080 [l0, l1, l2, l3, some (.int x), l5, l6] s h = rf d 284 1082 [l0, l1, l2, l3, some (.int x), l5, l6] (.int x :: s) h := rf_pure (i := .iload 4) (len := 2) (okD_ok (by decide +kernel)) rfl
theorem e284_1082 : rf d 284 1082 ls s h = rf d 284 1083 ls (.int 3 :: s) h := rf_pure (i := .iconst (3)) (len := 1) (okD_ok (by decide +kernel)) rfl
theorem e284_1083 : rf d 284 1083 ls (.int y :: .int x :: s) h = rf d 284 1084 ls (.int (x + y) :: s) h := rf_pure (i := .iadd) (len := 1) (okD_ok (by decide +kernel)) rfl
theorem e284_1084 (q : inb j n) : rf d 284 1084 ls (.int j :: .ref 0 :: s) (SH n, I, L, R, nc, ns, nx) = rf d 284 1085 ls (.int (I 0 j.toNatClampNeg) :: s) (SH n, I, L, R, nc, ns, nx) := g_sal (by decide +kernel) q
theorem e284_1085 (hcat : ip_cat s ≤ 8) : rf (d + 1) 284 1085 ls (.int x2 :: .int x1 :: .int x0 :: .ref 265 :: s) (SH n, I, L, R, nc, ns, nx) = rf_k (d + 1) 284 1085 ls s (cf d 245 [.ref 265, .int x0, .int x1, .int x2] (SH n, I, L, R, nc, ns, nx)) := g_cv (idx := 175) (t := 8) [.int x2, .int x1, .int x0] (by decide +kernel) ow284 ms_9_175 mt_9_175 cy245_8 rfl rfl mL245 rfl rfl (by decide) hcat
theorem e284_1088 (hn : ip_nl l5 = true) : rf d 284 1088 [l0, l1, l2, l3, l4, l5, l6] (.int x :: s) h = rf d 284 1090 [l0, l1, l2, l3, l4, l5, some (.int x)] s h := g_sti (i := .istore 6) (len := 2) (q := 5) (p := 2) (by decide +kernel) rfl rfl hn
theorem e284_1090 : rf d 284 1090 [l0, l1, some (.ref a), l3, l4, l5, l6] s h = rf d 284 1091 [l0, l1, some (.ref a), l3, l4, l5, l6] (.ref a :: s) h := rf_pure (i := .aload_n 2) (len := 1) (okD_ok (by decide +kernel)) rfl
theorem e284_1091 (hcat : ip_cat s ≤ 8) : rf (d + 1) 284 1091 ls (.ref 265 :: s) (SH n, I, L, R, nc, ns, nx) = rf_k (d + 1) 284 1091 ls s (cf d 189 [.ref 265] (SH n, I, L, R, nc, ns, nx)) := g_cv (idx := 133) (t := 8) [] (by decide +kernel) ow284 ms_9_133 mt_9_133 cy189_8 rfl rfl mL189 rfl rfl (by decide) hcat
theorem e284_1094 : rf d 284 1094 [l0, l1, l2, l3, l4, some (.int x), l6] s h = rf d 284 1096 [l0, l1, l2, l3, l4, some (.int x), l6] (.int x :: s) h := rf_pure (i := .iload 5) (len := 2) (okD_ok (by decide +kernel)) rfl
theorem e284_1096 : rf d 284 1096 ls (.int y :: .int x :: s) h = if x = y then rf d 284 1101 ls s h else rf d 284 1099 ls s h := g_ic (c := .eq) (off := 5) _ (by decide +kernel) rfl cmp_d
theorem e284_1099 : rf d 284 1099 ls s h = rf d 284 1100 ls (.int 0 :: s) h := rf_pure (i := .iconst (0)) (len := 1) (okD_ok (by decide +kernel)) rfl
theorem e284_1100 (hx : x = 0 ∨ x = 1) : rf d 284 1100 ls [.int x] h = some (.inl (some (.int x)), h) := g_rz (by decide +kernel) rt284 hx
theorem e284_1101 : rf d 284 1101 [l0, l1, l2, l3, l4, some (.int x), l6] s h = rf d 284 1103 [l0, l1, l2, l3, l4, some (.int x), l6] (.int x :: s) h := rf_pure (i := .iload 5) (len := 2) (okD_ok (by decide +kernel)) rfl
theorem e284_1103 : rf d 284 1103 ls (.int x :: s) h = if ¬ x = 0 then rf d 284 1118 ls s h else rf d 284 1106 ls s h := g_if (c := .ne) (off := 15) _ (by decide +kernel) rfl cmp_d
theorem e284_1106 : rf d 284 1106 [l0, l1, l2, some (.ref a), l4, l5, l6] s h = rf d 284 1107 [l0, l1, l2, some (.ref a), l4, l5, l6] (.ref a :: s) h := rf_pure (i := .aload_n 3) (len := 1) (okD_ok (by decide +kernel)) rfl
theorem e284_1107 : rf d 284 1107 ls s h = rf d 284 1108 ls (.int 0 :: s) h := rf_pure (i := .iconst (0)) (len := 1) (okD_ok (by decide +kernel)) rfl
theorem e284_1108 (q : la n a j) : rf d 284 1108 ls (.int j :: .ref a :: s) (SH n, I, L, R, nc, ns, nx) = rf d 284 1109 ls (.long (L a j.toNatClampNeg) :: s) (SH n, I, L, R, nc, ns, nx) := g_lal (by decide +kernel) q
theorem e284_1109 : rf d 284 1109 [l0, l1, l2, l3, l4, l5, some (.int x)] s h = rf d 284 1111 [l0, l1, l2, l3, l4, l5, some (.int x)] (.int x :: s) h := rf_pure (i := .iload 6) (len := 2) (okD_ok (by decide +kernel)) rfl
theorem e284_1111 : rf d 284 1111 ls (.int x :: s) h = rf d 284 1112 ls (.long x.toInt64 :: s) h := rf_pure (i := .i2l) (len := 1) (okD_ok (by decide +kernel)) rfl
theorem e284_1112 : rf d 284 1112 ls (.long v :: .long u :: s) h = rf d 284 1113 ls (.int (lg_cmp u v) :: s) h := rf_pure (i := .lcmp) (len := 1) (okD_ok (by decide +kernel)) rfl
theorem e284_1113 : rf d 284 1113 ls (.int x :: s) h = if x = 0 then rf d 284 1118 ls s h else rf d 284 1116 ls s h := g_if (c := .eq) (off := 5) _ (by decide +kernel) rfl cmp_d
theorem e284_1116 : rf d 284 1116 ls s h = rf d 284 1117 ls (.int 0 :: s) h := rf_pure (i := .iconst (0)) (len := 1) (okD_ok (by decide +kernel)) rfl
theorem e284_1117 (hx : x = 0 ∨ x = 1) : rf d 284 1117 ls [.int x] h = some (.inl (some (.int x)), h) := g_rz (by decide +kernel) rt284 hx
theorem e284_1118 : rf d 284 1118 ls s h = rf d 284 2520 ls s h := rf_goto ⟨okD_ok (i := .goto (1402)) (len := 3) (by decide +kernel), rfl⟩
theorem e284_1121 : rf d 284 1121 [l0, some (.ref a), l2, l3, l4, l5, l6] s h = rf d 284 1122 [l0, some (.ref a), l2, l3, l4, l5, l6] (.ref a :: s) h := rf_pure (i := .aload_n 1) (len := 1) (okD_ok (by decide +kernel)) rfl
theorem e284_1122 : rf d 284 1122 [some (.ref a), l1, l2, l3, l4, l5, l6] s h = rf d 284 1123 [some (.ref a), l1, l2, l3, l4, l5, l6] (.ref a :: s) h := rf_pure (i := .aload_n 0) (len := 1) (okD_ok (by decide +kernel)) rfl
theorem e284_1123 : rf d 284 1123 [l0, l1, l2, l3, some (.int x), l5, l6] s h = rf d 284 1125 [l0, l1, l2, l3, some (.int x), l5, l6] (.int x :: s) h := rf_pure (i := .iload 4) (len := 2) (okD_ok (by decide +kernel)) rfl
theorem e284_1125 : rf d 284 1125 ls s h = rf d 284 1126 ls (.int 1 :: s) h := rf_pure (i := .iconst (1)) (len := 1) (okD_ok (by decide +kernel)) rfl
theorem e284_1126 : rf d 284 1126 ls (.int y :: .int x :: s) h = rf d 284 1127 ls (.int (x + y) :: s) h := rf_pure (i := .iadd) (len := 1) (okD_ok (by decide +kernel)) rfl
theorem e284_1127 (q : inb j n) : rf d 284 1127 ls (.int j :: .ref 0 :: s) (SH n, I, L, R, nc, ns, nx) = rf d 284 1128 ls (.int (I 0 j.toNatClampNeg) :: s) (SH n, I, L, R, nc, ns, nx) := g_sal (by decide +kernel) q
theorem e284_1128 : rf d 284 1128 [some (.ref a), l1, l2, l3, l4, l5, l6] s h = rf d 284 1129 [some (.ref a), l1, l2, l3, l4, l5, l6] (.ref a :: s) h := rf_pure (i := .aload_n 0) (len := 1) (okD_ok (by decide +kernel)) rfl
theorem e284_1129 : rf d 284 1129 [l0, l1, l2, l3, some (.int x), l5, l6] s h = rf d 284 1131 [l0, l1, l2, l3, some (.int x), l5, l6] (.int x :: s) h := rf_pure (i := .iload 4) (len := 2) (okD_ok (by decide +kernel)) rfl
theorem e284_1131 : rf d 284 1131 ls s h = rf d 284 1132 ls (.int 2 :: s) h := rf_pure (i := .iconst (2)) (len := 1) (okD_ok (by decide +kernel)) rfl
theorem e284_1132 : rf d 284 1132 ls (.int y :: .int x :: s) h = rf d 284 1133 ls (.int (x + y) :: s) h := rf_pure (i := .iadd) (len := 1) (okD_ok (by decide +kernel)) rfl
theorem e284_1133 (q : inb j n) : rf d 284 1133 ls (.int j :: .ref 0 :: s) (SH n, I, L, R, nc, ns, nx) = rf d 284 1134 ls (.int (I 0 j.toNatClampNeg) :: s) (SH n, I, L, R, nc, ns, nx) := g_sal (by decide +kernel) q
theorem e284_1134 : rf d 284 1134 ls (.int x :: s) h = if x = 0 then rf d 284 1141 ls s h else rf d 284 1137 ls s h := g_if (c := .eq) (off := 7) _ (by decide +kernel) rfl cmp_d
theorem e284_1137 : rf d 284 1137 ls s h = rf d 284 1138 ls (.int 1 :: s) h := rf_pure (i := .iconst (1)) (len := 1) (okD_ok (by decide +kernel)) rfl
theorem e284_1138 : rf d 284 1138 ls s h = rf d 284 1142 ls s h := rf_goto ⟨okD_ok (i := .goto (4)) (len := 3) (by decide +kernel), rfl⟩
theorem e284_1141 : rf d 284 1141 ls s h = rf d 284 1142 ls (.int 0 :: s) h := rf_pure (i := .iconst (0)) (len := 1) (okD_ok (by decide +kernel)) rfl
theorem e284_1142 : rf d 284 1142 [l0, l1, l2, some (.ref a), l4, l5, l6] s h = rf d 284 1143 [l0, l1, l2, some (.ref a), l4, l5, l6] (.ref a :: s) h := rf_pure (i := .aload_n 3) (len := 1) (okD_ok (by decide +kernel)) rfl
theorem e284_1143 (hcat : ip_cat s ≤ 8) : rf (d + 1) 284 1143 ls (.ref a3 :: .int x2 :: .int x1 :: .ref a0 :: s) h = rf_k (d + 1) 284 1143 ls s (cf d 127 [.ref a0, .int x1, .int x2, .ref a3] h) := g_cs (idx := 176) [.ref a3, .int x2, .int x1, .ref a0] (by decide +kernel) ow284 ms_9_176 mt_9_176 (by decide) rfl mL127 rfl hcat
theorem e284_1146 (hn : ip_nl l4 = true) : rf d 284 1146 [l0, l1, l2, l3, l4, l5, l6] (.int x :: s) h = rf d 284 1148 [l0, l1, l2, l3, l4, some (.int x), l6] s h := g_sti (i := .istore 5) (len := 2) (q := 4) (p := 2) (by decide +kernel) rfl rfl hn
theorem e284_1148 : rf d 284 1148 [l0, l1, some (.ref a), l3, l4, l5, l6] s h = rf d 284 1149 [l0, l1, some (.ref a), l3, l4, l5, l6] (.ref a :: s) h := rf_pure (i := .aload_n 2) (len := 1) (okD_ok (by decide +kernel)) rfl
theorem e284_1149 : rf d 284 1149 [some (.ref a), l1, l2, l3, l4, l5, l6] s h = rf d 284 1150 [some (.ref a), l1, l2, l3, l4, l5, l6] (.ref a :: s) h := rf_pure (i := .aload_n 0) (len := 1) (okD_ok (by decide +kernel)) rfl
theorem e284_1150 : rf d 284 1150 [l0, l1, l2, l3, some (.int x), l5, l6] s h = rf d 284 1152 [l0, l1, l2, l3, some (.int x), l5, l6] (.int x :: s) h := rf_pure (i := .iload 4) (len := 2) (okD_ok (by decide +kernel)) rfl
theorem e284_1152 : rf d 284 1152 ls s h = rf d 284 1153 ls (.int 1 :: s) h := rf_pure (i := .iconst (1)) (len := 1) (okD_ok (by decide +kernel)) rfl
theorem e284_1153 : rf d 284 1153 ls (.int y :: .int x :: s) h = rf d 284 1154 ls (.int (x + y) :: s) h := rf_pure (i := .iadd) (len := 1) (okD_ok (by decide +kernel)) rfl
theorem e284_1154 (q : inb j n) : rf d 284 1154 ls (.int j :: .ref 0 :: s) (SH n, I, L, R, nc, ns, nx) = rf d 284 1155 ls (.int (I 0 j.toNatClampNeg) :: s) (SH n, I, L, R, nc, ns, nx) := g_sal (by decide +kernel) q
theorem e284_1155 : rf d 284 1155 [some (.ref a), l1, l2, l3, l4, l5, l6] s h = rf d 284 1156 [some (.ref a), l1, l2, l3, l4, l5, l6] (.ref a :: s) h := rf_pure (i := .aload_n 0) (len := 1) (okD_ok (by decide +kernel)) rfl
theorem e284_1156 : rf d 284 1156 [l0, l1, l2, l3, some (.int x), l5, l6] s h = rf d 284 1158 [l0, l1, l2, l3, some (.int x), l5, l6] (.int x :: s) h := rf_pure (i := .iload 4) (len := 2) (okD_ok (by decide +kernel)) rfl
theorem e284_1158 : rf d 284 1158 ls s h = rf d 284 1159 ls (.int 2 :: s) h := rf_pure (i := .iconst (2)) (len := 1) (okD_ok (by decide +kernel)) rfl
theorem e284_1159 : rf d 284 1159 ls (.int y :: .int x :: s) h = rf d 284 1160 ls (.int (x + y) :: s) h := rf_pure (i := .iadd) (len := 1) (okD_ok (by decide +kernel)) rfl
theorem e284_1160 (q : inb j n) : rf d 284 1160 ls (.int j :: .ref 0 :: s) (SH n, I, L, R, nc, ns, nx) = rf d 284 1161 ls (.int (I 0 j.toNatClampNeg) :: s) (SH n, I, L, R, nc, ns, nx) := g_sal (by decide +kernel) q
theorem e284_1161 : rf d 284 1161 ls (.int x :: s) h = if x = 0 then rf d 284 1168 ls s h else rf d 284 1164 ls s h := g_if (c := .eq) (off := 7) _ (by decide +kernel) rfl cmp_d
theorem e284_1164 : rf d 284 1164 ls s h = rf d 284 1165 ls (.int 1 :: s) h := rf_pure (i := .iconst (1)) (len := 1) (okD_ok (by decide +kernel)) rfl
theorem e284_1165 : rf d 284 1165 ls s h = rf d 284 1169 ls s h := rf_goto ⟨okD_ok (i := .goto (4)) (len := 3) (by decide +kernel), rfl⟩
theorem e284_1168 : rf d 284 1168 ls s h = rf d 284 1169 ls (.int 0 :: s) h := rf_pure (i := .iconst (0)) (len := 1) (okD_ok (by decide +kernel)) rfl
theorem e284_1169 (hcat : ip_cat s ≤ 8) : rf (d + 1) 284 1169 ls (.int x1 :: .int x0 :: .ref 265 :: s) (SH n, I, L, R, nc, ns, nx) = rf_k (d + 1) 284 1169 ls s (cf d 248 [.ref 265, .int x0, .int x1] (SH n, I, L, R, nc, ns, nx)) := g_cv (idx := 179) (t := 8) [.int x1, .int x0] (by decide +kernel) ow284 ms_9_179 mt_9_179 cy248_8 rfl rfl mL248 rfl rfl (by decide) hcat
theorem e284_1172 (hn : ip_nl l5 = true) : rf d 284 1172 [l0, l1, l2, l3, l4, l5, l6] (.int x :: s) h = rf d 284 1174 [l0, l1, l2, l3, l4, l5, some (.int x)] s h := g_sti (i := .istore 6) (len := 2) (q := 5) (p := 2) (by decide +kernel) rfl rfl hn
theorem e284_1174 : rf d 284 1174 [l0, l1, some (.ref a), l3, l4, l5, l6] s h = rf d 284 1175 [l0, l1, some (.ref a), l3, l4, l5, l6] (.ref a :: s) h := rf_pure (i := .aload_n 2) (len := 1) (okD_ok (by decide +kernel)) rfl
theorem e284_1175 (hcat : ip_cat s ≤ 8) : rf (d + 1) 284 1175 ls (.ref 265 :: s) (SH n, I, L, R, nc, ns, nx) = rf_k (d + 1) 284 1175 ls s (cf d 189 [.ref 265] (SH n, I, L, R, nc, ns, nx)) := g_cv (idx := 133) (t := 8) [] (by decide +kernel) ow284 ms_9_133 mt_9_133 cy189_8 rfl rfl mL189 rfl rfl (by decide) hcat
theorem e284_1178 : rf d 284 1178 [l0, l1, l2, l3, l4, some (.int x), l6] s h = rf d 284 1180 [l0, l1, l2, l3, l4, some (.int x), l6] (.int x :: s) h := rf_pure (i := .iload 5) (len := 2) (okD_ok (by decide +kernel)) rfl
theorem e284_1180 : rf d 284 1180 ls (.int y :: .int x :: s) h = if x = y then rf d 284 1185 ls s h else rf d 284 1183 ls s h := g_ic (c := .eq) (off := 5) _ (by decide +kernel) rfl cmp_d
theorem e284_1183 : rf d 284 1183 ls s h = rf d 284 1184 ls (.int 0 :: s) h := rf_pure (i := .iconst (0)) (len := 1) (okD_ok (by decide +kernel)) rfl
theorem e284_1184 (hx : x = 0 ∨ x = 1) : rf d 284 1184 ls [.int x] h = some (.inl (some (.int x)), h) := g_rz (by decide +kernel) rt284 hx
theorem e284_1185 : rf d 284 1185 [l0, l1, l2, l3, l4, some (.int x), l6] s h = rf d 284 1187 [l0, l1, l2, l3, l4, some (.int x), l6] (.int x :: s) h := rf_pure (i := .iload 5) (len := 2) (okD_ok (by decide +kernel)) rfl
theorem e284_1187 : rf d 284 1187 ls (.int x :: s) h = if ¬ x = 0 then rf d 284 1202 ls s h else rf d 284 1190 ls s h := g_if (c := .ne) (off := 15) _ (by decide +kernel) rfl cmp_d
theorem e284_1190 : rf d 284 1190 [l0, l1, l2, some (.ref a), l4, l5, l6] s h = rf d 284 1191 [l0, l1, l2, some (.ref a), l4, l5, l6] (.ref a :: s) h := rf_pure (i := .aload_n 3) (len := 1) (okD_ok (by decide +kernel)) rfl
theorem e284_1191 : rf d 284 1191 ls s h = rf d 284 1192 ls (.int 0 :: s) h := rf_pure (i := .iconst (0)) (len := 1) (okD_ok (by decide +kernel)) rfl
theorem e284_1192 (q : la n a j) : rf d 284 1192 ls (.int j :: .ref a :: s) (SH n, I, L, R, nc, ns, nx) = rf d 284 1193 ls (.long (L a j.toNatClampNeg) :: s) (SH n, I, L, R, nc, ns, nx) := g_lal (by decide +kernel) q
theorem e284_1193 : rf d 284 1193 [l0, l1, l2, l3, l4, l5, some (.int x)] s h = rf d 284 1195 [l0, l1, l2, l3, l4, l5, some (.int x)] (.int x :: s) h := rf_pure (i := .iload 6) (len := 2) (okD_ok (by decide +kernel)) rfl
theorem e284_1195 : rf d 284 1195 ls (.int x :: s) h = rf d 284 1196 ls (.long x.toInt64 :: s) h := rf_pure (i := .i2l) (len := 1) (okD_ok (by decide +kernel)) rfl
theorem e284_1196 : rf d 284 1196 ls (.long v :: .long u :: s) h = rf d 284 1197 ls (.int (lg_cmp u v) :: s) h := rf_pure (i := .lcmp) (len := 1) (okD_ok (by decide +kernel)) rfl
theorem e284_1197 : rf d 284 1197 ls (.int x :: s) h = if x = 0 then rf d 284 1202 ls s h else rf d 284 1200 ls s h := g_if (c := .eq) (off := 5) _ (by decide +kernel) rfl cmp_d
theorem e284_1200 : rf d 284 1200 ls s h = rf d 284 1201 ls (.int 0 :: s) h := rf_pure (i := .iconst (0)) (len := 1) (okD_ok (by decide +kernel)) rfl
theorem e284_1201 (hx : x = 0 ∨ x = 1) : rf d 284 1201 ls [.int x] h = some (.inl (some (.int x)), h) := g_rz (by decide +kernel) rt284 hx
theorem e284_1202 : rf d 284 1202 ls s h = rf d 284 2520 ls s h := rf_goto ⟨okD_ok (i := .goto (1318)) (len := 3) (by decide +kernel), rfl⟩
theorem e284_1205 : rf d 284 1205 [l0, some (.ref a), l2, l3, l4, l5, l6] s h = rf d 284 1206 [l0, some (.ref a), l2, l3, l4, l5, l6] (.ref a :: s) h := rf_pure (i := .aload_n 1) (len := 1) (okD_ok (by decide +kernel)) rfl
theorem e284_1206 : rf d 284 1206 [some (.ref a), l1, l2, l3, l4, l5, l6] s h = rf d 284 1207 [some (.ref a), l1, l2, l3, l4, l5, l6] (.ref a :: s) h := rf_pure (i := .aload_n 0) (len := 1) (okD_ok (by decide +kernel)) rfl
theorem e284_1207 : rf d 284 1207 [l0, l1, l2, l3, some (.int x), l5, l6] s h = rf d 284 1209 [l0, l1, l2, l3, some (.int x), l5, l6] (.int x :: s) h := rf_pure (i := .iload 4) (len := 2) (okD_ok (by decide +kernel)) rfl
theorem e284_1209 : rf d 284 1209 ls s h = rf d 284 1210 ls (.int 1 :: s) h := rf_pure (i := .iconst (1)) (len := 1) (okD_ok (by decide +kernel)) rfl
theorem e284_1210 : rf d 284 1210 ls (.int y :: .int x :: s) h = rf d 284 1211 ls (.int (x + y) :: s) h := rf_pure (i := .iadd) (len := 1) (okD_ok (by decide +kernel)) rfl
theorem e284_1211 (q : inb j n) : rf d 284 1211 ls (.int j :: .ref 0 :: s) (SH n, I, L, R, nc, ns, nx) = rf d 284 1212 ls (.int (I 0 j.toNatClampNeg) :: s) (SH n, I, L, R, nc, ns, nx) := g_sal (by decide +kernel) q
theorem e284_1212 : rf d 284 1212 [some (.ref a), l1, l2, l3, l4, l5, l6] s h = rf d 284 1213 [some (.ref a), l1, l2, l3, l4, l5, l6] (.ref a :: s) h := rf_pure (i := .aload_n 0) (len := 1) (okD_ok (by decide +kernel)) rfl
theorem e284_1213 : rf d 284 1213 [l0, l1, l2, l3, some (.int x), l5, l6] s h = rf d 284 1215 [l0, l1, l2, l3, some (.int x), l5, l6] (.int x :: s) h := rf_pure (i := .iload 4) (len := 2) (okD_ok (by decide +kernel)) rfl
theorem e284_1215 : rf d 284 1215 ls s h = rf d 284 1216 ls (.int 2 :: s) h := rf_pure (i := .iconst (2)) (len := 1) (okD_ok (by decide +kernel)) rfl
theorem e284_1216 : rf d 284 1216 ls (.int y :: .int x :: s) h = rf d 284 1217 ls (.int (x + y) :: s) h := rf_pure (i := .iadd) (len := 1) (okD_ok (by decide +kernel)) rfl
theorem e284_1217 (q : inb j n) : rf d 284 1217 ls (.int j :: .ref 0 :: s) (SH n, I, L, R, nc, ns, nx) = rf d 284 1218 ls (.int (I 0 j.toNatClampNeg) :: s) (SH n, I, L, R, nc, ns, nx) := g_sal (by decide +kernel) q
theorem e284_1218 : rf d 284 1218 [l0, l1, l2, some (.ref a), l4, l5, l6] s h = rf d 284 1219 [l0, l1, l2, some (.ref a), l4, l5, l6] (.ref a :: s) h := rf_pure (i := .aload_n 3) (len := 1) (okD_ok (by decide +kernel)) rfl
theorem e284_1219 (hcat : ip_cat s ≤ 8) : rf (d + 1) 284 1219 ls (.ref a3 :: .int x2 :: .int x1 :: .ref a0 :: s) h = rf_k (d + 1) 284 1219 ls s (cf d 134 [.ref a0, .int x1, .int x2, .ref a3] h) := g_cs (idx := 180) [.ref a3, .int x2, .int x1, .ref a0] (by decide +kernel) ow284 ms_9_180 mt_9_180 (by decide) rfl mL134 rfl hcat
theorem e284_1222 (hn : ip_nl l4 = true) : rf d 284 1222 [l0, l1, l2, l3, l4, l5, l6] (.int x :: s) h = rf d 284 1224 [l0, l1, l2, l3, l4, some (.int x), l6] s h := g_sti (i := .istore 5) (len := 2) (q := 4) (p := 2) (by decide +kernel) rfl rfl hn
theorem e284_1224 : rf d 284 1224 [l0, l1, some (.ref a), l3, l4, l5, l6] s h = rf d 284 1225 [l0, l1, some (.ref a), l3, l4, l5, l6] (.ref a :: s) h := rf_pure (i := .aload_n 2) (len := 1) (okD_ok (by decide +kernel)) rfl
theorem e284_1225 : rf d 284 1225 [some (.ref a), l1, l2, l3, l4, l5, l6] s h = rf d 284 1226 [some (.ref a), l1, l2, l3, l4, l5, l6] (.ref a :: s) h := rf_pure (i := .aload_n 0) (len := 1) (okD_ok (by decide +kernel)) rfl
theorem e284_1226 : rf d 284 1226 [l0, l1, l2, l3, some (.int x), l5, l6] s h = rf d 284 1228 [l0, l1, l2, l3, some (.int x), l5, l6] (.int x :: s) h := rf_pure (i := .iload 4) (len := 2) (okD_ok (by decide +kernel)) rfl
theorem e284_1228 : rf d 284 1228 ls s h = rf d 284 1229 ls (.int 1 :: s) h := rf_pure (i := .iconst (1)) (len := 1) (okD_ok (by decide +kernel)) rfl
theorem e284_1229 : rf d 284 1229 ls (.int y :: .int x :: s) h = rf d 284 1230 ls (.int (x + y) :: s) h := rf_pure (i := .iadd) (len := 1) (okD_ok (by decide +kernel)) rfl
theorem e284_1230 (q : inb j n) : rf d 284 1230 ls (.int j :: .ref 0 :: s) (SH n, I, L, R, nc, ns, nx) = rf d 284 1231 ls (.int (I 0 j.toNatClampNeg) :: s) (SH n, I, L, R, nc, ns, nx) := g_sal (by decide +kernel) q
theorem e284_1231 : rf d 284 1231 [some (.ref a), l1, l2, l3, l4, l5, l6] s h = rf d 284 1232 [some (.ref a), l1, l2, l3, l4, l5, l6] (.ref a :: s) h := rf_pure (i := .aload_n 0) (len := 1) (okD_ok (by decide +kernel)) rfl
theorem e284_1232 : rf d 284 1232 [l0, l1, l2, l3, some (.int x), l5, l6] s h = rf d 284 1234 [l0, l1, l2, l3, some (.int x), l5, l6] (.int x :: s) h := rf_pure (i := .iload 4) (len := 2) (okD_ok (by decide +kernel)) rfl
theorem e284_1234 : rf d 284 1234 ls s h = rf d 284 1235 ls (.int 2 :: s) h := rf_pure (i := .iconst (2)) (len := 1) (okD_ok (by decide +kernel)) rfl
theorem e284_1235 : rf d 284 1235 ls (.int y :: .int x :: s) h = rf d 284 1236 ls (.int (x + y) :: s) h := rf_pure (i := .iadd) (len := 1) (okD_ok (by decide +kernel)) rfl
theorem e284_1236 (q : inb j n) : rf d 284 1236 ls (.int j :: .ref 0 :: s) (SH n, I, L, R, nc, ns, nx) = rf d 284 1237 ls (.int (I 0 j.toNatClampNeg) :: s) (SH n, I, L, R, nc, ns, nx) := g_sal (by decide +kernel) q
theorem e284_1237 (hcat : ip_cat s ≤ 8) : rf (d + 1) 284 1237 ls (.int x1 :: .int x0 :: .ref 265 :: s) (SH n, I, L, R, nc, ns, nx) = rf_k (d + 1) 284 1237 ls s (cf d 251 [.ref 265, .int x0, .int x1] (SH n, I, L, R, nc, ns, nx)) := g_cv (idx := 182) (t := 8) [.int x1, .int x0] (by decide +kernel) ow284 ms_9_182 mt_9_182 cy251_8 rfl rfl mL251 rfl rfl (by decide) hcat
theorem e284_1240 (hn : ip_nl l5 = true) : rf d 284 1240 [l0, l1, l2, l3, l4, l5, l6] (.int x :: s) h = rf d 284 1242 [l0, l1, l2, l3, l4, l5, some (.int x)] s h := g_sti (i := .istore 6) (len := 2) (q := 5) (p := 2) (by decide +kernel) rfl rfl hn
theorem e284_1242 : rf d 284 1242 [l0, l1, some (.ref a), l3, l4, l5, l6] s h = rf d 284 1243 [l0, l1, some (.ref a), l3, l4, l5, l6] (.ref a :: s) h := rf_pure (i := .aload_n 2) (len := 1) (okD_ok (by decide +kernel)) rfl
theorem e284_1243 (hcat : ip_cat s ≤ 8) : rf (d + 1) 284 1243 ls (.ref 265 :: s) (SH n, I, L, R, nc, ns, nx) = rf_k (d + 1) 284 1243 ls s (cf d 189 [.ref 265] (SH n, I, L, R, nc, ns, nx)) := g_cv (idx := 133) (t := 8) [] (by decide +kernel) ow284 ms_9_133 mt_9_133 cy189_8 rfl rfl mL189 rfl rfl (by decide) hcat
theorem e284_1246 : rf d 284 1246 [l0, l1, l2, l3, l4, some (.int x), l6] s h = rf d 284 1248 [l0, l1, l2, l3, l4, some (.int x), l6] (.int x :: s) h := rf_pure (i := .iload 5) (len := 2) (okD_ok (by decide +kernel)) rfl
theorem e284_1248 : rf d 284 1248 ls (.int y :: .int x :: s) h = if x = y then rf d 284 1253 ls s h else rf d 284 1251 ls s h := g_ic (c := .eq) (off := 5) _ (by decide +kernel) rfl cmp_d
theorem e284_1251 : rf d 284 1251 ls s h = rf d 284 1252 ls (.int 0 :: s) h := rf_pure (i := .iconst (0)) (len := 1) (okD_ok (by decide +kernel)) rfl
theorem e284_1252 (hx : x = 0 ∨ x = 1) : rf d 284 1252 ls [.int x] h = some (.inl (some (.int x)), h) := g_rz (by decide +kernel) rt284 hx
theorem e284_1253 : rf d 284 1253 [l0, l1, l2, l3, l4, some (.int x), l6] s h = rf d 284 1255 [l0, l1, l2, l3, l4, some (.int x), l6] (.int x :: s) h := rf_pure (i := .iload 5) (len := 2) (okD_ok (by decide +kernel)) rfl
theorem e284_1255 : rf d 284 1255 ls (.int x :: s) h = if ¬ x = 0 then rf d 284 1270 ls s h else rf d 284 1258 ls s h := g_if (c := .ne) (off := 15) _ (by decide +kernel) rfl cmp_d
theorem e284_1258 : rf d 284 1258 [l0, l1, l2, some (.ref a), l4, l5, l6] s h = rf d 284 1259 [l0, l1, l2, some (.ref a), l4, l5, l6] (.ref a :: s) h := rf_pure (i := .aload_n 3) (len := 1) (okD_ok (by decide +kernel)) rfl
theorem e284_1259 : rf d 284 1259 ls s h = rf d 284 1260 ls (.int 0 :: s) h := rf_pure (i := .iconst (0)) (len := 1) (okD_ok (by decide +kernel)) rfl
theorem e284_1260 (q : la n a j) : rf d 284 1260 ls (.int j :: .ref a :: s) (SH n, I, L, R, nc, ns, nx) = rf d 284 1261 ls (.long (L a j.toNatClampNeg) :: s) (SH n, I, L, R, nc, ns, nx) := g_lal (by decide +kernel) q
theorem e284_1261 : rf d 284 1261 [l0, l1, l2, l3, l4, l5, some (.int x)] s h = rf d 284 1263 [l0, l1, l2, l3, l4, l5, some (.int x)] (.int x :: s) h := rf_pure (i := .iload 6) (len := 2) (okD_ok (by decide +kernel)) rfl
theorem e284_1263 : rf d 284 1263 ls (.int x :: s) h = rf d 284 1264 ls (.long x.toInt64 :: s) h := rf_pure (i := .i2l) (len := 1) (okD_ok (by decide +kernel)) rfl
theorem e284_1264 : rf d 284 1264 ls (.long v :: .long u :: s) h = rf d 284 1265 ls (.int (lg_cmp u v) :: s) h := rf_pure (i := .lcmp) (len := 1) (okD_ok (by decide +kernel)) rfl
theorem e284_1265 : rf d 284 1265 ls (.int x :: s) h = if x = 0 then rf d 284 1270 ls s h else rf d 284 1268 ls s h := g_if (c := .eq) (off := 5) _ (by decide +kernel) rfl cmp_d
theorem e284_1268 : rf d 284 1268 ls s h = rf d 284 1269 ls (.int 0 :: s) h := rf_pure (i := .iconst (0)) (len := 1) (okD_ok (by decide +kernel)) rfl
theorem e284_1269 (hx : x = 0 ∨ x = 1) : rf d 284 1269 ls [.int x] h = some (.inl (some (.int x)), h) := g_rz (by decide +kernel) rt284 hx
theorem e284_1270 : rf d 284 1270 ls s h = rf d 284 2520 ls s h := rf_goto ⟨okD_ok (i := .goto (1250)) (len := 3) (by decide +kernel), rfl⟩
theorem e284_1273 : rf d 284 1273 [l0, some (.ref a), l2, l3, l4, l5, l6] s h = rf d 284 1274 [l0, some (.ref a), l2, l3, l4, l5, l6] (.ref a :: s) h := rf_pure (i := .aload_n 1) (len := 1) (okD_ok (by decide +kernel)) rfl
theorem e284_1274 : rf d 284 1274 [some (.ref a), l1, l2, l3, l4, l5, l6] s h = rf d 284 1275 [some (.ref a), l1, l2, l3, l4, l5, l6] (.ref a :: s) h := rf_pure (i := .aload_n 0) (len := 1) (okD_ok (by decide +kernel)) rfl
theorem e284_1275 : rf d 284 1275 [l0, l1, l2, l3, some (.int x), l5, l6] s h = rf d 284 1277 [l0, l1, l2, l3, some (.int x), l5, l6] (.int x :: s) h := rf_pure (i := .iload 4) (len := 2) (okD_ok (by decide +kernel)) rfl
theorem e284_1277 : rf d 284 1277 ls s h = rf d 284 1278 ls (.int 1 :: s) h := rf_pure (i := .iconst (1)) (len := 1) (okD_ok (by decide +kernel)) rfl
theorem e284_1278 : rf d 284 1278 ls (.int y :: .int x :: s) h = rf d 284 1279 ls (.int (x + y) :: s) h := rf_pure (i := .iadd) (len := 1) (okD_ok (by decide +kernel)) rfl
theorem e284_1279 (q : inb j n) : rf d 284 1279 ls (.int j :: .ref 0 :: s) (SH n, I, L, R, nc, ns, nx) = rf d 284 1280 ls (.int (I 0 j.toNatClampNeg) :: s) (SH n, I, L, R, nc, ns, nx) := g_sal (by decide +kernel) q
theorem e284_1280 : rf d 284 1280 [some (.ref a), l1, l2, l3, l4, l5, l6] s h = rf d 284 1281 [some (.ref a), l1, l2, l3, l4, l5, l6] (.ref a :: s) h := rf_pure (i := .aload_n 0) (len := 1) (okD_ok (by decide +kernel)) rfl
theorem e284_1281 : rf d 284 1281 [l0, l1, l2, l3, some (.int x), l5, l6] s h = rf d 284 1283 [l0, l1, l2, l3, some (.int x), l5, l6] (.int x :: s) h := rf_pure (i := .iload 4) (len := 2) (okD_ok (by decide +kernel)) rfl
theorem e284_1283 : rf d 284 1283 ls s h = rf d 284 1284 ls (.int 2 :: s) h := rf_pure (i := .iconst (2)) (len := 1) (okD_ok (by decide +kernel)) rfl
theorem e284_1284 : rf d 284 1284 ls (.int y :: .int x :: s) h = rf d 284 1285 ls (.int (x + y) :: s) h := rf_pure (i := .iadd) (len := 1) (okD_ok (by decide +kernel)) rfl
theorem e284_1285 (q : inb j n) : rf d 284 1285 ls (.int j :: .ref 0 :: s) (SH n, I, L, R, nc, ns, nx) = rf d 284 1286 ls (.int (I 0 j.toNatClampNeg) :: s) (SH n, I, L, R, nc, ns, nx) := g_sal (by decide +kernel) q
theorem e284_1286 : rf d 284 1286 ls (.int x :: s) h = if x = 0 then rf d 284 1293 ls s h else rf d 284 1289 ls s h := g_if (c := .eq) (off := 7) _ (by decide +kernel) rfl cmp_d
theorem e284_1289 : rf d 284 1289 ls s h = rf d 284 1290 ls (.int 1 :: s) h := rf_pure (i := .iconst (1)) (len := 1) (okD_ok (by decide +kernel)) rfl
theorem e284_1290 : rf d 284 1290 ls s h = rf d 284 1294 ls s h := rf_goto ⟨okD_ok (i := .goto (4)) (len := 3) (by decide +kernel), rfl⟩
theorem e284_1293 : rf d 284 1293 ls s h = rf d 284 1294 ls (.int 0 :: s) h := rf_pure (i := .iconst (0)) (len := 1) (okD_ok (by decide +kernel)) rfl
theorem e284_1294 : rf d 284 1294 [l0, l1, l2, some (.ref a), l4, l5, l6] s h = rf d 284 1295 [l0, l1, l2, some (.ref a), l4, l5, l6] (.ref a :: s) h := rf_pure (i := .aload_n 3) (len := 1) (okD_ok (by decide +kernel)) rfl
theorem e284_1295 (hcat : ip_cat s ≤ 8) : rf (d + 1) 284 1295 ls (.ref a3 :: .int x2 :: .int x1 :: .ref a0 :: s) h = rf_k (d + 1) 284 1295 ls s (cf d 136 [.ref a0, .int x1, .int x2, .ref a3] h) := g_cs (idx := 183) [.ref a3, .int x2, .int x1, .ref a0] (by decide +kernel) ow284 ms_9_183 mt_9_183 (by decide) rfl mL136 rfl hcat
theorem e284_1298 (hn : ip_nl l4 = true) : rf d 284 1298 [l0, l1, l2, l3, l4, l5, l6] (.int x :: s) h = rf d 284 1300 [l0, l1, l2, l3, l4, some (.int x), l6] s h := g_sti (i := .istore 5) (len := 2) (q := 4) (p := 2) (by decide +kernel) rfl rfl hn
theorem e284_1300 : rf d 284 1300 [l0, l1, some (.ref a), l3, l4, l5, l6] s h = rf d 284 1301 [l0, l1, some (.ref a), l3, l4, l5, l6] (.ref a :: s) h := rf_pure (i := .aload_n 2) (len := 1) (okD_ok (by decide +kernel)) rfl
theorem e284_1301 : rf d 284 1301 [some (.ref a), l1, l2, l3, l4, l5, l6] s h = rf d 284 1302 [some (.ref a), l1, l2, l3, l4, l5, l6] (.ref a :: s) h := rf_pure (i := .aload_n 0) (len := 1) (okD_ok (by decide +kernel)) rfl
theorem e284_1302 : rf d 284 1302 [l0, l1, l2, l3, some (.int x), l5, l6] s h = rf d 284 1304 [l0, l1, l2, l3, some (.int x), l5, l6] (.int x :: s) h := rf_pure (i := .iload 4) (len := 2) (okD_ok (by decide +kernel)) rfl
theorem e284_1304 : rf d 284 1304 ls s h = rf d 284 1305 ls (.int 1 :: s) h := rf_pure (i := .iconst (1)) (len := 1) (okD_ok (by decide +kernel)) rfl
theorem e284_1305 : rf d 284 1305 ls (.int y :: .int x :: s) h = rf d 284 1306 ls (.int (x + y) :: s) h := rf_pure (i := .iadd) (len := 1) (okD_ok (by decide +kernel)) rfl
theorem e284_1306 (q : inb j n) : rf d 284 1306 ls (.int j :: .ref 0 :: s) (SH n, I, L, R, nc, ns, nx) = rf d 284 1307 ls (.int (I 0 j.toNatClampNeg) :: s) (SH n, I, L, R, nc, ns, nx) := g_sal (by decide +kernel) q
theorem e284_1307 : rf d 284 1307 [some (.ref a), l1, l2, l3, l4, l5, l6] s h = rf d 284 1308 [some (.ref a), l1, l2, l3, l4, l5, l6] (.ref a :: s) h := rf_pure (i := .aload_n 0) (len := 1) (okD_ok (by decide +kernel)) rfl
theorem e284_1308 : rf d 284 1308 [l0, l1, l2, l3, some (.int x), l5, l6] s h = rf d 284 1310 [l0, l1, l2, l3, some (.int x), l5, l6] (.int x :: s) h := rf_pure (i := .iload 4) (len := 2) (okD_ok (by decide +kernel)) rfl
theorem e284_1310 : rf d 284 1310 ls s h = rf d 284 1311 ls (.int 2 :: s) h := rf_pure (i := .iconst (2)) (len := 1) (okD_ok (by decide +kernel)) rfl
theorem e284_1311 : rf d 284 1311 ls (.int y :: .int x :: s) h = rf d 284 1312 ls (.int (x + y) :: s) h := rf_pure (i := .iadd) (len := 1) (okD_ok (by decide +kernel)) rfl
theorem e284_1312 (q : inb j n) : rf d 284 1312 ls (.int j :: .ref 0 :: s) (SH n, I, L, R, nc, ns, nx) = rf d 284 1313 ls (.int (I 0 j.toNatClampNeg) :: s) (SH n, I, L, R, nc, ns, nx) := g_sal (by decide +kernel) q
theorem e284_1313 : rf d 284 1313 ls (.int x :: s) h = if x = 0 then rf d 284 1320 ls s h else rf d 284 1316 ls s h := g_if (c := .eq) (off := 7) _ (by decide +kernel) rfl cmp_d
theorem e284_1316 : rf d 284 1316 ls s h = rf d 284 1317 ls (.int 1 :: s) h := rf_pure (i := .iconst (1)) (len := 1) (okD_ok (by decide +kernel)) rfl
theorem e284_1317 : rf d 284 1317 ls s h = rf d 284 1321 ls s h := rf_goto ⟨okD_ok (i := .goto (4)) (len := 3) (by decide +kernel), rfl⟩
theorem e284_1320 : rf d 284 1320 ls s h = rf d 284 1321 ls (.int 0 :: s) h := rf_pure (i := .iconst (0)) (len := 1) (okD_ok (by decide +kernel)) rfl
theorem e284_1321 (hcat : ip_cat s ≤ 8) : rf (d + 1) 284 1321 ls (.int x1 :: .int x0 :: .ref 265 :: s) (SH n, I, L, R, nc, ns, nx) = rf_k (d + 1) 284 1321 ls s (cf d 252 [.ref 265, .int x0, .int x1] (SH n, I, L, R, nc, ns, nx)) := g_cv (idx := 185) (t := 8) [.int x1, .int x0] (by decide +kernel) ow284 ms_9_185 mt_9_185 cy252_8 rfl rfl mL252 rfl rfl (by decide) hcat
theorem e284_1324 (hn : ip_nl l5 = true) : rf d 284 1324 [l0, l1, l2, l3, l4, l5, l6] (.int x :: s) h = rf d 284 1326 [l0, l1, l2, l3, l4, l5, some (.int x)] s h := g_sti (i := .istore 6) (len := 2) (q := 5) (p := 2) (by decide +kernel) rfl rfl hn
theorem e284_1326 : rf d 284 1326 [l0, l1, some (.ref a), l3, l4, l5, l6] s h = rf d 284 1327 [l0, l1, some (.ref a), l3, l4, l5, l6] (.ref a :: s) h := rf_pure (i := .aload_n 2) (len := 1) (okD_ok (by decide +kernel)) rfl
theorem e284_1327 (hcat : ip_cat s ≤ 8) : rf (d + 1) 284 1327 ls (.ref 265 :: s) (SH n, I, L, R, nc, ns, nx) = rf_k (d + 1) 284 1327 ls s (cf d 189 [.ref 265] (SH n, I, L, R, nc, ns, nx)) := g_cv (idx := 133) (t := 8) [] (by decide +kernel) ow284 ms_9_133 mt_9_133 cy189_8 rfl rfl mL189 rfl rfl (by decide) hcat
theorem e284_1330 : rf d 284 1330 [l0, l1, l2, l3, l4, some (.int x), l6] s h = rf d 284 1332 [l0, l1, l2, l3, l4, some (.int x), l6] (.int x :: s) h := rf_pure (i := .iload 5) (len := 2) (okD_ok (by decide +kernel)) rfl
theorem e284_1332 : rf d 284 1332 ls (.int y :: .int x :: s) h = if x = y then rf d 284 1337 ls s h else rf d 284 1335 ls s h := g_ic (c := .eq) (off := 5) _ (by decide +kernel) rfl cmp_d
theorem e284_1335 : rf d 284 1335 ls s h = rf d 284 1336 ls (.int 0 :: s) h := rf_pure (i := .iconst (0)) (len := 1) (okD_ok (by decide +kernel)) rfl
theorem e284_1336 (hx : x = 0 ∨ x = 1) : rf d 284 1336 ls [.int x] h = some (.inl (some (.int x)), h) := g_rz (by decide +kernel) rt284 hx
theorem e284_1337 : rf d 284 1337 [l0, l1, l2, l3, l4, some (.int x), l6] s h = rf d 284 1339 [l0, l1, l2, l3, l4, some (.int x), l6] (.int x :: s) h := rf_pure (i := .iload 5) (len := 2) (okD_ok (by decide +kernel)) rfl
theorem e284_1339 : rf d 284 1339 ls (.int x :: s) h = if ¬ x = 0 then rf d 284 1354 ls s h else rf d 284 1342 ls s h := g_if (c := .ne) (off := 15) _ (by decide +kernel) rfl cmp_d
theorem e284_1342 : rf d 284 1342 [l0, l1, l2, some (.ref a), l4, l5, l6] s h = rf d 284 1343 [l0, l1, l2, some (.ref a), l4, l5, l6] (.ref a :: s) h := rf_pure (i := .aload_n 3) (len := 1) (okD_ok (by decide +kernel)) rfl
theorem e284_1343 : rf d 284 1343 ls s h = rf d 284 1344 ls (.int 0 :: s) h := rf_pure (i := .iconst (0)) (len := 1) (okD_ok (by decide +kernel)) rfl
theorem e284_1344 (q : la n a j) : rf d 284 1344 ls (.int j :: .ref a :: s) (SH n, I, L, R, nc, ns, nx) = rf d 284 1345 ls (.long (L a j.toNatClampNeg) :: s) (SH n, I, L, R, nc, ns, nx) := g_lal (by decide +kernel) q
theorem e284_1345 : rf d 284 1345 [l0, l1, l2, l3, l4, l5, some (.int x)] s h = rf d 284 1347 [l0, l1, l2, l3, l4, l5, some (.int x)] (.int x :: s) h := rf_pure (i := .iload 6) (len := 2) (okD_ok (by decide +kernel)) rfl
theorem e284_1347 : rf d 284 1347 ls (.int x :: s) h = rf d 284 1348 ls (.long x.toInt64 :: s) h := rf_pure (i := .i2l) (len := 1) (okD_ok (by decide +kernel)) rfl
theorem e284_1348 : rf d 284 1348 ls (.long v :: .long u :: s) h = rf d 284 1349 ls (.int (lg_cmp u v) :: s) h := rf_pure (i := .lcmp) (len := 1) (okD_ok (by decide +kernel)) rfl
theorem e284_1349 : rf d 284 1349 ls (.int x :: s) h = if x = 0 then rf d 284 1354 ls s h else rf d 284 1352 ls s h := g_if (c := .eq) (off := 5) _ (by decide +kernel) rfl cmp_d
theorem e284_1352 : rf d 284 1352 ls s h = rf d 284 1353 ls (.int 0 :: s) h := rf_pure (i := .iconst (0)) (len := 1) (okD_ok (by decide +kernel)) rfl
theorem e284_1353 (hx : x = 0 ∨ x = 1) : rf d 284 1353 ls [.int x] h = some (.inl (some (.int x)), h) := g_rz (by decide +kernel) rt284 hx
theorem e284_1354 : rf d 284 1354 ls s h = rf d 284 2520 ls s h := rf_goto ⟨okD_ok (i := .goto (1166)) (len := 3) (by decide +kernel), rfl⟩
theorem e284_1357 : rf d 284 1357 [l0, some (.ref a), l2, l3, l4, l5, l6] s h = rf d 284 1358 [l0, some (.ref a), l2, l3, l4, l5, l6] (.ref a :: s) h := rf_pure (i := .aload_n 1) (len := 1) (okD_ok (by decide +kernel)) rfl
theorem e284_1358 : rf d 284 1358 [some (.ref a), l1, l2, l3, l4, l5, l6] s h = rf d 284 1359 [some (.ref a), l1, l2, l3, l4, l5, l6] (.ref a :: s) h := rf_pure (i := .aload_n 0) (len := 1) (okD_ok (by decide +kernel)) rfl
theorem e284_1359 : rf d 284 1359 [l0, l1, l2, l3, some (.int x), l5, l6] s h = rf d 284 1361 [l0, l1, l2, l3, some (.int x), l5, l6] (.int x :: s) h := rf_pure (i := .iload 4) (len := 2) (okD_ok (by decide +kernel)) rfl
theorem e284_1361 : rf d 284 1361 ls s h = rf d 284 1362 ls (.int 1 :: s) h := rf_pure (i := .iconst (1)) (len := 1) (okD_ok (by decide +kernel)) rfl
theorem e284_1362 : rf d 284 1362 ls (.int y :: .int x :: s) h = rf d 284 1363 ls (.int (x + y) :: s) h := rf_pure (i := .iadd) (len := 1) (okD_ok (by decide +kernel)) rfl
theorem e284_1363 (q : inb j n) : rf d 284 1363 ls (.int j :: .ref 0 :: s) (SH n, I, L, R, nc, ns, nx) = rf d 284 1364 ls (.int (I 0 j.toNatClampNeg) :: s) (SH n, I, L, R, nc, ns, nx) := g_sal (by decide +kernel) q
theorem e284_1364 : rf d 284 1364 [l0, l1, l2, some (.ref a), l4, l5, l6] s h = rf d 284 1365 [l0, l1, l2, some (.ref a), l4, l5, l6] (.ref a :: s) h := rf_pure (i := .aload_n 3) (len := 1) (okD_ok (by decide +kernel)) rfl
theorem e284_1365 (hcat : ip_cat s ≤ 8) : rf (d + 1) 284 1365 ls (.ref a2 :: .int x1 :: .ref a0 :: s) h = rf_k (d + 1) 284 1365 ls s (cf d 138 [.ref a0, .int x1, .ref a2] h) := g_cs (idx := 186) [.ref a2, .int x1, .ref a0] (by decide +kernel) ow284 ms_9_186 mt_9_186 (by decide) rfl mL138 rfl hcat
theorem e284_1368 (hn : ip_nl l4 = true) : rf d 284 1368 [l0, l1, l2, l3, l4, l5, l6] (.int x :: s) h = rf d 284 1370 [l0, l1, l2, l3, l4, some (.int x), l6] s h := g_sti (i := .istore 5) (len := 2) (q := 4) (p := 2) (by decide +kernel) rfl rfl hn
theorem e284_1370 : rf d 284 1370 [l0, l1, some (.ref a), l3, l4, l5, l6] s h = rf d 284 1371 [l0, l1, some (.ref a), l3, l4, l5, l6] (.ref a :: s) h := rf_pure (i := .aload_n 2) (len := 1) (okD_ok (by decide +kernel)) rfl
theorem e284_1371 : rf d 284 1371 [some (.ref a), l1, l2, l3, l4, l5, l6] s h = rf d 284 1372 [some (.ref a), l1, l2, l3, l4, l5, l6] (.ref a :: s) h := rf_pure (i := .aload_n 0) (len := 1) (okD_ok (by decide +kernel)) rfl
theorem e284_1372 : rf d 284 1372 [l0, l1, l2, l3, some (.int x), l5, l6] s h = rf d 284 1374 [l0, l1, l2, l3, some (.int x), l5, l6] (.int x :: s) h := rf_pure (i := .iload 4) (len := 2) (okD_ok (by decide +kernel)) rfl
theorem e284_1374 : rf d 284 1374 ls s h = rf d 284 1375 ls (.int 1 :: s) h := rf_pure (i := .iconst (1)) (len := 1) (okD_ok (by decide +kernel)) rfl
theorem e284_1375 : rf d 284 1375 ls (.int y :: .int x :: s) h = rf d 284 1376 ls (.int (x + y) :: s) h := rf_pure (i := .iadd) (len := 1) (okD_ok (by decide +kernel)) rfl
theorem e284_1376 (q : inb j n) : rf d 284 1376 ls (.int j :: .ref 0 :: s) (SH n, I, L, R, nc, ns, nx) = rf d 284 1377 ls (.int (I 0 j.toNatClampNeg) :: s) (SH n, I, L, R, nc, ns, nx) := g_sal (by decide +kernel) q
theorem e284_1377 (hcat : ip_cat s ≤ 8) : rf (d + 1) 284 1377 ls (.int x0 :: .ref 265 :: s) (SH n, I, L, R, nc, ns, nx) = rf_k (d + 1) 284 1377 ls s (cf d 246 [.ref 265, .int x0] (SH n, I, L, R, nc, ns, nx)) := g_cv (idx := 188) (t := 8) [.int x0] (by decide +kernel) ow284 ms_9_188 mt_9_188 cy246_8 rfl rfl mL246 rfl rfl (by decide) hcat
theorem e284_1380 (hn : ip_nl l5 = true) : rf d 284 1380 [l0, l1, l2, l3, l4, l5, l6] (.int x :: s) h = rf d 284 1382 [l0, l1, l2, l3, l4, l5, some (.int x)] s h := g_sti (i := .istore 6) (len := 2) (q := 5) (p := 2) (by decide +kernel) rfl rfl hn
theorem e284_1382 : rf d 284 1382 [l0, l1, some (.ref a), l3, l4, l5, l6] s h = rf d 284 1383 [l0, l1, some (.ref a), l3, l4, l5, l6] (.ref a :: s) h := rf_pure (i := .aload_n 2) (len := 1) (okD_ok (by decide +kernel)) rfl
theorem e284_1383 (hcat : ip_cat s ≤ 8) : rf (d + 1) 284 1383 ls (.ref 265 :: s) (SH n, I, L, R, nc, ns, nx) = rf_k (d + 1) 284 1383 ls s (cf d 189 [.ref 265] (SH n, I, L, R, nc, ns, nx)) := g_cv (idx := 133) (t := 8) [] (by decide +kernel) ow284 ms_9_133 mt_9_133 cy189_8 rfl rfl mL189 rfl rfl (by decide) hcat
theorem e284_1386 : rf d 284 1386 [l0, l1, l2, l3, l4, some (.int x), l6] s h = rf d 284 1388 [l0, l1, l2, l3, l4, some (.int x), l6] (.int x :: s) h := rf_pure (i := .iload 5) (len := 2) (okD_ok (by decide +kernel)) rfl
theorem e284_1388 : rf d 284 1388 ls (.int y :: .int x :: s) h = if x = y then rf d 284 1393 ls s h else rf d 284 1391 ls s h := g_ic (c := .eq) (off := 5) _ (by decide +kernel) rfl cmp_d
theorem e284_1391 : rf d 284 1391 ls s h = rf d 284 1392 ls (.int 0 :: s) h := rf_pure (i := .iconst (0)) (len := 1) (okD_ok (by decide +kernel)) rfl
theorem e284_1392 (hx : x = 0 ∨ x = 1) : rf d 284 1392 ls [.int x] h = some (.inl (some (.int x)), h) := g_rz (by decide +kernel) rt284 hx
theorem e284_1393 : rf d 284 1393 [l0, l1, l2, l3, l4, some (.int x), l6] s h = rf d 284 1395 [l0, l1, l2, l3, l4, some (.int x), l6] (.int x :: s) h := rf_pure (i := .iload 5) (len := 2) (okD_ok (by decide +kernel)) rfl
theorem e284_1395 : rf d 284 1395 ls (.int x :: s) h = if ¬ x = 0 then rf d 284 1410 ls s h else rf d 284 1398 ls s h := g_if (c := .ne) (off := 15) _ (by decide +kernel) rfl cmp_d
theorem e284_1398 : rf d 284 1398 [l0, l1, l2, some (.ref a), l4, l5, l6] s h = rf d 284 1399 [l0, l1, l2, some (.ref a), l4, l5, l6] (.ref a :: s) h := rf_pure (i := .aload_n 3) (len := 1) (okD_ok (by decide +kernel)) rfl
theorem e284_1399 : rf d 284 1399 ls s h = rf d 284 1400 ls (.int 0 :: s) h := rf_pure (i := .iconst (0)) (len := 1) (okD_ok (by decide +kernel)) rfl
theorem e284_1400 (q : la n a j) : rf d 284 1400 ls (.int j :: .ref a :: s) (SH n, I, L, R, nc, ns, nx) = rf d 284 1401 ls (.long (L a j.toNatClampNeg) :: s) (SH n, I, L, R, nc, ns, nx) := g_lal (by decide +kernel) q
theorem e284_1401 : rf d 284 1401 [l0, l1, l2, l3, l4, l5, some (.int x)] s h = rf d 284 1403 [l0, l1, l2, l3, l4, l5, some (.int x)] (.int x :: s) h := rf_pure (i := .iload 6) (len := 2) (okD_ok (by decide +kernel)) rfl
theorem e284_1403 : rf d 284 1403 ls (.int x :: s) h = rf d 284 1404 ls (.long x.toInt64 :: s) h := rf_pure (i := .i2l) (len := 1) (okD_ok (by decide +kernel)) rfl
theorem e284_1404 : rf d 284 1404 ls (.long v :: .long u :: s) h = rf d 284 1405 ls (.int (lg_cmp u v) :: s) h := rf_pure (i := .lcmp) (len := 1) (okD_ok (by decide +kernel)) rfl
theorem e284_1405 : rf d 284 1405 ls (.int x :: s) h = if x = 0 then rf d 284 1410 ls s h else rf d 284 1408 ls s h := g_if (c := .eq) (off := 5) _ (by decide +kernel) rfl cmp_d
theorem e284_1408 : rf d 284 1408 ls s h = rf d 284 1409 ls (.int 0 :: s) h := rf_pure (i := .iconst (0)) (len := 1) (okD_ok (by decide +kernel)) rfl
theorem e284_1409 (hx : x = 0 ∨ x = 1) : rf d 284 1409 ls [.int x] h = some (.inl (some (.int x)), h) := g_rz (by decide +kernel) rt284 hx
theorem e284_1410 : rf d 284 1410 ls s h = rf d 284 2520 ls s h := rf_goto ⟨okD_ok (i := .goto (1110)) (len := 3) (by decide +kernel), rfl⟩
theorem e284_1413 : rf d 284 1413 [l0, some (.ref a), l2, l3, l4, l5, l6] s h = rf d 284 1414 [l0, some (.ref a), l2, l3, l4, l5, l6] (.ref a :: s) h := rf_pure (i := .aload_n 1) (len := 1) (okD_ok (by decide +kernel)) rfl
theorem e284_1414 : rf d 284 1414 [some (.ref a), l1, l2, l3, l4, l5, l6] s h = rf d 284 1415 [some (.ref a), l1, l2, l3, l4, l5, l6] (.ref a :: s) h := rf_pure (i := .aload_n 0) (len := 1) (okD_ok (by decide +kernel)) rfl
theorem e284_1415 : rf d 284 1415 [l0, l1, l2, l3, some (.int x), l5, l6] s h = rf d 284 1417 [l0, l1, l2, l3, some (.int x), l5, l6] (.int x :: s) h := rf_pure (i := .iload 4) (len := 2) (okD_ok (by decide +kernel)) rfl
theorem e284_1417 : rf d 284 1417 ls s h = rf d 284 1418 ls (.int 1 :: s) h := rf_pure (i := .iconst (1)) (len := 1) (okD_ok (by decide +kernel)) rfl
theorem e284_1418 : rf d 284 1418 ls (.int y :: .int x :: s) h = rf d 284 1419 ls (.int (x + y) :: s) h := rf_pure (i := .iadd) (len := 1) (okD_ok (by decide +kernel)) rfl
theorem e284_1419 (q : inb j n) : rf d 284 1419 ls (.int j :: .ref 0 :: s) (SH n, I, L, R, nc, ns, nx) = rf d 284 1420 ls (.int (I 0 j.toNatClampNeg) :: s) (SH n, I, L, R, nc, ns, nx) := g_sal (by decide +kernel) q
theorem e284_1420 : rf d 284 1420 [some (.ref a), l1, l2, l3, l4, l5, l6] s h = rf d 284 1421 [some (.ref a), l1, l2, l3, l4, l5, l6] (.ref a :: s) h := rf_pure (i := .aload_n 0) (len := 1) (okD_ok (by decide +kernel)) rfl
theorem e284_1421 : rf d 284 1421 [l0, l1, l2, l3, some (.int x), l5, l6] s h = rf d 284 1423 [l0, l1, l2, l3, some (.int x), l5, l6] (.int x :: s) h := rf_pure (i := .iload 4) (len := 2) (okD_ok (by decide +kernel)) rfl
theorem e284_1423 : rf d 284 1423 ls s h = rf d 284 1424 ls (.int 2 :: s) h := rf_pure (i := .iconst (2)) (len := 1) (okD_ok (by decide +kernel)) rfl
theorem e284_1424 : rf d 284 1424 ls (.int y :: .int x :: s) h = rf d 284 1425 ls (.int (x + y) :: s) h := rf_pure (i := .iadd) (len := 1) (okD_ok (by decide +kernel)) rfl
theorem e284_1425 (q : inb j n) : rf d 284 1425 ls (.int j :: .ref 0 :: s) (SH n, I, L, R, nc, ns, nx) = rf d 284 1426 ls (.int (I 0 j.toNatClampNeg) :: s) (SH n, I, L, R, nc, ns, nx) := g_sal (by decide +kernel) q
theorem e284_1426 : rf d 284 1426 [some (.ref a), l1, l2, l3, l4, l5, l6] s h = rf d 284 1427 [some (.ref a), l1, l2, l3, l4, l5, l6] (.ref a :: s) h := rf_pure (i := .aload_n 0) (len := 1) (okD_ok (by decide +kernel)) rfl
theorem e284_1427 : rf d 284 1427 [l0, l1, l2, l3, some (.int x), l5, l6] s h = rf d 284 1429 [l0, l1, l2, l3, some (.int x), l5, l6] (.int x :: s) h := rf_pure (i := .iload 4) (len := 2) (okD_ok (by decide +kernel)) rfl
theorem e284_1429 : rf d 284 1429 ls s h = rf d 284 1430 ls (.int 3 :: s) h := rf_pure (i := .iconst (3)) (len := 1) (okD_ok (by decide +kernel)) rfl
theorem e284_1430 : rf d 284 1430 ls (.int y :: .int x :: s) h = rf d 284 1431 ls (.int (x + y) :: s) h := rf_pure (i := .iadd) (len := 1) (okD_ok (by decide +kernel)) rfl
theorem e284_1431 (q : inb j n) : rf d 284 1431 ls (.int j :: .ref 0 :: s) (SH n, I, L, R, nc, ns, nx) = rf d 284 1432 ls (.int (I 0 j.toNatClampNeg) :: s) (SH n, I, L, R, nc, ns, nx) := g_sal (by decide +kernel) q
theorem e284_1432 : rf d 284 1432 [l0, l1, l2, some (.ref a), l4, l5, l6] s h = rf d 284 1433 [l0, l1, l2, some (.ref a), l4, l5, l6] (.ref a :: s) h := rf_pure (i := .aload_n 3) (len := 1) (okD_ok (by decide +kernel)) rfl
theorem e284_1433 (hcat : ip_cat s ≤ 8) : rf (d + 1) 284 1433 ls (.ref a4 :: .int x3 :: .int x2 :: .int x1 :: .ref a0 :: s) h = rf_k (d + 1) 284 1433 ls s (cf d 140 [.ref a0, .int x1, .int x2, .int x3, .ref a4] h) := g_cs (idx := 189) [.ref a4, .int x3, .int x2, .int x1, .ref a0] (by decide +kernel) ow284 ms_9_189 mt_9_189 (by decide) rfl mL140 rfl hcat
theorem e284_1436 (hn : ip_nl l4 = true) : rf d 284 1436 [l0, l1, l2, l3, l4, l5, l6] (.int x :: s) h = rf d 284 1438 [l0, l1, l2, l3, l4, some (.int x), l6] s h := g_sti (i := .istore 5) (len := 2) (q := 4) (p := 2) (by decide +kernel) rfl rfl hn
theorem e284_1438 : rf d 284 1438 [l0, l1, some (.ref a), l3, l4, l5, l6] s h = rf d 284 1439 [l0, l1, some (.ref a), l3, l4, l5, l6] (.ref a :: s) h := rf_pure (i := .aload_n 2) (len := 1) (okD_ok (by decide +kernel)) rfl
theorem e284_1439 : rf d 284 1439 [some (.ref a), l1, l2, l3, l4, l5, l6] s h = rf d 284 1440 [some (.ref a), l1, l2, l3, l4, l5, l6] (.ref a :: s) h := rf_pure (i := .aload_n 0) (len := 1) (okD_ok (by decide +kernel)) rfl
theorem e284_1440 : rf d 284 1440 [l0, l1, l2, l3, some (.int x), l5, l6] s h = rf d 284 1442 [l0, l1, l2, l3, some (.int x), l5, l6] (.int x :: s) h := rf_pure (i := .iload 4) (len := 2) (okD_ok (by decide +kernel)) rfl
theorem e284_1442 : rf d 284 1442 ls s h = rf d 284 1443 ls (.int 1 :: s) h := rf_pure (i := .iconst (1)) (len := 1) (okD_ok (by decide +kernel)) rfl
theorem e284_1443 : rf d 284 1443 ls (.int y :: .int x :: s) h = rf d 284 1444 ls (.int (x + y) :: s) h := rf_pure (i := .iadd) (len := 1) (okD_ok (by decide +kernel)) rfl
theorem e284_1444 (q : inb j n) : rf d 284 1444 ls (.int j :: .ref 0 :: s) (SH n, I, L, R, nc, ns, nx) = rf d 284 1445 ls (.int (I 0 j.toNatClampNeg) :: s) (SH n, I, L, R, nc, ns, nx) := g_sal (by decide +kernel) q
theorem e284_1445 : rf d 284 1445 [some (.ref a), l1, l2, l3, l4, l5, l6] s h = rf d 284 1446 [some (.ref a), l1, l2, l3, l4, l5, l6] (.ref a :: s) h := rf_pure (i := .aload_n 0) (len := 1) (okD_ok (by decide +kernel)) rfl
theorem e284_1446 : rf d 284 1446 [l0, l1, l2, l3, some (.int x), l5, l6] s h = rf d 284 1448 [l0, l1, l2, l3, some (.int x), l5, l6] (.int x :: s) h := rf_pure (i := .iload 4) (len := 2) (okD_ok (by decide +kernel)) rfl
theorem e284_1448 : rf d 284 1448 ls s h = rf d 284 1449 ls (.int 2 :: s) h := rf_pure (i := .iconst (2)) (len := 1) (okD_ok (by decide +kernel)) rfl
theorem e284_1449 : rf d 284 1449 ls (.int y :: .int x :: s) h = rf d 284 1450 ls (.int (x + y) :: s) h := rf_pure (i := .iadd) (len := 1) (okD_ok (by decide +kernel)) rfl
theorem e284_1450 (q : inb j n) : rf d 284 1450 ls (.int j :: .ref 0 :: s) (SH n, I, L, R, nc, ns, nx) = rf d 284 1451 ls (.int (I 0 j.toNatClampNeg) :: s) (SH n, I, L, R, nc, ns, nx) := g_sal (by decide +kernel) q
theorem e284_1451 : rf d 284 1451 [some (.ref a), l1, l2, l3, l4, l5, l6] s h = rf d 284 1452 [some (.ref a), l1, l2, l3, l4, l5, l6] (.ref a :: s) h := rf_pure (i := .aload_n 0) (len := 1) (okD_ok (by decide +kernel)) rfl
theorem e284_1452 : rf d 284 1452 [l0, l1, l2, l3, some (.int x), l5, l6] s h = rf d 284 1454 [l0, l1, l2, l3, some (.int x), l5, l6] (.int x :: s) h := rf_pure (i := .iload 4) (len := 2) (okD_ok (by decide +kernel)) rfl
theorem e284_1454 : rf d 284 1454 ls s h = rf d 284 1455 ls (.int 3 :: s) h := rf_pure (i := .iconst (3)) (len := 1) (okD_ok (by decide +kernel)) rfl
theorem e284_1455 : rf d 284 1455 ls (.int y :: .int x :: s) h = rf d 284 1456 ls (.int (x + y) :: s) h := rf_pure (i := .iadd) (len := 1) (okD_ok (by decide +kernel)) rfl
theorem e284_1456 (q : inb j n) : rf d 284 1456 ls (.int j :: .ref 0 :: s) (SH n, I, L, R, nc, ns, nx) = rf d 284 1457 ls (.int (I 0 j.toNatClampNeg) :: s) (SH n, I, L, R, nc, ns, nx) := g_sal (by decide +kernel) q
theorem e284_1457 (hcat : ip_cat s ≤ 8) : rf (d + 1) 284 1457 ls (.int x2 :: .int x1 :: .int x0 :: .ref 265 :: s) (SH n, I, L, R, nc, ns, nx) = rf_k (d + 1) 284 1457 ls s (cf d 253 [.ref 265, .int x0, .int x1, .int x2] (SH n, I, L, R, nc, ns, nx)) := g_cv (idx := 191) (t := 8) [.int x2, .int x1, .int x0] (by decide +kernel) ow284 ms_9_191 mt_9_191 cy253_8 rfl rfl mL253 rfl rfl (by decide) hcat
theorem e284_1460 (hn : ip_nl l5 = true) : rf d 284 1460 [l0, l1, l2, l3, l4, l5, l6] (.int x :: s) h = rf d 284 1462 [l0, l1, l2, l3, l4, l5, some (.int x)] s h := g_sti (i := .istore 6) (len := 2) (q := 5) (p := 2) (by decide +kernel) rfl rfl hn
theorem e284_1462 : rf d 284 1462 [l0, l1, some (.ref a), l3, l4, l5, l6] s h = rf d 284 1463 [l0, l1, some (.ref a), l3, l4, l5, l6] (.ref a :: s) h := rf_pure (i := .aload_n 2) (len := 1) (okD_ok (by decide +kernel)) rfl
theorem e284_1463 (hcat : ip_cat s ≤ 8) : rf (d + 1) 284 1463 ls (.ref 265 :: s) (SH n, I, L, R, nc, ns, nx) = rf_k (d + 1) 284 1463 ls s (cf d 189 [.ref 265] (SH n, I, L, R, nc, ns, nx)) := g_cv (idx := 133) (t := 8) [] (by decide +kernel) ow284 ms_9_133 mt_9_133 cy189_8 rfl rfl mL189 rfl rfl (by decide) hcat
theorem e284_1466 : rf d 284 1466 [l0, l1, l2, l3, l4, some (.int x), l6] s h = rf d 284 1468 [l0, l1, l2, l3, l4, some (.int x), l6] (.int x :: s) h := rf_pure (i := .iload 5) (len := 2) (okD_ok (by decide +kernel)) rfl
theorem e284_1468 : rf d 284 1468 ls (.int y :: .int x :: s) h = if x = y then rf d 284 1473 ls s h else rf d 284 1471 ls s h := g_ic (c := .eq) (off := 5) _ (by decide +kernel) rfl cmp_d
theorem e284_1471 : rf d 284 1471 ls s h = rf d 284 1472 ls (.int 0 :: s) h := rf_pure (i := .iconst (0)) (len := 1) (okD_ok (by decide +kernel)) rfl
theorem e284_1472 (hx : x = 0 ∨ x = 1) : rf d 284 1472 ls [.int x] h = some (.inl (some (.int x)), h) := g_rz (by decide +kernel) rt284 hx
theorem e284_1473 : rf d 284 1473 [l0, l1, l2, l3, l4, some (.int x), l6] s h = rf d 284 1475 [l0, l1, l2, l3, l4, some (.int x), l6] (.int x :: s) h := rf_pure (i := .iload 5) (len := 2) (okD_ok (by decide +kernel)) rfl
theorem e284_1475 : rf d 284 1475 ls (.int x :: s) h = if ¬ x = 0 then rf d 284 1490 ls s h else rf d 284 1478 ls s h := g_if (c := .ne) (off := 15) _ (by decide +kernel) rfl cmp_d
theorem e284_1478 : rf d 284 1478 [l0, l1, l2, some (.ref a), l4, l5, l6] s h = rf d 284 1479 [l0, l1, l2, some (.ref a), l4, l5, l6] (.ref a :: s) h := rf_pure (i := .aload_n 3) (len := 1) (okD_ok (by decide +kernel)) rfl
theorem e284_1479 : rf d 284 1479 ls s h = rf d 284 1480 ls (.int 0 :: s) h := rf_pure (i := .iconst (0)) (len := 1) (okD_ok (by decide +kernel)) rfl
theorem e284_1480 (q : la n a j) : rf d 284 1480 ls (.int j :: .ref a :: s) (SH n, I, L, R, nc, ns, nx) = rf d 284 1481 ls (.long (L a j.toNatClampNeg) :: s) (SH n, I, L, R, nc, ns, nx) := g_lal (by decide +kernel) q
theorem e284_1481 : rf d 284 1481 [l0, l1, l2, l3, l4, l5, some (.int x)] s h = rf d 284 1483 [l0, l1, l2, l3, l4, l5, some (.int x)] (.int x :: s) h := rf_pure (i := .iload 6) (len := 2) (okD_ok (by decide +kernel)) rfl
theorem e284_1483 : rf d 284 1483 ls (.int x :: s) h = rf d 284 1484 ls (.long x.toInt64 :: s) h := rf_pure (i := .i2l) (len := 1) (okD_ok (by decide +kernel)) rfl
theorem e284_1484 : rf d 284 1484 ls (.long v :: .long u :: s) h = rf d 284 1485 ls (.int (lg_cmp u v) :: s) h := rf_pure (i := .lcmp) (len := 1) (okD_ok (by decide +kernel)) rfl
theorem e284_1485 : rf d 284 1485 ls (.int x :: s) h = if x = 0 then rf d 284 1490 ls s h else rf d 284 1488 ls s h := g_if (c := .eq) (off := 5) _ (by decide +kernel) rfl cmp_d
theorem e284_1488 : rf d 284 1488 ls s h = rf d 284 1489 ls (.int 0 :: s) h := rf_pure (i := .iconst (0)) (len := 1) (okD_ok (by decide +kernel)) rfl
theorem e284_1489 (hx : x = 0 ∨ x = 1) : rf d 284 1489 ls [.int x] h = some (.inl (some (.int x)), h) := g_rz (by decide +kernel) rt284 hx
theorem e284_1490 : rf d 284 1490 ls s h = rf d 284 2520 ls s h := rf_goto ⟨okD_ok (i := .goto (1030)) (len := 3) (by decide +kernel), rfl⟩
theorem e284_1493 : rf d 284 1493 [l0, some (.ref a), l2, l3, l4, l5, l6] s h = rf d 284 1494 [l0, some (.ref a), l2, l3, l4, l5, l6] (.ref a :: s) h := rf_pure (i := .aload_n 1) (len := 1) (okD_ok (by decide +kernel)) rfl
theorem e284_1494 : rf d 284 1494 [some (.ref a), l1, l2, l3, l4, l5, l6] s h = rf d 284 1495 [some (.ref a), l1, l2, l3, l4, l5, l6] (.ref a :: s) h := rf_pure (i := .aload_n 0) (len := 1) (okD_ok (by decide +kernel)) rfl
theorem e284_1495 : rf d 284 1495 [l0, l1, l2, l3, some (.int x), l5, l6] s h = rf d 284 1497 [l0, l1, l2, l3, some (.int x), l5, l6] (.int x :: s) h := rf_pure (i := .iload 4) (len := 2) (okD_ok (by decide +kernel)) rfl
theorem e284_1497 : rf d 284 1497 ls s h = rf d 284 1498 ls (.int 1 :: s) h := rf_pure (i := .iconst (1)) (len := 1) (okD_ok (by decide +kernel)) rfl
theorem e284_1498 : rf d 284 1498 ls (.int y :: .int x :: s) h = rf d 284 1499 ls (.int (x + y) :: s) h := rf_pure (i := .iadd) (len := 1) (okD_ok (by decide +kernel)) rfl
theorem e284_1499 (q : inb j n) : rf d 284 1499 ls (.int j :: .ref 0 :: s) (SH n, I, L, R, nc, ns, nx) = rf d 284 1500 ls (.int (I 0 j.toNatClampNeg) :: s) (SH n, I, L, R, nc, ns, nx) := g_sal (by decide +kernel) q
theorem e284_1500 : rf d 284 1500 [some (.ref a), l1, l2, l3, l4, l5, l6] s h = rf d 284 1501 [some (.ref a), l1, l2, l3, l4, l5, l6] (.ref a :: s) h := rf_pure (i := .aload_n 0) (len := 1) (okD_ok (by decide +kernel)) rfl
theorem e284_1501 : rf d 284 1501 [l0, l1, l2, l3, some (.int x), l5, l6] s h = rf d 284 1503 [l0, l1, l2, l3, some (.int x), l5, l6] (.int x :: s) h := rf_pure (i := .iload 4) (len := 2) (okD_ok (by decide +kernel)) rfl
theorem e284_1503 : rf d 284 1503 ls s h = rf d 284 1504 ls (.int 2 :: s) h := rf_pure (i := .iconst (2)) (len := 1) (okD_ok (by decide +kernel)) rfl
theorem e284_1504 : rf d 284 1504 ls (.int y :: .int x :: s) h = rf d 284 1505 ls (.int (x + y) :: s) h := rf_pure (i := .iadd) (len := 1) (okD_ok (by decide +kernel)) rfl
theorem e284_1505 (q : inb j n) : rf d 284 1505 ls (.int j :: .ref 0 :: s) (SH n, I, L, R, nc, ns, nx) = rf d 284 1506 ls (.int (I 0 j.toNatClampNeg) :: s) (SH n, I, L, R, nc, ns, nx) := g_sal (by decide +kernel) q
theorem e284_1506 : rf d 284 1506 [l0, l1, l2, some (.ref a), l4, l5, l6] s h = rf d 284 1507 [l0, l1, l2, some (.ref a), l4, l5, l6] (.ref a :: s) h := rf_pure (i := .aload_n 3) (len := 1) (okD_ok (by decide +kernel)) rfl
theorem e284_1507 (hcat : ip_cat s ≤ 8) : rf (d + 1) 284 1507 ls (.ref a3 :: .int x2 :: .int x1 :: .ref a0 :: s) h = rf_k (d + 1) 284 1507 ls s (cf d 145 [.ref a0, .int x1, .int x2, .ref a3] h) := g_cs (idx := 192) [.ref a3, .int x2, .int x1, .ref a0] (by decide +kernel) ow284 ms_9_192 mt_9_192 (by decide) rfl mL145 rfl hcat
theorem e284_1510 (hn : ip_nl l4 = true) : rf d 284 1510 [l0, l1, l2, l3, l4, l5, l6] (.int x :: s) h = rf d 284 1512 [l0, l1, l2, l3, l4, some (.int x), l6] s h := g_sti (i := .istore 5) (len := 2) (q := 4) (p := 2) (by decide +kernel) rfl rfl hn
theorem e284_1512 : rf d 284 1512 [l0, l1, some (.ref a), l3, l4, l5, l6] s h = rf d 284 1513 [l0, l1, some (.ref a), l3, l4, l5, l6] (.ref a :: s) h := rf_pure (i := .aload_n 2) (len := 1) (okD_ok (by decide +kernel)) rfl
theorem e284_1513 : rf d 284 1513 [some (.ref a), l1, l2, l3, l4, l5, l6] s h = rf d 284 1514 [some (.ref a), l1, l2, l3, l4, l5, l6] (.ref a :: s) h := rf_pure (i := .aload_n 0) (len := 1) (okD_ok (by decide +kernel)) rfl
theorem e284_1514 : rf d 284 1514 [l0, l1, l2, l3, some (.int x), l5, l6] s h = rf d 284 1516 [l0, l1, l2, l3, some (.int x), l5, l6] (.int x :: s) h := rf_pure (i := .iload 4) (len := 2) (okD_ok (by decide +kernel)) rfl
theorem e284_1516 : rf d 284 1516 ls s h = rf d 284 1517 ls (.int 1 :: s) h := rf_pure (i := .iconst (1)) (len := 1) (okD_ok (by decide +kernel)) rfl
theorem e284_1517 : rf d 284 1517 ls (.int y :: .int x :: s) h = rf d 284 1518 ls (.int (x + y) :: s) h := rf_pure (i := .iadd) (len := 1) (okD_ok (by decide +kernel)) rfl
theorem e284_1518 (q : inb j n) : rf d 284 1518 ls (.int j :: .ref 0 :: s) (SH n, I, L, R, nc, ns, nx) = rf d 284 1519 ls (.int (I 0 j.toNatClampNeg) :: s) (SH n, I, L, R, nc, ns, nx) := g_sal (by decide +kernel) q
theorem e284_1519 : rf d 284 1519 [some (.ref a), l1, l2, l3, l4, l5, l6] s h = rf d 284 1520 [some (.ref a), l1, l2, l3, l4, l5, l6] (.ref a :: s) h := rf_pure (i := .aload_n 0) (len := 1) (okD_ok (by decide +kernel)) rfl
theorem e284_1520 : rf d 284 1520 [l0, l1, l2, l3, some (.int x), l5, l6] s h = rf d 284 1522 [l0, l1, l2, l3, some (.int x), l5, l6] (.int x :: s) h := rf_pure (i := .iload 4) (len := 2) (okD_ok (by decide +kernel)) rfl
theorem e284_1522 : rf d 284 1522 ls s h = rf d 284 1523 ls (.int 2 :: s) h := rf_pure (i := .iconst (2)) (len := 1) (okD_ok (by decide +kernel)) rfl
theorem e284_1523 : rf d 284 1523 ls (.int y :: .int x :: s) h = rf d 284 1524 ls (.int (x + y) :: s) h := rf_pure (i := .iadd) (len := 1) (okD_ok (by decide +kernel)) rfl
theorem e284_1524 (q : inb j n) : rf d 284 1524 ls (.int j :: .ref 0 :: s) (SH n, I, L, R, nc, ns, nx) = rf d 284 1525 ls (.int (I 0 j.toNatClampNeg) :: s) (SH n, I, L, R, nc, ns, nx) := g_sal (by decide +kernel) q
theorem e284_1525 (hcat : ip_cat s ≤ 8) : rf (d + 1) 284 1525 ls (.int x1 :: .int x0 :: .ref 265 :: s) (SH n, I, L, R, nc, ns, nx) = rf_k (d + 1) 284 1525 ls s (cf d 255 [.ref 265, .int x0, .int x1] (SH n, I, L, R, nc, ns, nx)) := g_cv (idx := 194) (t := 8) [.int x1, .int x0] (by decide +kernel) ow284 ms_9_194 mt_9_194 cy255_8 rfl rfl mL255 rfl rfl (by decide) hcat
theorem e284_1528 (hn : ip_nl l5 = true) : rf d 284 1528 [l0, l1, l2, l3, l4, l5, l6] (.int x :: s) h = rf d 284 1530 [l0, l1, l2, l3, l4, l5, some (.int x)] s h := g_sti (i := .istore 6) (len := 2) (q := 5) (p := 2) (by decide +kernel) rfl rfl hn
theorem e284_1530 : rf d 284 1530 [l0, l1, some (.ref a), l3, l4, l5, l6] s h = rf d 284 1531 [l0, l1, some (.ref a), l3, l4, l5, l6] (.ref a :: s) h := rf_pure (i := .aload_n 2) (len := 1) (okD_ok (by decide +kernel)) rfl
theorem e284_1531 (hcat : ip_cat s ≤ 8) : rf (d + 1) 284 1531 ls (.ref 265 :: s) (SH n, I, L, R, nc, ns, nx) = rf_k (d + 1) 284 1531 ls s (cf d 189 [.ref 265] (SH n, I, L, R, nc, ns, nx)) := g_cv (idx := 133) (t := 8) [] (by decide +kernel) ow284 ms_9_133 mt_9_133 cy189_8 rfl rfl mL189 rfl rfl (by decide) hcat
theorem e284_1534 : rf d 284 1534 [l0, l1, l2, l3, l4, some (.int x), l6] s h = rf d 284 1536 [l0, l1, l2, l3, l4, some (.int x), l6] (.int x :: s) h := rf_pure (i := .iload 5) (len := 2) (okD_ok (by decide +kernel)) rfl
theorem e284_1536 : rf d 284 1536 ls (.int y :: .int x :: s) h = if x = y then rf d 284 1541 ls s h else rf d 284 1539 ls s h := g_ic (c := .eq) (off := 5) _ (by decide +kernel) rfl cmp_d
theorem e284_1539 : rf d 284 1539 ls s h = rf d 284 1540 ls (.int 0 :: s) h := rf_pure (i := .iconst (0)) (len := 1) (okD_ok (by decide +kernel)) rfl
theorem e284_1540 (hx : x = 0 ∨ x = 1) : rf d 284 1540 ls [.int x] h = some (.inl (some (.int x)), h) := g_rz (by decide +kernel) rt284 hx
theorem e284_1541 : rf d 284 1541 [l0, l1, l2, l3, l4, some (.int x), l6] s h = rf d 284 1543 [l0, l1, l2, l3, l4, some (.int x), l6] (.int x :: s) h := rf_pure (i := .iload 5) (len := 2) (okD_ok (by decide +kernel)) rfl
theorem e284_1543 : rf d 284 1543 ls (.int x :: s) h = if ¬ x = 0 then rf d 284 1558 ls s h else rf d 284 1546 ls s h := g_if (c := .ne) (off := 15) _ (by decide +kernel) rfl cmp_d
theorem e284_1546 : rf d 284 1546 [l0, l1, l2, some (.ref a), l4, l5, l6] s h = rf d 284 1547 [l0, l1, l2, some (.ref a), l4, l5, l6] (.ref a :: s) h := rf_pure (i := .aload_n 3) (len := 1) (okD_ok (by decide +kernel)) rfl
theorem e284_1547 : rf d 284 1547 ls s h = rf d 284 1548 ls (.int 0 :: s) h := rf_pure (i := .iconst (0)) (len := 1) (okD_ok (by decide +kernel)) rfl
theorem e284_1548 (q : la n a j) : rf d 284 1548 ls (.int j :: .ref a :: s) (SH n, I, L, R, nc, ns, nx) = rf d 284 1549 ls (.long (L a j.toNatClampNeg) :: s) (SH n, I, L, R, nc, ns, nx) := g_lal (by decide +kernel) q
theorem e284_1549 : rf d 284 1549 [l0, l1, l2, l3, l4, l5, some (.int x)] s h = rf d 284 1551 [l0, l1, l2, l3, l4, l5, some (.int x)] (.int x :: s) h := rf_pure (i := .iload 6) (len := 2) (okD_ok (by decide +kernel)) rfl
theorem e284_1551 : rf d 284 1551 ls (.int x :: s) h = rf d 284 1552 ls (.long x.toInt64 :: s) h := rf_pure (i := .i2l) (len := 1) (okD_ok (by decide +kernel)) rfl
theorem e284_1552 : rf d 284 1552 ls (.long v :: .long u :: s) h = rf d 284 1553 ls (.int (lg_cmp u v) :: s) h := rf_pure (i := .lcmp) (len := 1) (okD_ok (by decide +kernel)) rfl
theorem e284_1553 : rf d 284 1553 ls (.int x :: s) h = if x = 0 then rf d 284 1558 ls s h else rf d 284 1556 ls s h := g_if (c := .eq) (off := 5) _ (by decide +kernel) rfl cmp_d
theorem e284_1556 : rf d 284 1556 ls s h = rf d 284 1557 ls (.int 0 :: s) h := rf_pure (i := .iconst (0)) (len := 1) (okD_ok (by decide +kernel)) rfl
theorem e284_1557 (hx : x = 0 ∨ x = 1) : rf d 284 1557 ls [.int x] h = some (.inl (some (.int x)), h) := g_rz (by decide +kernel) rt284 hx
theorem e284_1558 : rf d 284 1558 ls s h = rf d 284 2520 ls s h := rf_goto ⟨okD_ok (i := .goto (962)) (len := 3) (by decide +kernel), rfl⟩
theorem e284_1561 : rf d 284 1561 [l0, some (.ref a), l2, l3, l4, l5, l6] s h = rf d 284 1562 [l0, some (.ref a), l2, l3, l4, l5, l6] (.ref a :: s) h := rf_pure (i := .aload_n 1) (len := 1) (okD_ok (by decide +kernel)) rfl
theorem e284_1562 : rf d 284 1562 [some (.ref a), l1, l2, l3, l4, l5, l6] s h = rf d 284 1563 [some (.ref a), l1, l2, l3, l4, l5, l6] (.ref a :: s) h := rf_pure (i := .aload_n 0) (len := 1) (okD_ok (by decide +kernel)) rfl
theorem e284_1563 : rf d 284 1563 [l0, l1, l2, l3, some (.int x), l5, l6] s h = rf d 284 1565 [l0, l1, l2, l3, some (.int x), l5, l6] (.int x :: s) h := rf_pure (i := .iload 4) (len := 2) (okD_ok (by decide +kernel)) rfl
theorem e284_1565 : rf d 284 1565 ls s h = rf d 284 1566 ls (.int 1 :: s) h := rf_pure (i := .iconst (1)) (len := 1) (okD_ok (by decide +kernel)) rfl
theorem e284_1566 : rf d 284 1566 ls (.int y :: .int x :: s) h = rf d 284 1567 ls (.int (x + y) :: s) h := rf_pure (i := .iadd) (len := 1) (okD_ok (by decide +kernel)) rfl
theorem e284_1567 (q : inb j n) : rf d 284 1567 ls (.int j :: .ref 0 :: s) (SH n, I, L, R, nc, ns, nx) = rf d 284 1568 ls (.int (I 0 j.toNatClampNeg) :: s) (SH n, I, L, R, nc, ns, nx) := g_sal (by decide +kernel) q
theorem e284_1568 : rf d 284 1568 ls (.int x :: s) h = if x = 0 then rf d 284 1575 ls s h else rf d 284 1571 ls s h := g_if (c := .eq) (off := 7) _ (by decide +kernel) rfl cmp_d
theorem e284_1571 : rf d 284 1571 ls s h = rf d 284 1572 ls (.int 1 :: s) h := rf_pure (i := .iconst (1)) (len := 1) (okD_ok (by decide +kernel)) rfl
theorem e284_1572 : rf d 284 1572 ls s h = rf d 284 1576 ls s h := rf_goto ⟨okD_ok (i := .goto (4)) (len := 3) (by decide +kernel), rfl⟩
theorem e284_1575 : rf d 284 1575 ls s h = rf d 284 1576 ls (.int 0 :: s) h := rf_pure (i := .iconst (0)) (len := 1) (okD_ok (by decide +kernel)) rfl
theorem e284_1576 (hcat : ip_cat s ≤ 8) : rf (d + 1) 284 1576 ls (.int x0 :: .ref 2 :: s) (SH n, I, L, R, nc, ns, nx) = rf_k (d + 1) 284 1576 ls s (cf d 17 [.ref 2, .int x0] (SH n, I, L, R, nc, ns, nx)) := g_cv (idx := 195) (t := 7) [.int x0] (by decide +kernel) ow284 ms_9_195 mt_9_195 cy17_7 rfl rfl mL17 rfl rfl (by decide) hcat
theorem e284_1579 : rf d 284 1579 [l0, l1, some (.ref a), l3, l4, l5, l6] s h = rf d 284 1580 [l0, l1, some (.ref a), l3, l4, l5, l6] (.ref a :: s) h := rf_pure (i := .aload_n 2) (len := 1) (okD_ok (by decide +kernel)) rfl
theorem e284_1580 : rf d 284 1580 [some (.ref a), l1, l2, l3, l4, l5, l6] s h = rf d 284 1581 [some (.ref a), l1, l2, l3, l4, l5, l6] (.ref a :: s) h := rf_pure (i := .aload_n 0) (len := 1) (okD_ok (by decide +kernel)) rfl
theorem e284_1581 : rf d 284 1581 [l0, l1, l2, l3, some (.int x), l5, l6] s h = rf d 284 1583 [l0, l1, l2, l3, some (.int x), l5, l6] (.int x :: s) h := rf_pure (i := .iload 4) (len := 2) (okD_ok (by decide +kernel)) rfl
theorem e284_1583 : rf d 284 1583 ls s h = rf d 284 1584 ls (.int 1 :: s) h := rf_pure (i := .iconst (1)) (len := 1) (okD_ok (by decide +kernel)) rfl
theorem e284_1584 : rf d 284 1584 ls (.int y :: .int x :: s) h = rf d 284 1585 ls (.int (x + y) :: s) h := rf_pure (i := .iadd) (len := 1) (okD_ok (by decide +kernel)) rfl
theorem e284_1585 (q : inb j n) : rf d 284 1585 ls (.int j :: .ref 0 :: s) (SH n, I, L, R, nc, ns, nx) = rf d 284 1586 ls (.int (I 0 j.toNatClampNeg) :: s) (SH n, I, L, R, nc, ns, nx) := g_sal (by decide +kernel) q
theorem e284_1586 : rf d 284 1586 ls (.int x :: s) h = if x = 0 then rf d 284 1593 ls s h else rf d 284 1589 ls s h := g_if (c := .eq) (off := 7) _ (by decide +kernel) rfl cmp_d
theorem e284_1589 : rf d 284 1589 ls s h = rf d 284 1590 ls (.int 1 :: s) h := rf_pure (i := .iconst (1)) (len := 1) (okD_ok (by decide +kernel)) rfl
theorem e284_1590 : rf d 284 1590 ls s h = rf d 284 1594 ls s h := rf_goto ⟨okD_ok (i := .goto (4)) (len := 3) (by decide +kernel), rfl⟩
theorem e284_1593 : rf d 284 1593 ls s h = rf d 284 1594 ls (.int 0 :: s) h := rf_pure (i := .iconst (0)) (len := 1) (okD_ok (by decide +kernel)) rfl
theorem e284_1594 (hcat : ip_cat s ≤ 8) : rf (d + 1) 284 1594 ls (.int x0 :: .ref 265 :: s) (SH n, I, L, R, nc, ns, nx) = rf_k (d + 1) 284 1594 ls s (cf d 263 [.ref 265, .int x0] (SH n, I, L, R, nc, ns, nx)) := g_cv (idx := 199) (t := 8) [.int x0] (by decide +kernel) ow284 ms_9_199 mt_9_199 cy263_8 rfl rfl mL263 rfl rfl (by decide) hcat
theorem e284_1597 : rf d 284 1597 ls (.int y :: .int x :: s) h = if x = y then rf d 284 2520 ls s h else rf d 284 1600 ls s h := g_ic (c := .eq) (off := 923) _ (by decide +kernel) rfl cmp_d
theorem e284_1600 : rf d 284 1600 ls s h = rf d 284 1601 ls (.int 0 :: s) h := rf_pure (i := .iconst (0)) (len := 1) (okD_ok (by decide +kernel)) rfl
theorem e284_1601 (hx : x = 0 ∨ x = 1) : rf d 284 1601 ls [.int x] h = some (.inl (some (.int x)), h) := g_rz (by decide +kernel) rt284 hx
theorem e284_1602 : rf d 284 1602 [l0, some (.ref a), l2, l3, l4, l5, l6] s h = rf d 284 1603 [l0, some (.ref a), l2, l3, l4, l5, l6] (.ref a :: s) h := rf_pure (i := .aload_n 1) (len := 1) (okD_ok (by decide +kernel)) rfl
theorem e284_1603 : rf d 284 1603 [some (.ref a), l1, l2, l3, l4, l5, l6] s h = rf d 284 1604 [some (.ref a), l1, l2, l3, l4, l5, l6] (.ref a :: s) h := rf_pure (i := .aload_n 0) (len := 1) (okD_ok (by decide +kernel)) rfl
theorem e284_1604 : rf d 284 1604 [l0, l1, l2, l3, some (.int x), l5, l6] s h = rf d 284 1606 [l0, l1, l2, l3, some (.int x), l5, l6] (.int x :: s) h := rf_pure (i := .iload 4) (len := 2) (okD_ok (by decide +kernel)) rfl
theorem e284_1606 : rf d 284 1606 ls s h = rf d 284 1607 ls (.int 1 :: s) h := rf_pure (i := .iconst (1)) (len := 1) (okD_ok (by decide +kernel)) rfl
theorem e284_1607 : rf d 284 1607 ls (.int y :: .int x :: s) h = rf d 284 1608 ls (.int (x + y) :: s) h := rf_pure (i := .iadd) (len := 1) (okD_ok (by decide +kernel)) rfl
theorem e284_1608 (q : inb j n) : rf d 284 1608 ls (.int j :: .ref 0 :: s) (SH n, I, L, R, nc, ns, nx) = rf d 284 1609 ls (.int (I 0 j.toNatClampNeg) :: s) (SH n, I, L, R, nc, ns, nx) := g_sal (by decide +kernel) q
theorem e284_1609 : rf d 284 1609 [l0, l1, l2, some (.ref a), l4, l5, l6] s h = rf d 284 1610 [l0, l1, l2, some (.ref a), l4, l5, l6] (.ref a :: s) h := rf_pure (i := .aload_n 3) (len := 1) (okD_ok (by decide +kernel)) rfl
theorem e284_1610 (hcat : ip_cat s ≤ 8) : rf (d + 1) 284 1610 ls (.ref a2 :: .int x1 :: .ref a0 :: s) h = rf_k (d + 1) 284 1610 ls s (cf d 153 [.ref a0, .int x1, .ref a2] h) := g_cs (idx := 200) [.ref a2, .int x1, .ref a0] (by decide +kernel) ow284 ms_9_200 mt_9_200 (by decide) rfl mL153 rfl hcat
theorem e284_1613 (hn : ip_nl l4 = true) : rf d 284 1613 [l0, l1, l2, l3, l4, l5, l6] (.int x :: s) h = rf d 284 1615 [l0, l1, l2, l3, l4, some (.int x), l6] s h := g_sti (i := .istore 5) (len := 2) (q := 4) (p := 2) (by decide +kernel) rfl rfl hn
theorem e284_1615 : rf d 284 1615 [l0, l1, some (.ref a), l3, l4, l5, l6] s h = rf d 284 1616 [l0, l1, some (.ref a), l3, l4, l5, l6] (.ref a :: s) h := rf_pure (i := .aload_n 2) (len := 1) (okD_ok (by decide +kernel)) rfl
theorem e284_1616 : rf d 284 1616 [some (.ref a), l1, l2, l3, l4, l5, l6] s h = rf d 284 1617 [some (.ref a), l1, l2, l3, l4, l5, l6] (.ref a :: s) h := rf_pure (i := .aload_n 0) (len := 1) (okD_ok (by decide +kernel)) rfl
theorem e284_1617 : rf d 284 1617 [l0, l1, l2, l3, some (.int x), l5, l6] s h = rf d 284 1619 [l0, l1, l2, l3, some (.int x), l5, l6] (.int x :: s) h := rf_pure (i := .iload 4) (len := 2) (okD_ok (by decide +kernel)) rfl
theorem e284_1619 : rf d 284 1619 ls s h = rf d 284 1620 ls (.int 1 :: s) h := rf_pure (i := .iconst (1)) (len := 1) (okD_ok (by decide +kernel)) rfl
theorem e284_1620 : rf d 284 1620 ls (.int y :: .int x :: s) h = rf d 284 1621 ls (.int (x + y) :: s) h := rf_pure (i := .iadd) (len := 1) (okD_ok (by decide +kernel)) rfl
theorem e284_1621 (q : inb j n) : rf d 284 1621 ls (.int j :: .ref 0 :: s) (SH n, I, L, R, nc, ns, nx) = rf d 284 1622 ls (.int (I 0 j.toNatClampNeg) :: s) (SH n, I, L, R, nc, ns, nx) := g_sal (by decide +kernel) q
theorem e284_1622 (hcat : ip_cat s ≤ 8) : rf (d + 1) 284 1622 ls (.int x0 :: .ref 265 :: s) (SH n, I, L, R, nc, ns, nx) = rf_k (d + 1) 284 1622 ls s (cf d 264 [.ref 265, .int x0] (SH n, I, L, R, nc, ns, nx)) := g_cv (idx := 202) (t := 8) [.int x0] (by decide +kernel) ow284 ms_9_202 mt_9_202 cy264_8 rfl rfl mL264 rfl rfl (by decide) hcat
theorem e284_1625 (hn : ip_nl l5 = true) : rf d 284 1625 [l0, l1, l2, l3, l4, l5, l6] (.int x :: s) h = rf d 284 1627 [l0, l1, l2, l3, l4, l5, some (.int x)] s h := g_sti (i := .istore 6) (len := 2) (q := 5) (p := 2) (by decide +kernel) rfl rfl hn
theorem e284_1627 : rf d 284 1627 [l0, l1, some (.ref a), l3, l4, l5, l6] s h = rf d 284 1628 [l0, l1, some (.ref a), l3, l4, l5, l6] (.ref a :: s) h := rf_pure (i := .aload_n 2) (len := 1) (okD_ok (by decide +kernel)) rfl
theorem e284_1628 (hcat : ip_cat s ≤ 8) : rf (d + 1) 284 1628 ls (.ref 265 :: s) (SH n, I, L, R, nc, ns, nx) = rf_k (d + 1) 284 1628 ls s (cf d 189 [.ref 265] (SH n, I, L, R, nc, ns, nx)) := g_cv (idx := 133) (t := 8) [] (by decide +kernel) ow284 ms_9_133 mt_9_133 cy189_8 rfl rfl mL189 rfl rfl (by decide) hcat
theorem e284_1631 : rf d 284 1631 [l0, l1, l2, l3, l4, some (.int x), l6] s h = rf d 284 1633 [l0, l1, l2, l3, l4, some (.int x), l6] (.int x :: s) h := rf_pure (i := .iload 5) (len := 2) (okD_ok (by decide +kernel)) rfl
theorem e284_1633 : rf d 284 1633 ls (.int y :: .int x :: s) h = if x = y then rf d 284 1638 ls s h else rf d 284 1636 ls s h := g_ic (c := .eq) (off := 5) _ (by decide +kernel) rfl cmp_d
theorem e284_1636 : rf d 284 1636 ls s h = rf d 284 1637 ls (.int 0 :: s) h := rf_pure (i := .iconst (0)) (len := 1) (okD_ok (by decide +kernel)) rfl
theorem e284_1637 (hx : x = 0 ∨ x = 1) : rf d 284 1637 ls [.int x] h = some (.inl (some (.int x)), h) := g_rz (by decide +kernel) rt284 hx
theorem e284_1638 : rf d 284 1638 [l0, l1, l2, l3, l4, some (.int x), l6] s h = rf d 284 1640 [l0, l1, l2, l3, l4, some (.int x), l6] (.int x :: s) h := rf_pure (i := .iload 5) (len := 2) (okD_ok (by decide +kernel)) rfl
theorem e284_1640 : rf d 284 1640 ls (.int x :: s) h = if ¬ x = 0 then rf d 284 1655 ls s h else rf d 284 1643 ls s h := g_if (c := .ne) (off := 15) _ (by decide +kernel) rfl cmp_d
theorem e284_1643 : rf d 284 1643 [l0, l1, l2, some (.ref a), l4, l5, l6] s h = rf d 284 1644 [l0, l1, l2, some (.ref a), l4, l5, l6] (.ref a :: s) h := rf_pure (i := .aload_n 3) (len := 1) (okD_ok (by decide +kernel)) rfl
theorem e284_1644 : rf d 284 1644 ls s h = rf d 284 1645 ls (.int 0 :: s) h := rf_pure (i := .iconst (0)) (len := 1) (okD_ok (by decide +kernel)) rfl
theorem e284_1645 (q : la n a j) : rf d 284 1645 ls (.int j :: .ref a :: s) (SH n, I, L, R, nc, ns, nx) = rf d 284 1646 ls (.long (L a j.toNatClampNeg) :: s) (SH n, I, L, R, nc, ns, nx) := g_lal (by decide +kernel) q
theorem e284_1646 : rf d 284 1646 [l0, l1, l2, l3, l4, l5, some (.int x)] s h = rf d 284 1648 [l0, l1, l2, l3, l4, l5, some (.int x)] (.int x :: s) h := rf_pure (i := .iload 6) (len := 2) (okD_ok (by decide +kernel)) rfl
theorem e284_1648 : rf d 284 1648 ls (.int x :: s) h = rf d 284 1649 ls (.long x.toInt64 :: s) h := rf_pure (i := .i2l) (len := 1) (okD_ok (by decide +kernel)) rfl
theorem e284_1649 : rf d 284 1649 ls (.long v :: .long u :: s) h = rf d 284 1650 ls (.int (lg_cmp u v) :: s) h := rf_pure (i := .lcmp) (len := 1) (okD_ok (by decide +kernel)) rfl
theorem e284_1650 : rf d 284 1650 ls (.int x :: s) h = if x = 0 then rf d 284 1655 ls s h else rf d 284 1653 ls s h := g_if (c := .eq) (off := 5) _ (by decide +kernel) rfl cmp_d
theorem e284_1653 : rf d 284 1653 ls s h = rf d 284 1654 ls (.int 0 :: s) h := rf_pure (i := .iconst (0)) (len := 1) (okD_ok (by decide +kernel)) rfl
theorem e284_1654 (hx : x = 0 ∨ x = 1) : rf d 284 1654 ls [.int x] h = some (.inl (some (.int x)), h) := g_rz (by decide +kernel) rt284 hx
theorem e284_1655 : rf d 284 1655 ls s h = rf d 284 2520 ls s h := rf_goto ⟨okD_ok (i := .goto (865)) (len := 3) (by decide +kernel), rfl⟩
theorem e284_1658 : rf d 284 1658 [l0, some (.ref a), l2, l3, l4, l5, l6] s h = rf d 284 1659 [l0, some (.ref a), l2, l3, l4, l5, l6] (.ref a :: s) h := rf_pure (i := .aload_n 1) (len := 1) (okD_ok (by decide +kernel)) rfl
theorem e284_1659 : rf d 284 1659 [some (.ref a), l1, l2, l3, l4, l5, l6] s h = rf d 284 1660 [some (.ref a), l1, l2, l3, l4, l5, l6] (.ref a :: s) h := rf_pure (i := .aload_n 0) (len := 1) (okD_ok (by decide +kernel)) rfl
theorem e284_1660 : rf d 284 1660 [l0, l1, l2, l3, some (.int x), l5, l6] s h = rf d 284 1662 [l0, l1, l2, l3, some (.int x), l5, l6] (.int x :: s) h := rf_pure (i := .iload 4) (len := 2) (okD_ok (by decide +kernel)) rfl
theorem e284_1662 : rf d 284 1662 ls s h = rf d 284 1663 ls (.int 1 :: s) h := rf_pure (i := .iconst (1)) (len := 1) (okD_ok (by decide +kernel)) rfl
theorem e284_1663 : rf d 284 1663 ls (.int y :: .int x :: s) h = rf d 284 1664 ls (.int (x + y) :: s) h := rf_pure (i := .iadd) (len := 1) (okD_ok (by decide +kernel)) rfl
theorem e284_1664 (q : inb j n) : rf d 284 1664 ls (.int j :: .ref 0 :: s) (SH n, I, L, R, nc, ns, nx) = rf d 284 1665 ls (.int (I 0 j.toNatClampNeg) :: s) (SH n, I, L, R, nc, ns, nx) := g_sal (by decide +kernel) q
theorem e284_1665 : rf d 284 1665 [some (.ref a), l1, l2, l3, l4, l5, l6] s h = rf d 284 1666 [some (.ref a), l1, l2, l3, l4, l5, l6] (.ref a :: s) h := rf_pure (i := .aload_n 0) (len := 1) (okD_ok (by decide +kernel)) rfl
theorem e284_1666 : rf d 284 1666 [l0, l1, l2, l3, some (.int x), l5, l6] s h = rf d 284 1668 [l0, l1, l2, l3, some (.int x), l5, l6] (.int x :: s) h := rf_pure (i := .iload 4) (len := 2) (okD_ok (by decide +kernel)) rfl
theorem e284_1668 : rf d 284 1668 ls s h = rf d 284 1669 ls (.int 2 :: s) h := rf_pure (i := .iconst (2)) (len := 1) (okD_ok (by decide +kernel)) rfl
theorem e284_1669 : rf d 284 1669 ls (.int y :: .int x :: s) h = rf d 284 1670 ls (.int (x + y) :: s) h := rf_pure (i := .iadd) (len := 1) (okD_ok (by decide +kernel)) rfl
theorem e284_1670 (q : inb j n) : rf d 284 1670 ls (.int j :: .ref 0 :: s) (SH n, I, L, R, nc, ns, nx) = rf d 284 1671 ls (.int (I 0 j.toNatClampNeg) :: s) (SH n, I, L, R, nc, ns, nx) := g_sal (by decide +kernel) q
theorem e284_1671 : rf d 284 1671 [l0, l1, l2, some (.ref a), l4, l5, l6] s h = rf d 284 1672 [l0, l1, l2, some (.ref a), l4, l5, l6] (.ref a :: s) h := rf_pure (i := .aload_n 3) (len := 1) (okD_ok (by decide +kernel)) rfl
theorem e284_1672 (hcat : ip_cat s ≤ 8) : rf (d + 1) 284 1672 ls (.ref a3 :: .int x2 :: .int x1 :: .ref a0 :: s) h = rf_k (d + 1) 284 1672 ls s (cf d 156 [.ref a0, .int x1, .int x2, .ref a3] h) := g_cs (idx := 203) [.ref a3, .int x2, .int x1, .ref a0] (by decide +kernel) ow284 ms_9_203 mt_9_203 (by decide) rfl mL156 rfl hcat
theorem e284_1675 (hn : ip_nl l4 = true) : rf d 284 1675 [l0, l1, l2, l3, l4, l5, l6] (.int x :: s) h = rf d 284 1677 [l0, l1, l2, l3, l4, some (.int x), l6] s h := g_sti (i := .istore 5) (len := 2) (q := 4) (p := 2) (by decide +kernel) rfl rfl hn
theorem e284_1677 : rf d 284 1677 [l0, l1, some (.ref a), l3, l4, l5, l6] s h = rf d 284 1678 [l0, l1, some (.ref a), l3, l4, l5, l6] (.ref a :: s) h := rf_pure (i := .aload_n 2) (len := 1) (okD_ok (by decide +kernel)) rfl
theorem e284_1678 : rf d 284 1678 [some (.ref a), l1, l2, l3, l4, l5, l6] s h = rf d 284 1679 [some (.ref a), l1, l2, l3, l4, l5, l6] (.ref a :: s) h := rf_pure (i := .aload_n 0) (len := 1) (okD_ok (by decide +kernel)) rfl
theorem e284_1679 : rf d 284 1679 [l0, l1, l2, l3, some (.int x), l5, l6] s h = rf d 284 1681 [l0, l1, l2, l3, some (.int x), l5, l6] (.int x :: s) h := rf_pure (i := .iload 4) (len := 2) (okD_ok (by decide +kernel)) rfl
theorem e284_1681 : rf d 284 1681 ls s h = rf d 284 1682 ls (.int 1 :: s) h := rf_pure (i := .iconst (1)) (len := 1) (okD_ok (by decide +kernel)) rfl
theorem e284_1682 : rf d 284 1682 ls (.int y :: .int x :: s) h = rf d 284 1683 ls (.int (x + y) :: s) h := rf_pure (i := .iadd) (len := 1) (okD_ok (by decide +kernel)) rfl
theorem e284_1683 (q : inb j n) : rf d 284 1683 ls (.int j :: .ref 0 :: s) (SH n, I, L, R, nc, ns, nx) = rf d 284 1684 ls (.int (I 0 j.toNatClampNeg) :: s) (SH n, I, L, R, nc, ns, nx) := g_sal (by decide +kernel) q
theorem e284_1684 : rf d 284 1684 [some (.ref a), l1, l2, l3, l4, l5, l6] s h = rf d 284 1685 [some (.ref a), l1, l2, l3, l4, l5, l6] (.ref a :: s) h := rf_pure (i := .aload_n 0) (len := 1) (okD_ok (by decide +kernel)) rfl
theorem e284_1685 : rf d 284 1685 [l0, l1, l2, l3, some (.int x), l5, l6] s h = rf d 284 1687 [l0, l1, l2, l3, some (.int x), l5, l6] (.int x :: s) h := rf_pure (i := .iload 4) (len := 2) (okD_ok (by decide +kernel)) rfl
theorem e284_1687 : rf d 284 1687 ls s h = rf d 284 1688 ls (.int 2 :: s) h := rf_pure (i := .iconst (2)) (len := 1) (okD_ok (by decide +kernel)) rfl
theorem e284_1688 : rf d 284 1688 ls (.int y :: .int x :: s) h = rf d 284 1689 ls (.int (x + y) :: s) h := rf_pure (i := .iadd) (len := 1) (okD_ok (by decide +kernel)) rfl
theorem e284_1689 (q : inb j n) : rf d 284 1689 ls (.int j :: .ref 0 :: s) (SH n, I, L, R, nc, ns, nx) = rf d 284 1690 ls (.int (I 0 j.toNatClampNeg) :: s) (SH n, I, L, R, nc, ns, nx) := g_sal (by decide +kernel) q
theorem e284_1690 (hcat : ip_cat s ≤ 8) : rf (d + 1) 284 1690 ls (.int x1 :: .int x0 :: .ref 265 :: s) (SH n, I, L, R, nc, ns, nx) = rf_k (d + 1) 284 1690 ls s (cf d 265 [.ref 265, .int x0, .int x1] (SH n, I, L, R, nc, ns, nx)) := g_cv (idx := 205) (t := 8) [.int x1, .int x0] (by decide +kernel) ow284 ms_9_205 mt_9_205 cy265_8 rfl rfl mL265 rfl rfl (by decide) hcat
theorem e284_1693 (hn : ip_nl l5 = true) : rf d 284 1693 [l0, l1, l2, l3, l4, l5, l6] (.int x :: s) h = rf d 284 1695 [l0, l1, l2, l3, l4, l5, some (.int x)] s h := g_sti (i := .istore 6) (len := 2) (q := 5) (p := 2) (by decide +kernel) rfl rfl hn
theorem e284_1695 : rf d 284 1695 [l0, l1, some (.ref a), l3, l4, l5, l6] s h = rf d 284 1696 [l0, l1, some (.ref a), l3, l4, l5, l6] (.ref a :: s) h := rf_pure (i := .aload_n 2) (len := 1) (okD_ok (by decide +kernel)) rfl
theorem e284_1696 (hcat : ip_cat s ≤ 8) : rf (d + 1) 284 1696 ls (.ref 265 :: s) (SH n, I, L, R, nc, ns, nx) = rf_k (d + 1) 284 1696 ls s (cf d 189 [.ref 265] (SH n, I, L, R, nc, ns, nx)) := g_cv (idx := 133) (t := 8) [] (by decide +kernel) ow284 ms_9_133 mt_9_133 cy189_8 rfl rfl mL189 rfl rfl (by decide) hcat
theorem e284_1699 : rf d 284 1699 [l0, l1, l2, l3, l4, some (.int x), l6] s h = rf d 284 1701 [l0, l1, l2, l3, l4, some (.int x), l6] (.int x :: s) h := rf_pure (i := .iload 5) (len := 2) (okD_ok (by decide +kernel)) rfl
theorem e284_1701 : rf d 284 1701 ls (.int y :: .int x :: s) h = if x = y then rf d 284 1706 ls s h else rf d 284 1704 ls s h := g_ic (c := .eq) (off := 5) _ (by decide +kernel) rfl cmp_d
theorem e284_1704 : rf d 284 1704 ls s h = rf d 284 1705 ls (.int 0 :: s) h := rf_pure (i := .iconst (0)) (len := 1) (okD_ok (by decide +kernel)) rfl
theorem e284_1705 (hx : x = 0 ∨ x = 1) : rf d 284 1705 ls [.int x] h = some (.inl (some (.int x)), h) := g_rz (by decide +kernel) rt284 hx
theorem e284_1706 : rf d 284 1706 [l0, l1, l2, l3, l4, some (.int x), l6] s h = rf d 284 1708 [l0, l1, l2, l3, l4, some (.int x), l6] (.int x :: s) h := rf_pure (i := .iload 5) (len := 2) (okD_ok (by decide +kernel)) rfl
theorem e284_1708 : rf d 284 1708 ls (.int x :: s) h = if ¬ x = 0 then rf d 284 1723 ls s h else rf d 284 1711 ls s h := g_if (c := .ne) (off := 15) _ (by decide +kernel) rfl cmp_d
theorem e284_1711 : rf d 284 1711 [l0, l1, l2, some (.ref a), l4, l5, l6] s h = rf d 284 1712 [l0, l1, l2, some (.ref a), l4, l5, l6] (.ref a :: s) h := rf_pure (i := .aload_n 3) (len := 1) (okD_ok (by decide +kernel)) rfl
theorem e284_1712 : rf d 284 1712 ls s h = rf d 284 1713 ls (.int 0 :: s) h := rf_pure (i := .iconst (0)) (len := 1) (okD_ok (by decide +kernel)) rfl
theorem e284_1713 (q : la n a j) : rf d 284 1713 ls (.int j :: .ref a :: s) (SH n, I, L, R, nc, ns, nx) = rf d 284 1714 ls (.long (L a j.toNatClampNeg) :: s) (SH n, I, L, R, nc, ns, nx) := g_lal (by decide +kernel) q
theorem e284_1714 : rf d 284 1714 [l0, l1, l2, l3, l4, l5, some (.int x)] s h = rf d 284 1716 [l0, l1, l2, l3, l4, l5, some (.int x)] (.int x :: s) h := rf_pure (i := .iload 6) (len := 2) (okD_ok (by decide +kernel)) rfl
theorem e284_1716 : rf d 284 1716 ls (.int x :: s) h = rf d 284 1717 ls (.long x.toInt64 :: s) h := rf_pure (i := .i2l) (len := 1) (okD_ok (by decide +kernel)) rfl
theorem e284_1717 : rf d 284 1717 ls (.long v :: .long u :: s) h = rf d 284 1718 ls (.int (lg_cmp u v) :: s) h := rf_pure (i := .lcmp) (len := 1) (okD_ok (by decide +kernel)) rfl
theorem e284_1718 : rf d 284 1718 ls (.int x :: s) h = if x = 0 then rf d 284 1723 ls s h else rf d 284 1721 ls s h := g_if (c := .eq) (off := 5) _ (by decide +kernel) rfl cmp_d
theorem e284_1721 : rf d 284 1721 ls s h = rf d 284 1722 ls (.int 0 :: s) h := rf_pure (i := .iconst (0)) (len := 1) (okD_ok (by decide +kernel)) rfl
theorem e284_1722 (hx : x = 0 ∨ x = 1) : rf d 284 1722 ls [.int x] h = some (.inl (some (.int x)), h) := g_rz (by decide +kernel) rt284 hx
theorem e284_1723 : rf d 284 1723 ls s h = rf d 284 2520 ls s h := rf_goto ⟨okD_ok (i := .goto (797)) (len := 3) (by decide +kernel), rfl⟩
theorem e284_1726 : rf d 284 1726 [l0, some (.ref a), l2, l3, l4, l5, l6] s h = rf d 284 1727 [l0, some (.ref a), l2, l3, l4, l5, l6] (.ref a :: s) h := rf_pure (i := .aload_n 1) (len := 1) (okD_ok (by decide +kernel)) rfl
theorem e284_1727 : rf d 284 1727 [some (.ref a), l1, l2, l3, l4, l5, l6] s h = rf d 284 1728 [some (.ref a), l1, l2, l3, l4, l5, l6] (.ref a :: s) h := rf_pure (i := .aload_n 0) (len := 1) (okD_ok (by decide +kernel)) rfl
theorem e284_1728 : rf d 284 1728 [l0, l1, l2, l3, some (.int x), l5, l6] s h = rf d 284 1730 [l0, l1, l2, l3, some (.int x), l5, l6] (.int x :: s) h := rf_pure (i := .iload 4) (len := 2) (okD_ok (by decide +kernel)) rfl
theorem e284_1730 : rf d 284 1730 ls s h = rf d 284 1731 ls (.int 1 :: s) h := rf_pure (i := .iconst (1)) (len := 1) (okD_ok (by decide +kernel)) rfl
theorem e284_1731 : rf d 284 1731 ls (.int y :: .int x :: s) h = rf d 284 1732 ls (.int (x + y) :: s) h := rf_pure (i := .iadd) (len := 1) (okD_ok (by decide +kernel)) rfl
theorem e284_1732 (q : inb j n) : rf d 284 1732 ls (.int j :: .ref 0 :: s) (SH n, I, L, R, nc, ns, nx) = rf d 284 1733 ls (.int (I 0 j.toNatClampNeg) :: s) (SH n, I, L, R, nc, ns, nx) := g_sal (by decide +kernel) q
theorem e284_1733 : rf d 284 1733 [some (.ref a), l1, l2, l3, l4, l5, l6] s h = rf d 284 1734 [some (.ref a), l1, l2, l3, l4, l5, l6] (.ref a :: s) h := rf_pure (i := .aload_n 0) (len := 1) (okD_ok (by decide +kernel)) rfl
theorem e284_1734 : rf d 284 1734 [l0, l1, l2, l3, some (.int x), l5, l6] s h = rf d 284 1736 [l0, l1, l2, l3, some (.int x), l5, l6] (.int x :: s) h := rf_pure (i := .iload 4) (len := 2) (okD_ok (by decide +kernel)) rfl
theorem e284_1736 : rf d 284 1736 ls s h = rf d 284 1737 ls (.int 2 :: s) h := rf_pure (i := .iconst (2)) (len := 1) (okD_ok (by decide +kernel)) rfl
theorem e284_1737 : rf d 284 1737 ls (.int y :: .int x :: s) h = rf d 284 1738 ls (.int (x + y) :: s) h := rf_pure (i := .iadd) (len := 1) (okD_ok (by decide +kernel)) rfl
theorem e284_1738 (q : inb j n) : rf d 284 1738 ls (.int j :: .ref 0 :: s) (SH n, I, L, R, nc, ns, nx) = rf d 284 1739 ls (.int (I 0 j.toNatClampNeg) :: s) (SH n, I, L, R, nc, ns, nx) := g_sal (by decide +kernel) q
theorem e284_1739 : rf d 284 1739 [some (.ref a), l1, l2, l3, l4, l5, l6] s h = rf d 284 1740 [some (.ref a), l1, l2, l3, l4, l5, l6] (.ref a :: s) h := rf_pure (i := .aload_n 0) (len := 1) (okD_ok (by decide +kernel)) rfl
theorem e284_1740 : rf d 284 1740 [l0, l1, l2, l3, some (.int x), l5, l6] s h = rf d 284 1742 [l0, l1, l2, l3, some (.int x), l5, l6] (.int x :: s) h := rf_pure (i := .iload 4) (len := 2) (okD_ok (by decide +kernel)) rfl
theorem e284_1742 : rf d 284 1742 ls s h = rf d 284 1743 ls (.int 3 :: s) h := rf_pure (i := .iconst (3)) (len := 1) (okD_ok (by decide +kernel)) rfl
theorem e284_1743 : rf d 284 1743 ls (.int y :: .int x :: s) h = rf d 284 1744 ls (.int (x + y) :: s) h := rf_pure (i := .iadd) (len := 1) (okD_ok (by decide +kernel)) rfl
theorem e284_1744 (q : inb j n) : rf d 284 1744 ls (.int j :: .ref 0 :: s) (SH n, I, L, R, nc, ns, nx) = rf d 284 1745 ls (.int (I 0 j.toNatClampNeg) :: s) (SH n, I, L, R, nc, ns, nx) := g_sal (by decide +kernel) q
theorem e284_1745 : rf d 284 1745 [l0, l1, l2, some (.ref a), l4, l5, l6] s h = rf d 284 1746 [l0, l1, l2, some (.ref a), l4, l5, l6] (.ref a :: s) h := rf_pure (i := .aload_n 3) (len := 1) (okD_ok (by decide +kernel)) rfl
theorem e284_1746 (hcat : ip_cat s ≤ 8) : rf (d + 1) 284 1746 ls (.ref a4 :: .int x3 :: .int x2 :: .int x1 :: .ref a0 :: s) h = rf_k (d + 1) 284 1746 ls s (cf d 158 [.ref a0, .int x1, .int x2, .int x3, .ref a4] h) := g_cs (idx := 206) [.ref a4, .int x3, .int x2, .int x1, .ref a0] (by decide +kernel) ow284 ms_9_206 mt_9_206 (by decide) rfl mL158 rfl hcat
theorem e284_1749 (hn : ip_nl l4 = true) : rf d 284 1749 [l0, l1, l2, l3, l4, l5, l6] (.int x :: s) h = rf d 284 1751 [l0, l1, l2, l3, l4, some (.int x), l6] s h := g_sti (i := .istore 5) (len := 2) (q := 4) (p := 2) (by decide +kernel) rfl rfl hn
theorem e284_1751 : rf d 284 1751 [l0, l1, some (.ref a), l3, l4, l5, l6] s h = rf d 284 1752 [l0, l1, some (.ref a), l3, l4, l5, l6] (.ref a :: s) h := rf_pure (i := .aload_n 2) (len := 1) (okD_ok (by decide +kernel)) rfl
theorem e284_1752 : rf d 284 1752 [some (.ref a), l1, l2, l3, l4, l5, l6] s h = rf d 284 1753 [some (.ref a), l1, l2, l3, l4, l5, l6] (.ref a :: s) h := rf_pure (i := .aload_n 0) (len := 1) (okD_ok (by decide +kernel)) rfl
theorem e284_1753 : rf d 284 1753 [l0, l1, l2, l3, some (.int x), l5, l6] s h = rf d 284 1755 [l0, l1, l2, l3, some (.int x), l5, l6] (.int x :: s) h := rf_pure (i := .iload 4) (len := 2) (okD_ok (by decide +kernel)) rfl
theorem e284_1755 : rf d 284 1755 ls s h = rf d 284 1756 ls (.int 1 :: s) h := rf_pure (i := .iconst (1)) (len := 1) (okD_ok (by decide +kernel)) rfl
theorem e284_1756 : rf d 284 1756 ls (.int y :: .int x :: s) h = rf d 284 1757 ls (.int (x + y) :: s) h := rf_pure (i := .iadd) (len := 1) (okD_ok (by decide +kernel)) rfl
theorem e284_1757 (q : inb j n) : rf d 284 1757 ls (.int j :: .ref 0 :: s) (SH n, I, L, R, nc, ns, nx) = rf d 284 1758 ls (.int (I 0 j.toNatClampNeg) :: s) (SH n, I, L, R, nc, ns, nx) := g_sal (by decide +kernel) q
theorem e284_1758 : rf d 284 1758 [some (.ref a), l1, l2, l3, l4, l5, l6] s h = rf d 284 1759 [some (.ref a), l1, l2, l3, l4, l5, l6] (.ref a :: s) h := rf_pure (i := .aload_n 0) (len := 1) (okD_ok (by decide +kernel)) rfl
theorem e284_1759 : rf d 284 1759 [l0, l1, l2, l3, some (.int x), l5, l6] s h = rf d 284 1761 [l0, l1, l2, l3, some (.int x), l5, l6] (.int x :: s) h := rf_pure (i := .iload 4) (len := 2) (okD_ok (by decide +kernel)) rfl
theorem e284_1761 : rf d 284 1761 ls s h = rf d 284 1762 ls (.int 2 :: s) h := rf_pure (i := .iconst (2)) (len := 1) (okD_ok (by decide +kernel)) rfl
theorem e284_1762 : rf d 284 1762 ls (.int y :: .int x :: s) h = rf d 284 1763 ls (.int (x + y) :: s) h := rf_pure (i := .iadd) (len := 1) (okD_ok (by decide +kernel)) rfl
theorem e284_1763 (q : inb j n) : rf d 284 1763 ls (.int j :: .ref 0 :: s) (SH n, I, L, R, nc, ns, nx) = rf d 284 1764 ls (.int (I 0 j.toNatClampNeg) :: s) (SH n, I, L, R, nc, ns, nx) := g_sal (by decide +kernel) q
theorem e284_1764 : rf d 284 1764 [some (.ref a), l1, l2, l3, l4, l5, l6] s h = rf d 284 1765 [some (.ref a), l1, l2, l3, l4, l5, l6] (.ref a :: s) h := rf_pure (i := .aload_n 0) (len := 1) (okD_ok (by decide +kernel)) rfl
theorem e284_1765 : rf d 284 1765 [l0, l1, l2, l3, some (.int x), l5, l6] s h = rf d 284 1767 [l0, l1, l2, l3, some (.int x), l5, l6] (.int x :: s) h := rf_pure (i := .iload 4) (len := 2) (okD_ok (by decide +kernel)) rfl
theorem e284_1767 : rf d 284 1767 ls s h = rf d 284 1768 ls (.int 3 :: s) h := rf_pure (i := .iconst (3)) (len := 1) (okD_ok (by decide +kernel)) rfl
theorem e284_1768 : rf d 284 1768 ls (.int y :: .int x :: s) h = rf d 284 1769 ls (.int (x + y) :: s) h := rf_pure (i := .iadd) (len := 1) (okD_ok (by decide +kernel)) rfl
theorem e284_1769 (q : inb j n) : rf d 284 1769 ls (.int j :: .ref 0 :: s) (SH n, I, L, R, nc, ns, nx) = rf d 284 1770 ls (.int (I 0 j.toNatClampNeg) :: s) (SH n, I, L, R, nc, ns, nx) := g_sal (by decide +kernel) q
theorem e284_1770 (hcat : ip_cat s ≤ 8) : rf (d + 1) 284 1770 ls (.int x2 :: .int x1 :: .int x0 :: .ref 265 :: s) (SH n, I, L, R, nc, ns, nx) = rf_k (d + 1) 284 1770 ls s (cf d 267 [.ref 265, .int x0, .int x1, .int x2] (SH n, I, L, R, nc, ns, nx)) := g_cv (idx := 208) (t := 8) [.int x2, .int x1, .int x0] (by decide +kernel) ow284 ms_9_208 mt_9_208 cy267_8 rfl rfl mL267 rfl rfl (by decide) hcat
theorem e284_1773 (hn : ip_nl l5 = true) : rf d 284 1773 [l0, l1, l2, l3, l4, l5, l6] (.int x :: s) h = rf d 284 1775 [l0, l1, l2, l3, l4, l5, some (.int x)] s h := g_sti (i := .istore 6) (len := 2) (q := 5) (p := 2) (by decide +kernel) rfl rfl hn
theorem e284_1775 : rf d 284 1775 [l0, l1, some (.ref a), l3, l4, l5, l6] s h = rf d 284 1776 [l0, l1, some (.ref a), l3, l4, l5, l6] (.ref a :: s) h := rf_pure (i := .aload_n 2) (len := 1) (okD_ok (by decide +kernel)) rfl
theorem e284_1776 (hcat : ip_cat s ≤ 8) : rf (d + 1) 284 1776 ls (.ref 265 :: s) (SH n, I, L, R, nc, ns, nx) = rf_k (d + 1) 284 1776 ls s (cf d 189 [.ref 265] (SH n, I, L, R, nc, ns, nx)) := g_cv (idx := 133) (t := 8) [] (by decide +kernel) ow284 ms_9_133 mt_9_133 cy189_8 rfl rfl mL189 rfl rfl (by decide) hcat
theorem e284_1779 : rf d 284 1779 [l0, l1, l2, l3, l4, some (.int x), l6] s h = rf d 284 1781 [l0, l1, l2, l3, l4, some (.int x), l6] (.int x :: s) h := rf_pure (i := .iload 5) (len := 2) (okD_ok (by decide +kernel)) rfl
theorem e284_1781 : rf d 284 1781 ls (.int y :: .int x :: s) h = if x = y then rf d 284 1786 ls s h else rf d 284 1784 ls s h := g_ic (c := .eq) (off := 5) _ (by decide +kernel) rfl cmp_d
theorem e284_1784 : rf d 284 1784 ls s h = rf d 284 1785 ls (.int 0 :: s) h := rf_pure (i := .iconst (0)) (len := 1) (okD_ok (by decide +kernel)) rfl
theorem e284_1785 (hx : x = 0 ∨ x = 1) : rf d 284 1785 ls [.int x] h = some (.inl (some (.int x)), h) := g_rz (by decide +kernel) rt284 hx
theorem e284_1786 : rf d 284 1786 [l0, l1, l2, l3, l4, some (.int x), l6] s h = rf d 284 1788 [l0, l1, l2, l3, l4, some (.int x), l6] (.int x :: s) h := rf_pure (i := .iload 5) (len := 2) (okD_ok (by decide +kernel)) rfl
theorem e284_1788 : rf d 284 1788 ls (.int x :: s) h = if ¬ x = 0 then rf d 284 1803 ls s h else rf d 284 1791 ls s h := g_if (c := .ne) (off := 15) _ (by decide +kernel) rfl cmp_d
theorem e284_1791 : rf d 284 1791 [l0, l1, l2, some (.ref a), l4, l5, l6] s h = rf d 284 1792 [l0, l1, l2, some (.ref a), l4, l5, l6] (.ref a :: s) h := rf_pure (i := .aload_n 3) (len := 1) (okD_ok (by decide +kernel)) rfl
theorem e284_1792 : rf d 284 1792 ls s h = rf d 284 1793 ls (.int 0 :: s) h := rf_pure (i := .iconst (0)) (len := 1) (okD_ok (by decide +kernel)) rfl
theorem e284_1793 (q : la n a j) : rf d 284 1793 ls (.int j :: .ref a :: s) (SH n, I, L, R, nc, ns, nx) = rf d 284 1794 ls (.long (L a j.toNatClampNeg) :: s) (SH n, I, L, R, nc, ns, nx) := g_lal (by decide +kernel) q
theorem e284_1794 : rf d 284 1794 [l0, l1, l2, l3, l4, l5, some (.int x)] s h = rf d 284 1796 [l0, l1, l2, l3, l4, l5, some (.int x)] (.int x :: s) h := rf_pure (i := .iload 6) (len := 2) (okD_ok (by decide +kernel)) rfl
theorem e284_1796 : rf d 284 1796 ls (.int x :: s) h = rf d 284 1797 ls (.long x.toInt64 :: s) h := rf_pure (i := .i2l) (len := 1) (okD_ok (by decide +kernel)) rfl
theorem e284_1797 : rf d 284 1797 ls (.long v :: .long u :: s) h = rf d 284 1798 ls (.int (lg_cmp u v) :: s) h := rf_pure (i := .lcmp) (len := 1) (okD_ok (by decide +kernel)) rfl
theorem e284_1798 : rf d 284 1798 ls (.int x :: s) h = if x = 0 then rf d 284 1803 ls s h else rf d 284 1801 ls s h := g_if (c := .eq) (off := 5) _ (by decide +kernel) rfl cmp_d
theorem e284_1801 : rf d 284 1801 ls s h = rf d 284 1802 ls (.int 0 :: s) h := rf_pure (i := .iconst (0)) (len := 1) (okD_ok (by decide +kernel)) rfl
theorem e284_1802 (hx : x = 0 ∨ x = 1) : rf d 284 1802 ls [.int x] h = some (.inl (some (.int x)), h) := g_rz (by decide +kernel) rt284 hx
theorem e284_1803 : rf d 284 1803 ls s h = rf d 284 2520 ls s h := rf_goto ⟨okD_ok (i := .goto (717)) (len := 3) (by decide +kernel), rfl⟩
theorem e284_1806 : rf d 284 1806 [l0, some (.ref a), l2, l3, l4, l5, l6] s h = rf d 284 1807 [l0, some (.ref a), l2, l3, l4, l5, l6] (.ref a :: s) h := rf_pure (i := .aload_n 1) (len := 1) (okD_ok (by decide +kernel)) rfl
theorem e284_1807 : rf d 284 1807 [some (.ref a), l1, l2, l3, l4, l5, l6] s h = rf d 284 1808 [some (.ref a), l1, l2, l3, l4, l5, l6] (.ref a :: s) h := rf_pure (i := .aload_n 0) (len := 1) (okD_ok (by decide +kernel)) rfl
theorem e284_1808 : rf d 284 1808 [l0, l1, l2, l3, some (.int x), l5, l6] s h = rf d 284 1810 [l0, l1, l2, l3, some (.int x), l5, l6] (.int x :: s) h := rf_pure (i := .iload 4) (len := 2) (okD_ok (by decide +kernel)) rfl
theorem e284_1810 : rf d 284 1810 ls s h = rf d 284 1811 ls (.int 1 :: s) h := rf_pure (i := .iconst (1)) (len := 1) (okD_ok (by decide +kernel)) rfl
theorem e284_1811 : rf d 284 1811 ls (.int y :: .int x :: s) h = rf d 284 1812 ls (.int (x + y) :: s) h := rf_pure (i := .iadd) (len := 1) (okD_ok (by decide +kernel)) rfl
theorem e284_1812 (q : inb j n) : rf d 284 1812 ls (.int j :: .ref 0 :: s) (SH n, I, L, R, nc, ns, nx) = rf d 284 1813 ls (.int (I 0 j.toNatClampNeg) :: s) (SH n, I, L, R, nc, ns, nx) := g_sal (by decide +kernel) q
theorem e284_1813 : rf d 284 1813 [some (.ref a), l1, l2, l3, l4, l5, l6] s h = rf d 284 1814 [some (.ref a), l1, l2, l3, l4, l5, l6] (.ref a :: s) h := rf_pure (i := .aload_n 0) (len := 1) (okD_ok (by decide +kernel)) rfl
theorem e284_1814 : rf d 284 1814 [l0, l1, l2, l3, some (.int x), l5, l6] s h = rf d 284 1816 [l0, l1, l2, l3, some (.int x), l5, l6] (.int x :: s) h := rf_pure (i := .iload 4) (len := 2) (okD_ok (by decide +kernel)) rfl
theorem e284_1816 : rf d 284 1816 ls s h = rf d 284 1817 ls (.int 2 :: s) h := rf_pure (i := .iconst (2)) (len := 1) (okD_ok (by decide +kernel)) rfl
theorem e284_1817 : rf d 284 1817 ls (.int y :: .int x :: s) h = rf d 284 1818 ls (.int (x + y) :: s) h := rf_pure (i := .iadd) (len := 1) (okD_ok (by decide +kernel)) rfl
theorem e284_1818 (q : inb j n) : rf d 284 1818 ls (.int j :: .ref 0 :: s) (SH n, I, L, R, nc, ns, nx) = rf d 284 1819 ls (.int (I 0 j.toNatClampNeg) :: s) (SH n, I, L, R, nc, ns, nx) := g_sal (by decide +kernel) q
theorem e284_1819 : rf d 284 1819 [some (.ref a), l1, l2, l3, l4, l5, l6] s h = rf d 284 1820 [some (.ref a), l1, l2, l3, l4, l5, l6] (.ref a :: s) h := rf_pure (i := .aload_n 0) (len := 1) (okD_ok (by decide +kernel)) rfl
theorem e284_1820 : rf d 284 1820 [l0, l1, l2, l3, some (.int x), l5, l6] s h = rf d 284 1822 [l0, l1, l2, l3, some (.int x), l5, l6] (.int x :: s) h := rf_pure (i := .iload 4) (len := 2) (okD_ok (by decide +kernel)) rfl
theorem e284_1822 : rf d 284 1822 ls s h = rf d 284 1823 ls (.int 3 :: s) h := rf_pure (i := .iconst (3)) (len := 1) (okD_ok (by decide +kernel)) rfl
theorem e284_1823 : rf d 284 1823 ls (.int y :: .int x :: s) h = rf d 284 1824 ls (.int (x + y) :: s) h := rf_pure (i := .iadd) (len := 1) (okD_ok (by decide +kernel)) rfl
theorem e284_1824 (q : inb j n) : rf d 284 1824 ls (.int j :: .ref 0 :: s) (SH n, I, L, R, nc, ns, nx) = rf d 284 1825 ls (.int (I 0 j.toNatClampNeg) :: s) (SH n, I, L, R, nc, ns, nx) := g_sal (by decide +kernel) q
theorem e284_1825 : rf d 284 1825 [l0, l1, l2, some (.ref a), l4, l5, l6] s h = rf d 284 1826 [l0, l1, l2, some (.ref a), l4, l5, l6] (.ref a :: s) h := rf_pure (i := .aload_n 3) (len := 1) (okD_ok (by decide +kernel)) rfl
theorem e284_1826 (hcat : ip_cat s ≤ 8) : rf (d + 1) 284 1826 ls (.ref a4 :: .int x3 :: .int x2 :: .int x1 :: .ref a0 :: s) h = rf_k (d + 1) 284 1826 ls s (cf d 160 [.ref a0, .int x1, .int x2, .int x3, .ref a4] h) := g_cs (idx := 209) [.ref a4, .int x3, .int x2, .int x1, .ref a0] (by decide +kernel) ow284 ms_9_209 mt_9_209 (by decide) rfl mL160 rfl hcat
theorem e284_1829 (hn : ip_nl l4 = true) : rf d 284 1829 [l0, l1, l2, l3, l4, l5, l6] (.int x :: s) h = rf d 284 1831 [l0, l1, l2, l3, l4, some (.int x), l6] s h := g_sti (i := .istore 5) (len := 2) (q := 4) (p := 2) (by decide +kernel) rfl rfl hn
theorem e284_1831 : rf d 284 1831 [l0, l1, some (.ref a), l3, l4, l5, l6] s h = rf d 284 1832 [l0, l1, some (.ref a), l3, l4, l5, l6] (.ref a :: s) h := rf_pure (i := .aload_n 2) (len := 1) (okD_ok (by decide +kernel)) rfl
theorem e284_1832 : rf d 284 1832 [some (.ref a), l1, l2, l3, l4, l5, l6] s h = rf d 284 1833 [some (.ref a), l1, l2, l3, l4, l5, l6] (.ref a :: s) h := rf_pure (i := .aload_n 0) (len := 1) (okD_ok (by decide +kernel)) rfl
theorem e284_1833 : rf d 284 1833 [l0, l1, l2, l3, some (.int x), l5, l6] s h = rf d 284 1835 [l0, l1, l2, l3, some (.int x), l5, l6] (.int x :: s) h := rf_pure (i := .iload 4) (len := 2) (okD_ok (by decide +kernel)) rfl
theorem e284_1835 : rf d 284 1835 ls s h = rf d 284 1836 ls (.int 1 :: s) h := rf_pure (i := .iconst (1)) (len := 1) (okD_ok (by decide +kernel)) rfl
theorem e284_1836 : rf d 284 1836 ls (.int y :: .int x :: s) h = rf d 284 1837 ls (.int (x + y) :: s) h := rf_pure (i := .iadd) (len := 1) (okD_ok (by decide +kernel)) rfl
theorem e284_1837 (q : inb j n) : rf d 284 1837 ls (.int j :: .ref 0 :: s) (SH n, I, L, R, nc, ns, nx) = rf d 284 1838 ls (.int (I 0 j.toNatClampNeg) :: s) (SH n, I, L, R, nc, ns, nx) := g_sal (by decide +kernel) q
theorem e284_1838 : rf d 284 1838 [some (.ref a), l1, l2, l3, l4, l5, l6] s h = rf d 284 1839 [some (.ref a), l1, l2, l3, l4, l5, l6] (.ref a :: s) h := rf_pure (i := .aload_n 0) (len := 1) (okD_ok (by decide +kernel)) rfl
theorem e284_1839 : rf d 284 1839 [l0, l1, l2, l3, some (.int x), l5, l6] s h = rf d 284 1841 [l0, l1, l2, l3, some (.int x), l5, l6] (.int x :: s) h := rf_pure (i := .iload 4) (len := 2) (okD_ok (by decide +kernel)) rfl
theorem e284_1841 : rf d 284 1841 ls s h = rf d 284 1842 ls (.int 2 :: s) h := rf_pure (i := .iconst (2)) (len := 1) (okD_ok (by decide +kernel)) rfl
theorem e284_1842 : rf d 284 1842 ls (.int y :: .int x :: s) h = rf d 284 1843 ls (.int (x + y) :: s) h := rf_pure (i := .iadd) (len := 1) (okD_ok (by decide +kernel)) rfl
theorem e284_1843 (q : inb j n) : rf d 284 1843 ls (.int j :: .ref 0 :: s) (SH n, I, L, R, nc, ns, nx) = rf d 284 1844 ls (.int (I 0 j.toNatClampNeg) :: s) (SH n, I, L, R, nc, ns, nx) := g_sal (by decide +kernel) q
theorem e284_1844 : rf d 284 1844 [some (.ref a), l1, l2, l3, l4, l5, l6] s h = rf d 284 1845 [some (.ref a), l1, l2, l3, l4, l5, l6] (.ref a :: s) h := rf_pure (i := .aload_n 0) (len := 1) (okD_ok (by decide +kernel)) rfl
theorem e284_1845 : rf d 284 1845 [l0, l1, l2, l3, some (.int x), l5, l6] s h = rf d 284 1847 [l0, l1, l2, l3, some (.int x), l5, l6] (.int x :: s) h := rf_pure (i := .iload 4) (len := 2) (okD_ok (by decide +kernel)) rfl
theorem e284_1847 : rf d 284 1847 ls s h = rf d 284 1848 ls (.int 3 :: s) h := rf_pure (i := .iconst (3)) (len := 1) (okD_ok (by decide +kernel)) rfl
theorem e284_1848 : rf d 284 1848 ls (.int y :: .int x :: s) h = rf d 284 1849 ls (.int (x + y) :: s) h := rf_pure (i := .iadd) (len := 1) (okD_ok (by decide +kernel)) rfl
theorem e284_1849 (q : inb j n) : rf d 284 1849 ls (.int j :: .ref 0 :: s) (SH n, I, L, R, nc, ns, nx) = rf d 284 1850 ls (.int (I 0 j.toNatClampNeg) :: s) (SH n, I, L, R, nc, ns, nx) := g_sal (by decide +kernel) q
theorem e284_1850 (hcat : ip_cat s ≤ 8) : rf (d + 1) 284 1850 ls (.int x2 :: .int x1 :: .int x0 :: .ref 265 :: s) (SH n, I, L, R, nc, ns, nx) = rf_k (d + 1) 284 1850 ls s (cf d 268 [.ref 265, .int x0, .int x1, .int x2] (SH n, I, L, R, nc, ns, nx)) := g_cv (idx := 211) (t := 8) [.int x2, .int x1, .int x0] (by decide +kernel) ow284 ms_9_211 mt_9_211 cy268_8 rfl rfl mL268 rfl rfl (by decide) hcat
theorem e284_1853 (hn : ip_nl l5 = true) : rf d 284 1853 [l0, l1, l2, l3, l4, l5, l6] (.int x :: s) h = rf d 284 1855 [l0, l1, l2, l3, l4, l5, some (.int x)] s h := g_sti (i := .istore 6) (len := 2) (q := 5) (p := 2) (by decide +kernel) rfl rfl hn
theorem e284_1855 : rf d 284 1855 [l0, l1, some (.ref a), l3, l4, l5, l6] s h = rf d 284 1856 [l0, l1, some (.ref a), l3, l4, l5, l6] (.ref a :: s) h := rf_pure (i := .aload_n 2) (len := 1) (okD_ok (by decide +kernel)) rfl
theorem e284_1856 (hcat : ip_cat s ≤ 8) : rf (d + 1) 284 1856 ls (.ref 265 :: s) (SH n, I, L, R, nc, ns, nx) = rf_k (d + 1) 284 1856 ls s (cf d 189 [.ref 265] (SH n, I, L, R, nc, ns, nx)) := g_cv (idx := 133) (t := 8) [] (by decide +kernel) ow284 ms_9_133 mt_9_133 cy189_8 rfl rfl mL189 rfl rfl (by decide) hcat
theorem e284_1859 : rf d 284 1859 [l0, l1, l2, l3, l4, some (.int x), l6] s h = rf d 284 1861 [l0, l1, l2, l3, l4, some (.int x), l6] (.int x :: s) h := rf_pure (i := .iload 5) (len := 2) (okD_ok (by decide +kernel)) rfl
theorem e284_1861 : rf d 284 1861 ls (.int y :: .int x :: s) h = if x = y then rf d 284 1866 ls s h else rf d 284 1864 ls s h := g_ic (c := .eq) (off := 5) _ (by decide +kernel) rfl cmp_d
theorem e284_1864 : rf d 284 1864 ls s h = rf d 284 1865 ls (.int 0 :: s) h := rf_pure (i := .iconst (0)) (len := 1) (okD_ok (by decide +kernel)) rfl
theorem e284_1865 (hx : x = 0 ∨ x = 1) : rf d 284 1865 ls [.int x] h = some (.inl (some (.int x)), h) := g_rz (by decide +kernel) rt284 hx
theorem e284_1866 : rf d 284 1866 [l0, l1, l2, l3, l4, some (.int x), l6] s h = rf d 284 1868 [l0, l1, l2, l3, l4, some (.int x), l6] (.int x :: s) h := rf_pure (i := .iload 5) (len := 2) (okD_ok (by decide +kernel)) rfl
theorem e284_1868 : rf d 284 1868 ls (.int x :: s) h = if ¬ x = 0 then rf d 284 1883 ls s h else rf d 284 1871 ls s h := g_if (c := .ne) (off := 15) _ (by decide +kernel) rfl cmp_d
theorem e284_1871 : rf d 284 1871 [l0, l1, l2, some (.ref a), l4, l5, l6] s h = rf d 284 1872 [l0, l1, l2, some (.ref a), l4, l5, l6] (.ref a :: s) h := rf_pure (i := .aload_n 3) (len := 1) (okD_ok (by decide +kernel)) rfl
theorem e284_1872 : rf d 284 1872 ls s h = rf d 284 1873 ls (.int 0 :: s) h := rf_pure (i := .iconst (0)) (len := 1) (okD_ok (by decide +kernel)) rfl
theorem e284_1873 (q : la n a j) : rf d 284 1873 ls (.int j :: .ref a :: s) (SH n, I, L, R, nc, ns, nx) = rf d 284 1874 ls (.long (L a j.toNatClampNeg) :: s) (SH n, I, L, R, nc, ns, nx) := g_lal (by decide +kernel) q
theorem e284_1874 : rf d 284 1874 [l0, l1, l2, l3, l4, l5, some (.int x)] s h = rf d 284 1876 [l0, l1, l2, l3, l4, l5, some (.int x)] (.int x :: s) h := rf_pure (i := .iload 6) (len := 2) (okD_ok (by decide +kernel)) rfl
theorem e284_1876 : rf d 284 1876 ls (.int x :: s) h = rf d 284 1877 ls (.long x.toInt64 :: s) h := rf_pure (i := .i2l) (len := 1) (okD_ok (by decide +kernel)) rfl
theorem e284_1877 : rf d 284 1877 ls (.long v :: .long u :: s) h = rf d 284 1878 ls (.int (lg_cmp u v) :: s) h := rf_pure (i := .lcmp) (len := 1) (okD_ok (by decide +kernel)) rfl
theorem e284_1878 : rf d 284 1878 ls (.int x :: s) h = if x = 0 then rf d 284 1883 ls s h else rf d 284 1881 ls s h := g_if (c := .eq) (off := 5) _ (by decide +kernel) rfl cmp_d
theorem e284_1881 : rf d 284 1881 ls s h = rf d 284 1882 ls (.int 0 :: s) h := rf_pure (i := .iconst (0)) (len := 1) (okD_ok (by decide +kernel)) rfl
theorem e284_1882 (hx : x = 0 ∨ x = 1) : rf d 284 1882 ls [.int x] h = some (.inl (some (.int x)), h) := g_rz (by decide +kernel) rt284 hx
theorem e284_1883 : rf d 284 1883 ls s h = rf d 284 2520 ls s h := rf_goto ⟨okD_ok (i := .goto (637)) (len := 3) (by decide +kernel), rfl⟩
theorem e284_1886 : rf d 284 1886 [l0, some (.ref a), l2, l3, l4, l5, l6] s h = rf d 284 1887 [l0, some (.ref a), l2, l3, l4, l5, l6] (.ref a :: s) h := rf_pure (i := .aload_n 1) (len := 1) (okD_ok (by decide +kernel)) rfl
theorem e284_1887 (hcat : ip_cat s ≤ 8) : rf (d + 1) 284 1887 ls (.ref 2 :: s) (SH n, I, L, R, nc, ns, nx) = rf_k (d + 1) 284 1887 ls s (cf d 21 [.ref 2] (SH n, I, L, R, nc, ns, nx)) := g_cv (idx := 212) (t := 7) [] (by decide +kernel) ow284 ms_9_212 mt_9_212 cy21_7 rfl rfl mL21 rfl rfl (by decide) hcat
theorem e284_1890 : rf d 284 1890 [l0, l1, some (.ref a), l3, l4, l5, l6] s h = rf d 284 1891 [l0, l1, some (.ref a), l3, l4, l5, l6] (.ref a :: s) h := rf_pure (i := .aload_n 2) (len := 1) (okD_ok (by decide +kernel)) rfl
theorem e284_1891 (hcat : ip_cat s ≤ 8) : rf (d + 1) 284 1891 ls (.ref 265 :: s) (SH n, I, L, R, nc, ns, nx) = rf_k (d + 1) 284 1891 ls s (cf d 269 [.ref 265] (SH n, I, L, R, nc, ns, nx)) := g_cv (idx := 215) (t := 8) [] (by decide +kernel) ow284 ms_9_215 mt_9_215 cy269_8 rfl rfl mL269 rfl rfl (by decide) hcat
theorem e284_1894 : rf d 284 1894 ls (.int y :: .int x :: s) h = if x = y then rf d 284 2520 ls s h else rf d 284 1897 ls s h := g_ic (c := .eq) (off := 626) _ (by decide +kernel) rfl cmp_d
theorem e284_1897 : rf d 284 1897 ls s h = rf d 284 1898 ls (.int 0 :: s) h := rf_pure (i := .iconst (0)) (len := 1) (okD_ok (by decide +kernel)) rfl
theorem e284_1898 (hx : x = 0 ∨ x = 1) : rf d 284 1898 ls [.int x] h = some (.inl (some (.int x)), h) := g_rz (by decide +kernel) rt284 hx
theorem e284_1899 : rf d 284 1899 [l0, some (.ref a), l2, l3, l4, l5, l6] s h = rf d 284 1900 [l0, some (.ref a), l2, l3, l4, l5, l6] (.ref a :: s) h := rf_pure (i := .aload_n 1) (len := 1) (okD_ok (by decide +kernel)) rfl
theorem e284_1900 (hcat : ip_cat s ≤ 8) : rf (d + 1) 284 1900 ls (.ref 2 :: s) (SH n, I, L, R, nc, ns, nx) = rf_k (d + 1) 284 1900 ls s (cf d 22 [.ref 2] (SH n, I, L, R, nc, ns, nx)) := g_cv (idx := 216) (t := 7) [] (by decide +kernel) ow284 ms_9_216 mt_9_216 cy22_7 rfl rfl mL22 rfl rfl (by decide) hcat
theorem e284_1903 : rf d 284 1903 [l0, l1, some (.ref a), l3, l4, l5, l6] s h = rf d 284 1904 [l0, l1, some (.ref a), l3, l4, l5, l6] (.ref a :: s) h := rf_pure (i := .aload_n 2) (len := 1) (okD_ok (by decide +kernel)) rfl
theorem e284_1904 (hcat : ip_cat s ≤ 8) : rf (d + 1) 284 1904 ls (.ref 265 :: s) (SH n, I, L, R, nc, ns, nx) = rf_k (d + 1) 284 1904 ls s (cf d 270 [.ref 265] (SH n, I, L, R, nc, ns, nx)) := g_cv (idx := 219) (t := 8) [] (by decide +kernel) ow284 ms_9_219 mt_9_219 cy270_8 rfl rfl mL270 rfl rfl (by decide) hcat
theorem e284_1907 : rf d 284 1907 ls (.int y :: .int x :: s) h = if x = y then rf d 284 2520 ls s h else rf d 284 1910 ls s h := g_ic (c := .eq) (off := 613) _ (by decide +kernel) rfl cmp_d
theorem e284_1910 : rf d 284 1910 ls s h = rf d 284 1911 ls (.int 0 :: s) h := rf_pure (i := .iconst (0)) (len := 1) (okD_ok (by decide +kernel)) rfl
theorem e284_1911 (hx : x = 0 ∨ x = 1) : rf d 284 1911 ls [.int x] h = some (.inl (some (.int x)), h) := g_rz (by decide +kernel) rt284 hx
theorem e284_1912 : rf d 284 1912 [l0, some (.ref a), l2, l3, l4, l5, l6] s h = rf d 284 1913 [l0, some (.ref a), l2, l3, l4, l5, l6] (.ref a :: s) h := rf_pure (i := .aload_n 1) (len := 1) (okD_ok (by decide +kernel)) rfl
theorem e284_1913 : rf d 284 1913 [some (.ref a), l1, l2, l3, l4, l5, l6] s h = rf d 284 1914 [some (.ref a), l1, l2, l3, l4, l5, l6] (.ref a :: s) h := rf_pure (i := .aload_n 0) (len := 1) (okD_ok (by decide +kernel)) rfl
theorem e284_1914 : rf d 284 1914 [l0, l1, l2, l3, some (.int x), l5, l6] s h = rf d 284 1916 [l0, l1, l2, l3, some (.int x), l5, l6] (.int x :: s) h := rf_pure (i := .iload 4) (len := 2) (okD_ok (by decide +kernel)) rfl
theorem e284_1916 : rf d 284 1916 ls s h = rf d 284 1917 ls (.int 1 :: s) h := rf_pure (i := .iconst (1)) (len := 1) (okD_ok (by decide +kernel)) rfl
theorem e284_1917 : rf d 284 1917 ls (.int y :: .int x :: s) h = rf d 284 1918 ls (.int (x + y) :: s) h := rf_pure (i := .iadd) (len := 1) (okD_ok (by decide +kernel)) rfl
theorem e284_1918 (q : inb j n) : rf d 284 1918 ls (.int j :: .ref 0 :: s) (SH n, I, L, R, nc, ns, nx) = rf d 284 1919 ls (.int (I 0 j.toNatClampNeg) :: s) (SH n, I, L, R, nc, ns, nx) := g_sal (by decide +kernel) q
theorem e284_1919 : rf d 284 1919 [l0, l1, l2, some (.ref a), l4, l5, l6] s h = rf d 284 1920 [l0, l1, l2, some (.ref a), l4, l5, l6] (.ref a :: s) h := rf_pure (i := .aload_n 3) (len := 1) (okD_ok (by decide +kernel)) rfl
theorem e284_1920 (hcat : ip_cat s ≤ 8) : rf (d + 1) 284 1920 ls (.ref a2 :: .int x1 :: .ref a0 :: s) h = rf_k (d + 1) 284 1920 ls s (cf d 162 [.ref a0, .int x1, .ref a2] h) := g_cs (idx := 220) [.ref a2, .int x1, .ref a0] (by decide +kernel) ow284 ms_9_220 mt_9_220 (by decide) rfl mL162 rfl hcat
theorem e284_1923 (hn : ip_nl l4 = true) : rf d 284 1923 [l0, l1, l2, l3, l4, l5, l6] (.int x :: s) h = rf d 284 1925 [l0, l1, l2, l3, l4, some (.int x), l6] s h := g_sti (i := .istore 5) (len := 2) (q := 4) (p := 2) (by decide +kernel) rfl rfl hn
theorem e284_1925 : rf d 284 1925 [l0, l1, some (.ref a), l3, l4, l5, l6] s h = rf d 284 1926 [l0, l1, some (.ref a), l3, l4, l5, l6] (.ref a :: s) h := rf_pure (i := .aload_n 2) (len := 1) (okD_ok (by decide +kernel)) rfl
theorem e284_1926 : rf d 284 1926 [some (.ref a), l1, l2, l3, l4, l5, l6] s h = rf d 284 1927 [some (.ref a), l1, l2, l3, l4, l5, l6] (.ref a :: s) h := rf_pure (i := .aload_n 0) (len := 1) (okD_ok (by decide +kernel)) rfl
theorem e284_1927 : rf d 284 1927 [l0, l1, l2, l3, some (.int x), l5, l6] s h = rf d 284 1929 [l0, l1, l2, l3, some (.int x), l5, l6] (.int x :: s) h := rf_pure (i := .iload 4) (len := 2) (okD_ok (by decide +kernel)) rfl
theorem e284_1929 : rf d 284 1929 ls s h = rf d 284 1930 ls (.int 1 :: s) h := rf_pure (i := .iconst (1)) (len := 1) (okD_ok (by decide +kernel)) rfl
theorem e284_1930 : rf d 284 1930 ls (.int y :: .int x :: s) h = rf d 284 1931 ls (.int (x + y) :: s) h := rf_pure (i := .iadd) (len := 1) (okD_ok (by decide +kernel)) rfl
theorem e284_1931 (q : inb j n) : rf d 284 1931 ls (.int j :: .ref 0 :: s) (SH n, I, L, R, nc, ns, nx) = rf d 284 1932 ls (.int (I 0 j.toNatClampNeg) :: s) (SH n, I, L, R, nc, ns, nx) := g_sal (by decide +kernel) q
theorem e284_1932 (hcat : ip_cat s ≤ 8) : rf (d + 1) 284 1932 ls (.int x0 :: .ref 265 :: s) (SH n, I, L, R, nc, ns, nx) = rf_k (d + 1) 284 1932 ls s (cf d 271 [.ref 265, .int x0] (SH n, I, L, R, nc, ns, nx)) := g_cv (idx := 222) (t := 8) [.int x0] (by decide +kernel) ow284 ms_9_222 mt_9_222 cy271_8 rfl rfl mL271 rfl rfl (by decide) hcat
theorem e284_1935 (hn : ip_nl l5 = true) : rf d 284 1935 [l0, l1, l2, l3, l4, l5, l6] (.int x :: s) h = rf d 284 1937 [l0, l1, l2, l3, l4, l5, some (.int x)] s h := g_sti (i := .istore 6) (len := 2) (q := 5) (p := 2) (by decide +kernel) rfl rfl hn
theorem e284_1937 : rf d 284 1937 [l0, l1, some (.ref a), l3, l4, l5, l6] s h = rf d 284 1938 [l0, l1, some (.ref a), l3, l4, l5, l6] (.ref a :: s) h := rf_pure (i := .aload_n 2) (len := 1) (okD_ok (by decide +kernel)) rfl
theorem e284_1938 (hcat : ip_cat s ≤ 8) : rf (d + 1) 284 1938 ls (.ref 265 :: s) (SH n, I, L, R, nc, ns, nx) = rf_k (d + 1) 284 1938 ls s (cf d 189 [.ref 265] (SH n, I, L, R, nc, ns, nx)) := g_cv (idx := 133) (t := 8) [] (by decide +kernel) ow284 ms_9_133 mt_9_133 cy189_8 rfl rfl mL189 rfl rfl (by decide) hcat
theorem e284_1941 : rf d 284 1941 [l0, l1, l2, l3, l4, some (.int x), l6] s h = rf d 284 1943 [l0, l1, l2, l3, l4, some (.int x), l6] (.int x :: s) h := rf_pure (i := .iload 5) (len := 2) (okD_ok (by decide +kernel)) rfl
theorem e284_1943 : rf d 284 1943 ls (.int y :: .int x :: s) h = if x = y then rf d 284 1948 ls s h else rf d 284 1946 ls s h := g_ic (c := .eq) (off := 5) _ (by decide +kernel) rfl cmp_d
theorem e284_1946 : rf d 284 1946 ls s h = rf d 284 1947 ls (.int 0 :: s) h := rf_pure (i := .iconst (0)) (len := 1) (okD_ok (by decide +kernel)) rfl
theorem e284_1947 (hx : x = 0 ∨ x = 1) : rf d 284 1947 ls [.int x] h = some (.inl (some (.int x)), h) := g_rz (by decide +kernel) rt284 hx
theorem e284_1948 : rf d 284 1948 [l0, l1, l2, l3, l4, some (.int x), l6] s h = rf d 284 1950 [l0, l1, l2, l3, l4, some (.int x), l6] (.int x :: s) h := rf_pure (i := .iload 5) (len := 2) (okD_ok (by decide +kernel)) rfl
theorem e284_1950 : rf d 284 1950 ls (.int x :: s) h = if ¬ x = 0 then rf d 284 1965 ls s h else rf d 284 1953 ls s h := g_if (c := .ne) (off := 15) _ (by decide +kernel) rfl cmp_d
theorem e284_1953 : rf d 284 1953 [l0, l1, l2, some (.ref a), l4, l5, l6] s h = rf d 284 1954 [l0, l1, l2, some (.ref a), l4, l5, l6] (.ref a :: s) h := rf_pure (i := .aload_n 3) (len := 1) (okD_ok (by decide +kernel)) rfl
theorem e284_1954 : rf d 284 1954 ls s h = rf d 284 1955 ls (.int 0 :: s) h := rf_pure (i := .iconst (0)) (len := 1) (okD_ok (by decide +kernel)) rfl
theorem e284_1955 (q : la n a j) : rf d 284 1955 ls (.int j :: .ref a :: s) (SH n, I, L, R, nc, ns, nx) = rf d 284 1956 ls (.long (L a j.toNatClampNeg) :: s) (SH n, I, L, R, nc, ns, nx) := g_lal (by decide +kernel) q
theorem e284_1956 : rf d 284 1956 [l0, l1, l2, l3, l4, l5, some (.int x)] s h = rf d 284 1958 [l0, l1, l2, l3, l4, l5, some (.int x)] (.int x :: s) h := rf_pure (i := .iload 6) (len := 2) (okD_ok (by decide +kernel)) rfl
theorem e284_1958 : rf d 284 1958 ls (.int x :: s) h = rf d 284 1959 ls (.long x.toInt64 :: s) h := rf_pure (i := .i2l) (len := 1) (okD_ok (by decide +kernel)) rfl
theorem e284_1959 : rf d 284 1959 ls (.long v :: .long u :: s) h = rf d 284 1960 ls (.int (lg_cmp u v) :: s) h := rf_pure (i := .lcmp) (len := 1) (okD_ok (by decide +kernel)) rfl
theorem e284_1960 : rf d 284 1960 ls (.int x :: s) h = if x = 0 then rf d 284 1965 ls s h else rf d 284 1963 ls s h := g_if (c := .eq) (off := 5) _ (by decide +kernel) rfl cmp_d
theorem e284_1963 : rf d 284 1963 ls s h = rf d 284 1964 ls (.int 0 :: s) h := rf_pure (i := .iconst (0)) (len := 1) (okD_ok (by decide +kernel)) rfl
theorem e284_1964 (hx : x = 0 ∨ x = 1) : rf d 284 1964 ls [.int x] h = some (.inl (some (.int x)), h) := g_rz (by decide +kernel) rt284 hx
theorem e284_1965 : rf d 284 1965 ls s h = rf d 284 2520 ls s h := rf_goto ⟨okD_ok (i := .goto (555)) (len := 3) (by decide +kernel), rfl⟩
theorem e284_1968 : rf d 284 1968 [l0, some (.ref a), l2, l3, l4, l5, l6] s h = rf d 284 1969 [l0, some (.ref a), l2, l3, l4, l5, l6] (.ref a :: s) h := rf_pure (i := .aload_n 1) (len := 1) (okD_ok (by decide +kernel)) rfl
theorem e284_1969 : rf d 284 1969 [some (.ref a), l1, l2, l3, l4, l5, l6] s h = rf d 284 1970 [some (.ref a), l1, l2, l3, l4, l5, l6] (.ref a :: s) h := rf_pure (i := .aload_n 0) (len := 1) (okD_ok (by decide +kernel)) rfl
theorem e284_1970 : rf d 284 1970 [l0, l1, l2, l3, some (.int x), l5, l6] s h = rf d 284 1972 [l0, l1, l2, l3, some (.int x), l5, l6] (.int x :: s) h := rf_pure (i := .iload 4) (len := 2) (okD_ok (by decide +kernel)) rfl
theorem e284_1972 : rf d 284 1972 ls s h = rf d 284 1973 ls (.int 1 :: s) h := rf_pure (i := .iconst (1)) (len := 1) (okD_ok (by decide +kernel)) rfl
theorem e284_1973 : rf d 284 1973 ls (.int y :: .int x :: s) h = rf d 284 1974 ls (.int (x + y) :: s) h := rf_pure (i := .iadd) (len := 1) (okD_ok (by decide +kernel)) rfl
theorem e284_1974 (q : inb j n) : rf d 284 1974 ls (.int j :: .ref 0 :: s) (SH n, I, L, R, nc, ns, nx) = rf d 284 1975 ls (.int (I 0 j.toNatClampNeg) :: s) (SH n, I, L, R, nc, ns, nx) := g_sal (by decide +kernel) q
theorem e284_1975 : rf d 284 1975 [l0, l1, l2, some (.ref a), l4, l5, l6] s h = rf d 284 1976 [l0, l1, l2, some (.ref a), l4, l5, l6] (.ref a :: s) h := rf_pure (i := .aload_n 3) (len := 1) (okD_ok (by decide +kernel)) rfl
theorem e284_1976 (hcat : ip_cat s ≤ 8) : rf (d + 1) 284 1976 ls (.ref a2 :: .int x1 :: .ref a0 :: s) h = rf_k (d + 1) 284 1976 ls s (cf d 164 [.ref a0, .int x1, .ref a2] h) := g_cs (idx := 223) [.ref a2, .int x1, .ref a0] (by decide +kernel) ow284 ms_9_223 mt_9_223 (by decide) rfl mL164 rfl hcat
theorem e284_1979 (hn : ip_nl l4 = true) : rf d 284 1979 [l0, l1, l2, l3, l4, l5, l6] (.int x :: s) h = rf d 284 1981 [l0, l1, l2, l3, l4, some (.int x), l6] s h := g_sti (i := .istore 5) (len := 2) (q := 4) (p := 2) (by decide +kernel) rfl rfl hn
theorem e284_1981 : rf d 284 1981 [l0, l1, some (.ref a), l3, l4, l5, l6] s h = rf d 284 1982 [l0, l1, some (.ref a), l3, l4, l5, l6] (.ref a :: s) h := rf_pure (i := .aload_n 2) (len := 1) (okD_ok (by decide +kernel)) rfl
theorem e284_1982 : rf d 284 1982 [some (.ref a), l1, l2, l3, l4, l5, l6] s h = rf d 284 1983 [some (.ref a), l1, l2, l3, l4, l5, l6] (.ref a :: s) h := rf_pure (i := .aload_n 0) (len := 1) (okD_ok (by decide +kernel)) rfl
theorem e284_1983 : rf d 284 1983 [l0, l1, l2, l3, some (.int x), l5, l6] s h = rf d 284 1985 [l0, l1, l2, l3, some (.int x), l5, l6] (.int x :: s) h := rf_pure (i := .iload 4) (len := 2) (okD_ok (by decide +kernel)) rfl
theorem e284_1985 : rf d 284 1985 ls s h = rf d 284 1986 ls (.int 1 :: s) h := rf_pure (i := .iconst (1)) (len := 1) (okD_ok (by decide +kernel)) rfl
theorem e284_1986 : rf d 284 1986 ls (.int y :: .int x :: s) h = rf d 284 1987 ls (.int (x + y) :: s) h := rf_pure (i := .iadd) (len := 1) (okD_ok (by decide +kernel)) rfl
theorem e284_1987 (q : inb j n) : rf d 284 1987 ls (.int j :: .ref 0 :: s) (SH n, I, L, R, nc, ns, nx) = rf d 284 1988 ls (.int (I 0 j.toNatClampNeg) :: s) (SH n, I, L, R, nc, ns, nx) := g_sal (by decide +kernel) q
theorem e284_1988 (hcat : ip_cat s ≤ 8) : rf (d + 1) 284 1988 ls (.int x0 :: .ref 265 :: s) (SH n, I, L, R, nc, ns, nx) = rf_k (d + 1) 284 1988 ls s (cf d 272 [.ref 265, .int x0] (SH n, I, L, R, nc, ns, nx)) := g_cv (idx := 225) (t := 8) [.int x0] (by decide +kernel) ow284 ms_9_225 mt_9_225 cy272_8 rfl rfl mL272 rfl rfl (by decide) hcat
theorem e284_1991 (hn : ip_nl l5 = true) : rf d 284 1991 [l0, l1, l2, l3, l4, l5, l6] (.int x :: s) h = rf d 284 1993 [l0, l1, l2, l3, l4, l5, some (.int x)] s h := g_sti (i := .istore 6) (len := 2) (q := 5) (p := 2) (by decide +kernel) rfl rfl hn
theorem e284_1993 : rf d 284 1993 [l0, l1, some (.ref a), l3, l4, l5, l6] s h = rf d 284 1994 [l0, l1, some (.ref a), l3, l4, l5, l6] (.ref a :: s) h := rf_pure (i := .aload_n 2) (len := 1) (okD_ok (by decide +kernel)) rfl
theorem e284_1994 (hcat : ip_cat s ≤ 8) : rf (d + 1) 284 1994 ls (.ref 265 :: s) (SH n, I, L, R, nc, ns, nx) = rf_k (d + 1) 284 1994 ls s (cf d 189 [.ref 265] (SH n, I, L, R, nc, ns, nx)) := g_cv (idx := 133) (t := 8) [] (by decide +kernel) ow284 ms_9_133 mt_9_133 cy189_8 rfl rfl mL189 rfl rfl (by decide) hcat
theorem e284_1997 : rf d 284 1997 [l0, l1, l2, l3, l4, some (.int x), l6] s h = rf d 284 1999 [l0, l1, l2, l3, l4, some (.int x), l6] (.int x :: s) h := rf_pure (i := .iload 5) (len := 2) (okD_ok (by decide +kernel)) rfl
theorem e284_1999 : rf d 284 1999 ls (.int y :: .int x :: s) h = if x = y then rf d 284 2004 ls s h else rf d 284 2002 ls s h := g_ic (c := .eq) (off := 5) _ (by decide +kernel) rfl cmp_d
theorem e284_2002 : rf d 284 2002 ls s h = rf d 284 2003 ls (.int 0 :: s) h := rf_pure (i := .iconst (0)) (len := 1) (okD_ok (by decide +kernel)) rfl
theorem e284_2003 (hx : x = 0 ∨ x = 1) : rf d 284 2003 ls [.int x] h = some (.inl (some (.int x)), h) := g_rz (by decide +kernel) rt284 hx
theorem e284_2004 : rf d 284 2004 [l0, l1, l2, l3, l4, some (.int x), l6] s h = rf d 284 2006 [l0, l1, l2, l3, l4, some (.int x), l6] (.int x :: s) h := rf_pure (i := .iload 5) (len := 2) (okD_ok (by decide +kernel)) rfl
theorem e284_2006 : rf d 284 2006 ls (.int x :: s) h = if ¬ x = 0 then rf d 284 2021 ls s h else rf d 284 2009 ls s h := g_if (c := .ne) (off := 15) _ (by decide +kernel) rfl cmp_d
theorem e284_2009 : rf d 284 2009 [l0, l1, l2, some (.ref a), l4, l5, l6] s h = rf d 284 2010 [l0, l1, l2, some (.ref a), l4, l5, l6] (.ref a :: s) h := rf_pure (i := .aload_n 3) (len := 1) (okD_ok (by decide +kernel)) rfl
theorem e284_2010 : rf d 284 2010 ls s h = rf d 284 2011 ls (.int 0 :: s) h := rf_pure (i := .iconst (0)) (len := 1) (okD_ok (by decide +kernel)) rfl
theorem e284_2011 (q : la n a j) : rf d 284 2011 ls (.int j :: .ref a :: s) (SH n, I, L, R, nc, ns, nx) = rf d 284 2012 ls (.long (L a j.toNatClampNeg) :: s) (SH n, I, L, R, nc, ns, nx) := g_lal (by decide +kernel) q
theorem e284_2012 : rf d 284 2012 [l0, l1, l2, l3, l4, l5, some (.int x)] s h = rf d 284 2014 [l0, l1, l2, l3, l4, l5, some (.int x)] (.int x :: s) h := rf_pure (i := .iload 6) (len := 2) (okD_ok (by decide +kernel)) rfl
theorem e284_2014 : rf d 284 2014 ls (.int x :: s) h = rf d 284 2015 ls (.long x.toInt64 :: s) h := rf_pure (i := .i2l) (len := 1) (okD_ok (by decide +kernel)) rfl
theorem e284_2015 : rf d 284 2015 ls (.long v :: .long u :: s) h = rf d 284 2016 ls (.int (lg_cmp u v) :: s) h := rf_pure (i := .lcmp) (len := 1) (okD_ok (by decide +kernel)) rfl
theorem e284_2016 : rf d 284 2016 ls (.int x :: s) h = if x = 0 then rf d 284 2021 ls s h else rf d 284 2019 ls s h := g_if (c := .eq) (off := 5) _ (by decide +kernel) rfl cmp_d
theorem e284_2019 : rf d 284 2019 ls s h = rf d 284 2020 ls (.int 0 :: s) h := rf_pure (i := .iconst (0)) (len := 1) (okD_ok (by decide +kernel)) rfl
theorem e284_2020 (hx : x = 0 ∨ x = 1) : rf d 284 2020 ls [.int x] h = some (.inl (some (.int x)), h) := g_rz (by decide +kernel) rt284 hx
theorem e284_2021 : rf d 284 2021 ls s h = rf d 284 2520 ls s h := rf_goto ⟨okD_ok (i := .goto (499)) (len := 3) (by decide +kernel), rfl⟩
theorem e284_2024 : rf d 284 2024 [l0, some (.ref a), l2, l3, l4, l5, l6] s h = rf d 284 2025 [l0, some (.ref a), l2, l3, l4, l5, l6] (.ref a :: s) h := rf_pure (i := .aload_n 1) (len := 1) (okD_ok (by decide +kernel)) rfl
theorem e284_2025 : rf d 284 2025 [some (.ref a), l1, l2, l3, l4, l5, l6] s h = rf d 284 2026 [some (.ref a), l1, l2, l3, l4, l5, l6] (.ref a :: s) h := rf_pure (i := .aload_n 0) (len := 1) (okD_ok (by decide +kernel)) rfl
theorem e284_2026 : rf d 284 2026 [l0, l1, l2, l3, some (.int x), l5, l6] s h = rf d 284 2028 [l0, l1, l2, l3, some (.int x), l5, l6] (.int x :: s) h := rf_pure (i := .iload 4) (len := 2) (okD_ok (by decide +kernel)) rfl
theorem e284_2028 : rf d 284 2028 ls s h = rf d 284 2029 ls (.int 1 :: s) h := rf_pure (i := .iconst (1)) (len := 1) (okD_ok (by decide +kernel)) rfl
theorem e284_2029 : rf d 284 2029 ls (.int y :: .int x :: s) h = rf d 284 2030 ls (.int (x + y) :: s) h := rf_pure (i := .iadd) (len := 1) (okD_ok (by decide +kernel)) rfl
theorem e284_2030 (q : inb j n) : rf d 284 2030 ls (.int j :: .ref 0 :: s) (SH n, I, L, R, nc, ns, nx) = rf d 284 2031 ls (.int (I 0 j.toNatClampNeg) :: s) (SH n, I, L, R, nc, ns, nx) := g_sal (by decide +kernel) q
theorem e284_2031 (hcat : ip_cat s ≤ 8) : rf (d + 1) 284 2031 ls (.int x0 :: .ref 2 :: s) (SH n, I, L, R, nc, ns, nx) = rf_k (d + 1) 284 2031 ls s (cf d 25 [.ref 2, .int x0] (SH n, I, L, R, nc, ns, nx)) := g_cv (idx := 226) (t := 7) [.int x0] (by decide +kernel) ow284 ms_9_226 mt_9_226 cy25_7 rfl rfl mL25 rfl rfl (by decide) hcat
theorem e284_2034 : rf d 284 2034 [l0, l1, some (.ref a), l3, l4, l5, l6] s h = rf d 284 2035 [l0, l1, some (.ref a), l3, l4, l5, l6] (.ref a :: s) h := rf_pure (i := .aload_n 2) (len := 1) (okD_ok (by decide +kernel)) rfl
theorem e284_2035 : rf d 284 2035 [some (.ref a), l1, l2, l3, l4, l5, l6] s h = rf d 284 2036 [some (.ref a), l1, l2, l3, l4, l5, l6] (.ref a :: s) h := rf_pure (i := .aload_n 0) (len := 1) (okD_ok (by decide +kernel)) rfl
theorem e284_2036 : rf d 284 2036 [l0, l1, l2, l3, some (.int x), l5, l6] s h = rf d 284 2038 [l0, l1, l2, l3, some (.int x), l5, l6] (.int x :: s) h := rf_pure (i := .iload 4) (len := 2) (okD_ok (by decide +kernel)) rfl
theorem e284_2038 : rf d 284 2038 ls s h = rf d 284 2039 ls (.int 1 :: s) h := rf_pure (i := .iconst (1)) (len := 1) (okD_ok (by decide +kernel)) rfl
theorem e284_2039 : rf d 284 2039 ls (.int y :: .int x :: s) h = rf d 284 2040 ls (.int (x + y) :: s) h := rf_pure (i := .iadd) (len := 1) (okD_ok (by decide +kernel)) rfl
theorem e284_2040 (q : inb j n) : rf d 284 2040 ls (.int j :: .ref 0 :: s) (SH n, I, L, R, nc, ns, nx) = rf d 284 2041 ls (.int (I 0 j.toNatClampNeg) :: s) (SH n, I, L, R, nc, ns, nx) := g_sal (by decide +kernel) q
theorem e284_2041 (hcat : ip_cat s ≤ 8) : rf (d + 1) 284 2041 ls (.int x0 :: .ref 265 :: s) (SH n, I, L, R, nc, ns, nx) = rf_k (d + 1) 284 2041 ls s (cf d 275 [.ref 265, .int x0] (SH n, I, L, R, nc, ns, nx)) := g_cv (idx := 229) (t := 8) [.int x0] (by decide +kernel) ow284 ms_9_229 mt_9_229 cy275_8 rfl rfl mL275 rfl rfl (by decide) hcat
theorem e284_2044 : rf d 284 2044 ls (.int y :: .int x :: s) h = if x = y then rf d 284 2520 ls s h else rf d 284 2047 ls s h := g_ic (c := .eq) (off := 476) _ (by decide +kernel) rfl cmp_d
theorem e284_2047 : rf d 284 2047 ls s h = rf d 284 2048 ls (.int 0 :: s) h := rf_pure (i := .iconst (0)) (len := 1) (okD_ok (by decide +kernel)) rfl
theorem e284_2048 (hx : x = 0 ∨ x = 1) : rf d 284 2048 ls [.int x] h = some (.inl (some (.int x)), h) := g_rz (by decide +kernel) rt284 hx
theorem e284_2049 : rf d 284 2049 [l0, some (.ref a), l2, l3, l4, l5, l6] s h = rf d 284 2050 [l0, some (.ref a), l2, l3, l4, l5, l6] (.ref a :: s) h := rf_pure (i := .aload_n 1) (len := 1) (okD_ok (by decide +kernel)) rfl
theorem e284_2050 : rf d 284 2050 [some (.ref a), l1, l2, l3, l4, l5, l6] s h = rf d 284 2051 [some (.ref a), l1, l2, l3, l4, l5, l6] (.ref a :: s) h := rf_pure (i := .aload_n 0) (len := 1) (okD_ok (by decide +kernel)) rfl
theorem e284_2051 : rf d 284 2051 [l0, l1, l2, l3, some (.int x), l5, l6] s h = rf d 284 2053 [l0, l1, l2, l3, some (.int x), l5, l6] (.int x :: s) h := rf_pure (i := .iload 4) (len := 2) (okD_ok (by decide +kernel)) rfl
theorem e284_2053 : rf d 284 2053 ls s h = rf d 284 2054 ls (.int 1 :: s) h := rf_pure (i := .iconst (1)) (len := 1) (okD_ok (by decide +kernel)) rfl
theorem e284_2054 : rf d 284 2054 ls (.int y :: .int x :: s) h = rf d 284 2055 ls (.int (x + y) :: s) h := rf_pure (i := .iadd) (len := 1) (okD_ok (by decide +kernel)) rfl
theorem e284_2055 (q : inb j n) : rf d 284 2055 ls (.int j :: .ref 0 :: s) (SH n, I, L, R, nc, ns, nx) = rf d 284 2056 ls (.int (I 0 j.toNatClampNeg) :: s) (SH n, I, L, R, nc, ns, nx) := g_sal (by decide +kernel) q
theorem e284_2056 : rf d 284 2056 [some (.ref a), l1, l2, l3, l4, l5, l6] s h = rf d 284 2057 [some (.ref a), l1, l2, l3, l4, l5, l6] (.ref a :: s) h := rf_pure (i := .aload_n 0) (len := 1) (okD_ok (by decide +kernel)) rfl
theorem e284_2057 : rf d 284 2057 [l0, l1, l2, l3, some (.int x), l5, l6] s h = rf d 284 2059 [l0, l1, l2, l3, some (.int x), l5, l6] (.int x :: s) h := rf_pure (i := .iload 4) (len := 2) (okD_ok (by decide +kernel)) rfl
theorem e284_2059 : rf d 284 2059 ls s h = rf d 284 2060 ls (.int 2 :: s) h := rf_pure (i := .iconst (2)) (len := 1) (okD_ok (by decide +kernel)) rfl
theorem e284_2060 : rf d 284 2060 ls (.int y :: .int x :: s) h = rf d 284 2061 ls (.int (x + y) :: s) h := rf_pure (i := .iadd) (len := 1) (okD_ok (by decide +kernel)) rfl
theorem e284_2061 (q : inb j n) : rf d 284 2061 ls (.int j :: .ref 0 :: s) (SH n, I, L, R, nc, ns, nx) = rf d 284 2062 ls (.int (I 0 j.toNatClampNeg) :: s) (SH n, I, L, R, nc, ns, nx) := g_sal (by decide +kernel) q
theorem e284_2062 : rf d 284 2062 [some (.ref a), l1, l2, l3, l4, l5, l6] s h = rf d 284 2063 [some (.ref a), l1, l2, l3, l4, l5, l6] (.ref a :: s) h := rf_pure (i := .aload_n 0) (len := 1) (okD_ok (by decide +kernel)) rfl
theorem e284_2063 : rf d 284 2063 [l0, l1, l2, l3, some (.int x), l5, l6] s h = rf d 284 2065 [l0, l1, l2, l3, some (.int x), l5, l6] (.int x :: s) h := rf_pure (i := .iload 4) (len := 2) (okD_ok (by decide +kernel)) rfl
theorem e284_2065 : rf d 284 2065 ls s h = rf d 284 2066 ls (.int 3 :: s) h := rf_pure (i := .iconst (3)) (len := 1) (okD_ok (by decide +kernel)) rfl
theorem e284_2066 : rf d 284 2066 ls (.int y :: .int x :: s) h = rf d 284 2067 ls (.int (x + y) :: s) h := rf_pure (i := .iadd) (len := 1) (okD_ok (by decide +kernel)) rfl
theorem e284_2067 (q : inb j n) : rf d 284 2067 ls (.int j :: .ref 0 :: s) (SH n, I, L, R, nc, ns, nx) = rf d 284 2068 ls (.int (I 0 j.toNatClampNeg) :: s) (SH n, I, L, R, nc, ns, nx) := g_sal (by decide +kernel) q
theorem e284_2068 : rf d 284 2068 [l0, l1, l2, some (.ref a), l4, l5, l6] s h = rf d 284 2069 [l0, l1, l2, some (.ref a), l4, l5, l6] (.ref a :: s) h := rf_pure (i := .aload_n 3) (len := 1) (okD_ok (by decide +kernel)) rfl
theorem e284_2069 (hcat : ip_cat s ≤ 8) : rf (d + 1) 284 2069 ls (.ref a4 :: .int x3 :: .int x2 :: .int x1 :: .ref a0 :: s) h = rf_k (d + 1) 284 2069 ls s (cf d 169 [.ref a0, .int x1, .int x2, .int x3, .ref a4] h) := g_cs (idx := 230) [.ref a4, .int x3, .int x2, .int x1, .ref a0] (by decide +kernel) ow284 ms_9_230 mt_9_230 (by decide) rfl mL169 rfl hcat
theorem e284_2072 (hn : ip_nl l4 = true) : rf d 284 2072 [l0, l1, l2, l3, l4, l5, l6] (.int x :: s) h = rf d 284 2074 [l0, l1, l2, l3, l4, some (.int x), l6] s h := g_sti (i := .istore 5) (len := 2) (q := 4) (p := 2) (by decide +kernel) rfl rfl hn
theorem e284_2074 : rf d 284 2074 [l0, l1, some (.ref a), l3, l4, l5, l6] s h = rf d 284 2075 [l0, l1, some (.ref a), l3, l4, l5, l6] (.ref a :: s) h := rf_pure (i := .aload_n 2) (len := 1) (okD_ok (by decide +kernel)) rfl
theorem e284_2075 : rf d 284 2075 [some (.ref a), l1, l2, l3, l4, l5, l6] s h = rf d 284 2076 [some (.ref a), l1, l2, l3, l4, l5, l6] (.ref a :: s) h := rf_pure (i := .aload_n 0) (len := 1) (okD_ok (by decide +kernel)) rfl
theorem e284_2076 : rf d 284 2076 [l0, l1, l2, l3, some (.int x), l5, l6] s h = rf d 284 2078 [l0, l1, l2, l3, some (.int x), l5, l6] (.int x :: s) h := rf_pure (i := .iload 4) (len := 2) (okD_ok (by decide +kernel)) rfl
theorem e284_2078 : rf d 284 2078 ls s h = rf d 284 2079 ls (.int 1 :: s) h := rf_pure (i := .iconst (1)) (len := 1) (okD_ok (by decide +kernel)) rfl
theorem e284_2079 : rf d 284 2079 ls (.int y :: .int x :: s) h = rf d 284 2080 ls (.int (x + y) :: s) h := rf_pure (i := .iadd) (len := 1) (okD_ok (by decide +kernel)) rfl
theorem e284_2080 (q : inb j n) : rf d 284 2080 ls (.int j :: .ref 0 :: s) (SH n, I, L, R, nc, ns, nx) = rf d 284 2081 ls (.int (I 0 j.toNatClampNeg) :: s) (SH n, I, L, R, nc, ns, nx) := g_sal (by decide +kernel) q
theorem e284_2081 : rf d 284 2081 [some (.ref a), l1, l2, l3, l4, l5, l6] s h = rf d 284 2082 [some (.ref a), l1, l2, l3, l4, l5, l6] (.ref a :: s) h := rf_pure (i := .aload_n 0) (len := 1) (okD_ok (by decide +kernel)) rfl
theorem e284_2082 : rf d 284 2082 [l0, l1, l2, l3, some (.int x), l5, l6] s h = rf d 284 2084 [l0, l1, l2, l3, some (.int x), l5, l6] (.int x :: s) h := rf_pure (i := .iload 4) (len := 2) (okD_ok (by decide +kernel)) rfl
theorem e284_2084 : rf d 284 2084 ls s h = rf d 284 2085 ls (.int 2 :: s) h := rf_pure (i := .iconst (2)) (len := 1) (okD_ok (by decide +kernel)) rfl
theorem e284_2085 : rf d 284 2085 ls (.int y :: .int x :: s) h = rf d 284 2086 ls (.int (x + y) :: s) h := rf_pure (i := .iadd) (len := 1) (okD_ok (by decide +kernel)) rfl
theorem e284_2086 (q : inb j n) : rf d 284 2086 ls (.int j :: .ref 0 :: s) (SH n, I, L, R, nc, ns, nx) = rf d 284 2087 ls (.int (I 0 j.toNatClampNeg) :: s) (SH n, I, L, R, nc, ns, nx) := g_sal (by decide +kernel) q
theorem e284_2087 : rf d 284 2087 [some (.ref a), l1, l2, l3, l4, l5, l6] s h = rf d 284 2088 [some (.ref a), l1, l2, l3, l4, l5, l6] (.ref a :: s) h := rf_pure (i := .aload_n 0) (len := 1) (okD_ok (by decide +kernel)) rfl
theorem e284_2088 : rf d 284 2088 [l0, l1, l2, l3, some (.int x), l5, l6] s h = rf d 284 2090 [l0, l1, l2, l3, some (.int x), l5, l6] (.int x :: s) h := rf_pure (i := .iload 4) (len := 2) (okD_ok (by decide +kernel)) rfl
theorem e284_2090 : rf d 284 2090 ls s h = rf d 284 2091 ls (.int 3 :: s) h := rf_pure (i := .iconst (3)) (len := 1) (okD_ok (by decide +kernel)) rfl
theorem e284_2091 : rf d 284 2091 ls (.int y :: .int x :: s) h = rf d 284 2092 ls (.int (x + y) :: s) h := rf_pure (i := .iadd) (len := 1) (okD_ok (by decide +kernel)) rfl
theorem e284_2092 (q : inb j n) : rf d 284 2092 ls (.int j :: .ref 0 :: s) (SH n, I, L, R, nc, ns, nx) = rf d 284 2093 ls (.int (I 0 j.toNatClampNeg) :: s) (SH n, I, L, R, nc, ns, nx) := g_sal (by decide +kernel) q
theorem e284_2093 (hcat : ip_cat s ≤ 8) : rf (d + 1) 284 2093 ls (.int x2 :: .int x1 :: .int x0 :: .ref 265 :: s) (SH n, I, L, R, nc, ns, nx) = rf_k (d + 1) 284 2093 ls s (cf d 276 [.ref 265, .int x0, .int x1, .int x2] (SH n, I, L, R, nc, ns, nx)) := g_cv (idx := 232) (t := 8) [.int x2, .int x1, .int x0] (by decide +kernel) ow284 ms_9_232 mt_9_232 cy276_8 rfl rfl mL276 rfl rfl (by decide) hcat
theorem e284_2096 (hn : ip_nl l5 = true) : rf d 284 2096 [l0, l1, l2, l3, l4, l5, l6] (.int x :: s) h = rf d 284 2098 [l0, l1, l2, l3, l4, l5, some (.int x)] s h := g_sti (i := .istore 6) (len := 2) (q := 5) (p := 2) (by decide +kernel) rfl rfl hn
theorem e284_2098 : rf d 284 2098 [l0, l1, some (.ref a), l3, l4, l5, l6] s h = rf d 284 2099 [l0, l1, some (.ref a), l3, l4, l5, l6] (.ref a :: s) h := rf_pure (i := .aload_n 2) (len := 1) (okD_ok (by decide +kernel)) rfl
theorem e284_2099 (hcat : ip_cat s ≤ 8) : rf (d + 1) 284 2099 ls (.ref 265 :: s) (SH n, I, L, R, nc, ns, nx) = rf_k (d + 1) 284 2099 ls s (cf d 189 [.ref 265] (SH n, I, L, R, nc, ns, nx)) := g_cv (idx := 133) (t := 8) [] (by decide +kernel) ow284 ms_9_133 mt_9_133 cy189_8 rfl rfl mL189 rfl rfl (by decide) hcat
theorem e284_2102 : rf d 284 2102 [l0, l1, l2, l3, l4, some (.int x), l6] s h = rf d 284 2104 [l0, l1, l2, l3, l4, some (.int x), l6] (.int x :: s) h := rf_pure (i := .iload 5) (len := 2) (okD_ok (by decide +kernel)) rfl
theorem e284_2104 : rf d 284 2104 ls (.int y :: .int x :: s) h = if x = y then rf d 284 2109 ls s h else rf d 284 2107 ls s h := g_ic (c := .eq) (off := 5) _ (by decide +kernel) rfl cmp_d
theorem e284_2107 : rf d 284 2107 ls s h = rf d 284 2108 ls (.int 0 :: s) h := rf_pure (i := .iconst (0)) (len := 1) (okD_ok (by decide +kernel)) rfl
theorem e284_2108 (hx : x = 0 ∨ x = 1) : rf d 284 2108 ls [.int x] h = some (.inl (some (.int x)), h) := g_rz (by decide +kernel) rt284 hx
theorem e284_2109 : rf d 284 2109 [l0, l1, l2, l3, l4, some (.int x), l6] s h = rf d 284 2111 [l0, l1, l2, l3, l4, some (.int x), l6] (.int x :: s) h := rf_pure (i := .iload 5) (len := 2) (okD_ok (by decide +kernel)) rfl
theorem e284_2111 : rf d 284 2111 ls (.int x :: s) h = if ¬ x = 0 then rf d 284 2126 ls s h else rf d 284 2114 ls s h := g_if (c := .ne) (off := 15) _ (by decide +kernel) rfl cmp_d
theorem e284_2114 : rf d 284 2114 [l0, l1, l2, some (.ref a), l4, l5, l6] s h = rf d 284 2115 [l0, l1, l2, some (.ref a), l4, l5, l6] (.ref a :: s) h := rf_pure (i := .aload_n 3) (len := 1) (okD_ok (by decide +kernel)) rfl
theorem e284_2115 : rf d 284 2115 ls s h = rf d 284 2116 ls (.int 0 :: s) h := rf_pure (i := .iconst (0)) (len := 1) (okD_ok (by decide +kernel)) rfl
theorem e284_2116 (q : la n a j) : rf d 284 2116 ls (.int j :: .ref a :: s) (SH n, I, L, R, nc, ns, nx) = rf d 284 2117 ls (.long (L a j.toNatClampNeg) :: s) (SH n, I, L, R, nc, ns, nx) := g_lal (by decide +kernel) q
theorem e284_2117 : rf d 284 2117 [l0, l1, l2, l3, l4, l5, some (.int x)] s h = rf d 284 2119 [l0, l1, l2, l3, l4, l5, some (.int x)] (.int x :: s) h := rf_pure (i := .iload 6) (len := 2) (okD_ok (by decide +kernel)) rfl
theorem e284_2119 : rf d 284 2119 ls (.int x :: s) h = rf d 284 2120 ls (.long x.toInt64 :: s) h := rf_pure (i := .i2l) (len := 1) (okD_ok (by decide +kernel)) rfl
theorem e284_2120 : rf d 284 2120 ls (.long v :: .long u :: s) h = rf d 284 2121 ls (.int (lg_cmp u v) :: s) h := rf_pure (i := .lcmp) (len := 1) (okD_ok (by decide +kernel)) rfl
theorem e284_2121 : rf d 284 2121 ls (.int x :: s) h = if x = 0 then rf d 284 2126 ls s h else rf d 284 2124 ls s h := g_if (c := .eq) (off := 5) _ (by decide +kernel) rfl cmp_d
theorem e284_2124 : rf d 284 2124 ls s h = rf d 284 2125 ls (.int 0 :: s) h := rf_pure (i := .iconst (0)) (len := 1) (okD_ok (by decide +kernel)) rfl
theorem e284_2125 (hx : x = 0 ∨ x = 1) : rf d 284 2125 ls [.int x] h = some (.inl (some (.int x)), h) := g_rz (by decide +kernel) rt284 hx
theorem e284_2126 : rf d 284 2126 ls s h = rf d 284 2520 ls s h := rf_goto ⟨okD_ok (i := .goto (394)) (len := 3) (by decide +kernel), rfl⟩
theorem e284_2129 : rf d 284 2129 [l0, some (.ref a), l2, l3, l4, l5, l6] s h = rf d 284 2130 [l0, some (.ref a), l2, l3, l4, l5, l6] (.ref a :: s) h := rf_pure (i := .aload_n 1) (len := 1) (okD_ok (by decide +kernel)) rfl
theorem e284_2130 : rf d 284 2130 [some (.ref a), l1, l2, l3, l4, l5, l6] s h = rf d 284 2131 [some (.ref a), l1, l2, l3, l4, l5, l6] (.ref a :: s) h := rf_pure (i := .aload_n 0) (len := 1) (okD_ok (by decide +kernel)) rfl
theorem e284_2131 : rf d 284 2131 [l0, l1, l2, l3, some (.int x), l5, l6] s h = rf d 284 2133 [l0, l1, l2, l3, some (.int x), l5, l6] (.int x :: s) h := rf_pure (i := .iload 4) (len := 2) (okD_ok (by decide +kernel)) rfl
theorem e284_2133 : rf d 284 2133 ls s h = rf d 284 2134 ls (.int 1 :: s) h := rf_pure (i := .iconst (1)) (len := 1) (okD_ok (by decide +kernel)) rfl
theorem e284_2134 : rf d 284 2134 ls (.int y :: .int x :: s) h = rf d 284 2135 ls (.int (x + y) :: s) h := rf_pure (i := .iadd) (len := 1) (okD_ok (by decide +kernel)) rfl
theorem e284_2135 (q : inb j n) : rf d 284 2135 ls (.int j :: .ref 0 :: s) (SH n, I, L, R, nc, ns, nx) = rf d 284 2136 ls (.int (I 0 j.toNatClampNeg) :: s) (SH n, I, L, R, nc, ns, nx) := g_sal (by decide +kernel) q
theorem e284_2136 : rf d 284 2136 [some (.ref a), l1, l2, l3, l4, l5, l6] s h = rf d 284 2137 [some (.ref a), l1, l2, l3, l4, l5, l6] (.ref a :: s) h := rf_pure (i := .aload_n 0) (len := 1) (okD_ok (by decide +kernel)) rfl
theorem e284_2137 : rf d 284 2137 [l0, l1, l2, l3, some (.int x), l5, l6] s h = rf d 284 2139 [l0, l1, l2, l3, some (.int x), l5, l6] (.int x :: s) h := rf_pure (i := .iload 4) (len := 2) (okD_ok (by decide +kernel)) rfl
theorem e284_2139 : rf d 284 2139 ls s h = rf d 284 2140 ls (.int 2 :: s) h := rf_pure (i := .iconst (2)) (len := 1) (okD_ok (by decide +kernel)) rfl
theorem e284_2140 : rf d 284 2140 ls (.int y :: .int x :: s) h = rf d 284 2141 ls (.int (x + y) :: s) h := rf_pure (i := .iadd) (len := 1) (okD_ok (by decide +kernel)) rfl
theorem e284_2141 (q : inb j n) : rf d 284 2141 ls (.int j :: .ref 0 :: s) (SH n, I, L, R, nc, ns, nx) = rf d 284 2142 ls (.int (I 0 j.toNatClampNeg) :: s) (SH n, I, L, R, nc, ns, nx) := g_sal (by decide +kernel) q
theorem e284_2142 : rf d 284 2142 [l0, l1, l2, some (.ref a), l4, l5, l6] s h = rf d 284 2143 [l0, l1, l2, some (.ref a), l4, l5, l6] (.ref a :: s) h := rf_pure (i := .aload_n 3) (len := 1) (okD_ok (by decide +kernel)) rfl
theorem e284_2143 (hcat : ip_cat s ≤ 8) : rf (d + 1) 284 2143 ls (.ref a3 :: .int x2 :: .int x1 :: .ref a0 :: s) h = rf_k (d + 1) 284 2143 ls s (cf d 171 [.ref a0, .int x1, .int x2, .ref a3] h) := g_cs (idx := 233) [.ref a3, .int x2, .int x1, .ref a0] (by decide +kernel) ow284 ms_9_233 mt_9_233 (by decide) rfl mL171 rfl hcat
theorem e284_2146 (hn : ip_nl l4 = true) : rf d 284 2146 [l0, l1, l2, l3, l4, l5, l6] (.int x :: s) h = rf d 284 2148 [l0, l1, l2, l3, l4, some (.int x), l6] s h := g_sti (i := .istore 5) (len := 2) (q := 4) (p := 2) (by decide +kernel) rfl rfl hn
theorem e284_2148 : rf d 284 2148 [l0, l1, some (.ref a), l3, l4, l5, l6] s h = rf d 284 2149 [l0, l1, some (.ref a), l3, l4, l5, l6] (.ref a :: s) h := rf_pure (i := .aload_n 2) (len := 1) (okD_ok (by decide +kernel)) rfl
theorem e284_2149 : rf d 284 2149 [some (.ref a), l1, l2, l3, l4, l5, l6] s h = rf d 284 2150 [some (.ref a), l1, l2, l3, l4, l5, l6] (.ref a :: s) h := rf_pure (i := .aload_n 0) (len := 1) (okD_ok (by decide +kernel)) rfl
theorem e284_2150 : rf d 284 2150 [l0, l1, l2, l3, some (.int x), l5, l6] s h = rf d 284 2152 [l0, l1, l2, l3, some (.int x), l5, l6] (.int x :: s) h := rf_pure (i := .iload 4) (len := 2) (okD_ok (by decide +kernel)) rfl
theorem e284_2152 : rf d 284 2152 ls s h = rf d 284 2153 ls (.int 1 :: s) h := rf_pure (i := .iconst (1)) (len := 1) (okD_ok (by decide +kernel)) rfl
theorem e284_2153 : rf d 284 2153 ls (.int y :: .int x :: s) h = rf d 284 2154 ls (.int (x + y) :: s) h := rf_pure (i := .iadd) (len := 1) (okD_ok (by decide +kernel)) rfl
theorem e284_2154 (q : inb j n) : rf d 284 2154 ls (.int j :: .ref 0 :: s) (SH n, I, L, R, nc, ns, nx) = rf d 284 2155 ls (.int (I 0 j.toNatClampNeg) :: s) (SH n, I, L, R, nc, ns, nx) := g_sal (by decide +kernel) q
theorem e284_2155 : rf d 284 2155 [some (.ref a), l1, l2, l3, l4, l5, l6] s h = rf d 284 2156 [some (.ref a), l1, l2, l3, l4, l5, l6] (.ref a :: s) h := rf_pure (i := .aload_n 0) (len := 1) (okD_ok (by decide +kernel)) rfl
theorem e284_2156 : rf d 284 2156 [l0, l1, l2, l3, some (.int x), l5, l6] s h = rf d 284 2158 [l0, l1, l2, l3, some (.int x), l5, l6] (.int x :: s) h := rf_pure (i := .iload 4) (len := 2) (okD_ok (by decide +kernel)) rfl
theorem e284_2158 : rf d 284 2158 ls s h = rf d 284 2159 ls (.int 2 :: s) h := rf_pure (i := .iconst (2)) (len := 1) (okD_ok (by decide +kernel)) rfl
theorem e284_2159 : rf d 284 2159 ls (.int y :: .int x :: s) h = rf d 284 2160 ls (.int (x + y) :: s) h := rf_pure (i := .iadd) (len := 1) (okD_ok (by decide +kernel)) rfl
theorem e284_2160 (q : inb j n) : rf d 284 2160 ls (.int j :: .ref 0 :: s) (SH n, I, L, R, nc, ns, nx) = rf d 284 2161 ls (.int (I 0 j.toNatClampNeg) :: s) (SH n, I, L, R, nc, ns, nx) := g_sal (by decide +kernel) q
theorem e284_2161 (hcat : ip_cat s ≤ 8) : rf (d + 1) 284 2161 ls (.int x1 :: .int x0 :: .ref 265 :: s) (SH n, I, L, R, nc, ns, nx) = rf_k (d + 1) 284 2161 ls s (cf d 259 [.ref 265, .int x0, .int x1] (SH n, I, L, R, nc, ns, nx)) := g_cv (idx := 235) (t := 8) [.int x1, .int x0] (by decide +kernel) ow284 ms_9_235 mt_9_235 cy259_8 rfl rfl mL259 rfl rfl (by decide) hcat
theorem e284_2164 (hn : ip_nl l5 = true) : rf d 284 2164 [l0, l1, l2, l3, l4, l5, l6] (.int x :: s) h = rf d 284 2166 [l0, l1, l2, l3, l4, l5, some (.int x)] s h := g_sti (i := .istore 6) (len := 2) (q := 5) (p := 2) (by decide +kernel) rfl rfl hn
theorem e284_2166 : rf d 284 2166 [l0, l1, some (.ref a), l3, l4, l5, l6] s h = rf d 284 2167 [l0, l1, some (.ref a), l3, l4, l5, l6] (.ref a :: s) h := rf_pure (i := .aload_n 2) (len := 1) (okD_ok (by decide +kernel)) rfl
theorem e284_2167 (hcat : ip_cat s ≤ 8) : rf (d + 1) 284 2167 ls (.ref 265 :: s) (SH n, I, L, R, nc, ns, nx) = rf_k (d + 1) 284 2167 ls s (cf d 189 [.ref 265] (SH n, I, L, R, nc, ns, nx)) := g_cv (idx := 133) (t := 8) [] (by decide +kernel) ow284 ms_9_133 mt_9_133 cy189_8 rfl rfl mL189 rfl rfl (by decide) hcat
theorem e284_2170 : rf d 284 2170 [l0, l1, l2, l3, l4, some (.int x), l6] s h = rf d 284 2172 [l0, l1, l2, l3, l4, some (.int x), l6] (.int x :: s) h := rf_pure (i := .iload 5) (len := 2) (okD_ok (by decide +kernel)) rfl
theorem e284_2172 : rf d 284 2172 ls (.int y :: .int x :: s) h = if x = y then rf d 284 2177 ls s h else rf d 284 2175 ls s h := g_ic (c := .eq) (off := 5) _ (by decide +kernel) rfl cmp_d
theorem e284_2175 : rf d 284 2175 ls s h = rf d 284 2176 ls (.int 0 :: s) h := rf_pure (i := .iconst (0)) (len := 1) (okD_ok (by decide +kernel)) rfl
theorem e284_2176 (hx : x = 0 ∨ x = 1) : rf d 284 2176 ls [.int x] h = some (.inl (some (.int x)), h) := g_rz (by decide +kernel) rt284 hx
theorem e284_2177 : rf d 284 2177 [l0, l1, l2, l3, l4, some (.int x), l6] s h = rf d 284 2179 [l0, l1, l2, l3, l4, some (.int x), l6] (.int x :: s) h := rf_pure (i := .iload 5) (len := 2) (okD_ok (by decide +kernel)) rfl
theorem e284_2179 : rf d 284 2179 ls (.int x :: s) h = if ¬ x = 0 then rf d 284 2194 ls s h else rf d 284 2182 ls s h := g_if (c := .ne) (off := 15) _ (by decide +kernel) rfl cmp_d
theorem e284_2182 : rf d 284 2182 [l0, l1, l2, some (.ref a), l4, l5, l6] s h = rf d 284 2183 [l0, l1, l2, some (.ref a), l4, l5, l6] (.ref a :: s) h := rf_pure (i := .aload_n 3) (len := 1) (okD_ok (by decide +kernel)) rfl
theorem e284_2183 : rf d 284 2183 ls s h = rf d 284 2184 ls (.int 0 :: s) h := rf_pure (i := .iconst (0)) (len := 1) (okD_ok (by decide +kernel)) rfl
theorem e284_2184 (q : la n a j) : rf d 284 2184 ls (.int j :: .ref a :: s) (SH n, I, L, R, nc, ns, nx) = rf d 284 2185 ls (.long (L a j.toNatClampNeg) :: s) (SH n, I, L, R, nc, ns, nx) := g_lal (by decide +kernel) q
theorem e284_2185 : rf d 284 2185 [l0, l1, l2, l3, l4, l5, some (.int x)] s h = rf d 284 2187 [l0, l1, l2, l3, l4, l5, some (.int x)] (.int x :: s) h := rf_pure (i := .iload 6) (len := 2) (okD_ok (by decide +kernel)) rfl
theorem e284_2187 : rf d 284 2187 ls (.int x :: s) h = rf d 284 2188 ls (.long x.toInt64 :: s) h := rf_pure (i := .i2l) (len := 1) (okD_ok (by decide +kernel)) rfl
theorem e284_2188 : rf d 284 2188 ls (.long v :: .long u :: s) h = rf d 284 2189 ls (.int (lg_cmp u v) :: s) h := rf_pure (i := .lcmp) (len := 1) (okD_ok (by decide +kernel)) rfl
theorem e284_2189 : rf d 284 2189 ls (.int x :: s) h = if x = 0 then rf d 284 2194 ls s h else rf d 284 2192 ls s h := g_if (c := .eq) (off := 5) _ (by decide +kernel) rfl cmp_d
theorem e284_2192 : rf d 284 2192 ls s h = rf d 284 2193 ls (.int 0 :: s) h := rf_pure (i := .iconst (0)) (len := 1) (okD_ok (by decide +kernel)) rfl
theorem e284_2193 (hx : x = 0 ∨ x = 1) : rf d 284 2193 ls [.int x] h = some (.inl (some (.int x)), h) := g_rz (by decide +kernel) rt284 hx
theorem e284_2194 : rf d 284 2194 ls s h = rf d 284 2520 ls s h := rf_goto ⟨okD_ok (i := .goto (326)) (len := 3) (by decide +kernel), rfl⟩
theorem e284_2197 : rf d 284 2197 [l0, some (.ref a), l2, l3, l4, l5, l6] s h = rf d 284 2198 [l0, some (.ref a), l2, l3, l4, l5, l6] (.ref a :: s) h := rf_pure (i := .aload_n 1) (len := 1) (okD_ok (by decide +kernel)) rfl
theorem e284_2198 : rf d 284 2198 [some (.ref a), l1, l2, l3, l4, l5, l6] s h = rf d 284 2199 [some (.ref a), l1, l2, l3, l4, l5, l6] (.ref a :: s) h := rf_pure (i := .aload_n 0) (len := 1) (okD_ok (by decide +kernel)) rfl
theorem e284_2199 : rf d 284 2199 [l0, l1, l2, l3, some (.int x), l5, l6] s h = rf d 284 2201 [l0, l1, l2, l3, some (.int x), l5, l6] (.int x :: s) h := rf_pure (i := .iload 4) (len := 2) (okD_ok (by decide +kernel)) rfl
theorem e284_2201 : rf d 284 2201 ls s h = rf d 284 2202 ls (.int 1 :: s) h := rf_pure (i := .iconst (1)) (len := 1) (okD_ok (by decide +kernel)) rfl
theorem e284_2202 : rf d 284 2202 ls (.int y :: .int x :: s) h = rf d 284 2203 ls (.int (x + y) :: s) h := rf_pure (i := .iadd) (len := 1) (okD_ok (by decide +kernel)) rfl
theorem e284_2203 (q : inb j n) : rf d 284 2203 ls (.int j :: .ref 0 :: s) (SH n, I, L, R, nc, ns, nx) = rf d 284 2204 ls (.int (I 0 j.toNatClampNeg) :: s) (SH n, I, L, R, nc, ns, nx) := g_sal (by decide +kernel) q
theorem e284_2204 : rf d 284 2204 [l0, l1, l2, some (.ref a), l4, l5, l6] s h = rf d 284 2205 [l0, l1, l2, some (.ref a), l4, l5, l6] (.ref a :: s) h := rf_pure (i := .aload_n 3) (len := 1) (okD_ok (by decide +kernel)) rfl
theorem e284_2205 (hcat : ip_cat s ≤ 8) : rf (d + 1) 284 2205 ls (.ref a2 :: .int x1 :: .ref a0 :: s) h = rf_k (d + 1) 284 2205 ls s (cf d 173 [.ref a0, .int x1, .ref a2] h) := g_cs (idx := 236) [.ref a2, .int x1, .ref a0] (by decide +kernel) ow284 ms_9_236 mt_9_236 (by decide) rfl mL173 rfl hcat
theorem e284_2208 (hn : ip_nl l4 = true) : rf d 284 2208 [l0, l1, l2, l3, l4, l5, l6] (.int x :: s) h = rf d 284 2210 [l0, l1, l2, l3, l4, some (.int x), l6] s h := g_sti (i := .istore 5) (len := 2) (q := 4) (p := 2) (by decide +kernel) rfl rfl hn
theorem e284_2210 : rf d 284 2210 [l0, l1, some (.ref a), l3, l4, l5, l6] s h = rf d 284 2211 [l0, l1, some (.ref a), l3, l4, l5, l6] (.ref a :: s) h := rf_pure (i := .aload_n 2) (len := 1) (okD_ok (by decide +kernel)) rfl
theorem e284_2211 : rf d 284 2211 [some (.ref a), l1, l2, l3, l4, l5, l6] s h = rf d 284 2212 [some (.ref a), l1, l2, l3, l4, l5, l6] (.ref a :: s) h := rf_pure (i := .aload_n 0) (len := 1) (okD_ok (by decide +kernel)) rfl
theorem e284_2212 : rf d 284 2212 [l0, l1, l2, l3, some (.int x), l5, l6] s h = rf d 284 2214 [l0, l1, l2, l3, some (.int x), l5, l6] (.int x :: s) h := rf_pure (i := .iload 4) (len := 2) (okD_ok (by decide +kernel)) rfl
theorem e284_2214 : rf d 284 2214 ls s h = rf d 284 2215 ls (.int 1 :: s) h := rf_pure (i := .iconst (1)) (len := 1) (okD_ok (by decide +kernel)) rfl
theorem e284_2215 : rf d 284 2215 ls (.int y :: .int x :: s) h = rf d 284 2216 ls (.int (x + y) :: s) h := rf_pure (i := .iadd) (len := 1) (okD_ok (by decide +kernel)) rfl
theorem e284_2216 (q : inb j n) : rf d 284 2216 ls (.int j :: .ref 0 :: s) (SH n, I, L, R, nc, ns, nx) = rf d 284 2217 ls (.int (I 0 j.toNatClampNeg) :: s) (SH n, I, L, R, nc, ns, nx) := g_sal (by decide +kernel) q
theorem e284_2217 (hcat : ip_cat s ≤ 8) : rf (d + 1) 284 2217 ls (.int x0 :: .ref 265 :: s) (SH n, I, L, R, nc, ns, nx) = rf_k (d + 1) 284 2217 ls s (cf d 260 [.ref 265, .int x0] (SH n, I, L, R, nc, ns, nx)) := g_cv (idx := 238) (t := 8) [.int x0] (by decide +kernel) ow284 ms_9_238 mt_9_238 cy260_8 rfl rfl mL260 rfl rfl (by decide) hcat
theorem e284_2220 (hn : ip_nl l5 = true) : rf d 284 2220 [l0, l1, l2, l3, l4, l5, l6] (.int x :: s) h = rf d 284 2222 [l0, l1, l2, l3, l4, l5, some (.int x)] s h := g_sti (i := .istore 6) (len := 2) (q := 5) (p := 2) (by decide +kernel) rfl rfl hn
theorem e284_2222 : rf d 284 2222 [l0, l1, some (.ref a), l3, l4, l5, l6] s h = rf d 284 2223 [l0, l1, some (.ref a), l3, l4, l5, l6] (.ref a :: s) h := rf_pure (i := .aload_n 2) (len := 1) (okD_ok (by decide +kernel)) rfl
theorem e284_2223 (hcat : ip_cat s ≤ 8) : rf (d + 1) 284 2223 ls (.ref 265 :: s) (SH n, I, L, R, nc, ns, nx) = rf_k (d + 1) 284 2223 ls s (cf d 189 [.ref 265] (SH n, I, L, R, nc, ns, nx)) := g_cv (idx := 133) (t := 8) [] (by decide +kernel) ow284 ms_9_133 mt_9_133 cy189_8 rfl rfl mL189 rfl rfl (by decide) hcat
theorem e284_2226 : rf d 284 2226 [l0, l1, l2, l3, l4, some (.int x), l6] s h = rf d 284 2228 [l0, l1, l2, l3, l4, some (.int x), l6] (.int x :: s) h := rf_pure (i := .iload 5) (len := 2) (okD_ok (by decide +kernel)) rfl
theorem e284_2228 : rf d 284 2228 ls (.int y :: .int x :: s) h = if x = y then rf d 284 2233 ls s h else rf d 284 2231 ls s h := g_ic (c := .eq) (off := 5) _ (by decide +kernel) rfl cmp_d
theorem e284_2231 : rf d 284 2231 ls s h = rf d 284 2232 ls (.int 0 :: s) h := rf_pure (i := .iconst (0)) (len := 1) (okD_ok (by decide +kernel)) rfl
theorem e284_2232 (hx : x = 0 ∨ x = 1) : rf d 284 2232 ls [.int x] h = some (.inl (some (.int x)), h) := g_rz (by decide +kernel) rt284 hx
theorem e284_2233 : rf d 284 2233 [l0, l1, l2, l3, l4, some (.int x), l6] s h = rf d 284 2235 [l0, l1, l2, l3, l4, some (.int x), l6] (.int x :: s) h := rf_pure (i := .iload 5) (len := 2) (okD_ok (by decide +kernel)) rfl
theorem e284_2235 : rf d 284 2235 ls (.int x :: s) h = if ¬ x = 0 then rf d 284 2250 ls s h else rf d 284 2238 ls s h := g_if (c := .ne) (off := 15) _ (by decide +kernel) rfl cmp_d
theorem e284_2238 : rf d 284 2238 [l0, l1, l2, some (.ref a), l4, l5, l6] s h = rf d 284 2239 [l0, l1, l2, some (.ref a), l4, l5, l6] (.ref a :: s) h := rf_pure (i := .aload_n 3) (len := 1) (okD_ok (by decide +kernel)) rfl
theorem e284_2239 : rf d 284 2239 ls s h = rf d 284 2240 ls (.int 0 :: s) h := rf_pure (i := .iconst (0)) (len := 1) (okD_ok (by decide +kernel)) rfl
theorem e284_2240 (q : la n a j) : rf d 284 2240 ls (.int j :: .ref a :: s) (SH n, I, L, R, nc, ns, nx) = rf d 284 2241 ls (.long (L a j.toNatClampNeg) :: s) (SH n, I, L, R, nc, ns, nx) := g_lal (by decide +kernel) q
theorem e284_2241 : rf d 284 2241 [l0, l1, l2, l3, l4, l5, some (.int x)] s h = rf d 284 2243 [l0, l1, l2, l3, l4, l5, some (.int x)] (.int x :: s) h := rf_pure (i := .iload 6) (len := 2) (okD_ok (by decide +kernel)) rfl
theorem e284_2243 : rf d 284 2243 ls (.int x :: s) h = rf d 284 2244 ls (.long x.toInt64 :: s) h := rf_pure (i := .i2l) (len := 1) (okD_ok (by decide +kernel)) rfl
theorem e284_2244 : rf d 284 2244 ls (.long v :: .long u :: s) h = rf d 284 2245 ls (.int (lg_cmp u v) :: s) h := rf_pure (i := .lcmp) (len := 1) (okD_ok (by decide +kernel)) rfl
theorem e284_2245 : rf d 284 2245 ls (.int x :: s) h = if x = 0 then rf d 284 2250 ls s h else rf d 284 2248 ls s h := g_if (c := .eq) (off := 5) _ (by decide +kernel) rfl cmp_d
theorem e284_2248 : rf d 284 2248 ls s h = rf d 284 2249 ls (.int 0 :: s) h := rf_pure (i := .iconst (0)) (len := 1) (okD_ok (by decide +kernel)) rfl
theorem e284_2249 (hx : x = 0 ∨ x = 1) : rf d 284 2249 ls [.int x] h = some (.inl (some (.int x)), h) := g_rz (by decide +kernel) rt284 hx
theorem e284_2250 : rf d 284 2250 ls s h = rf d 284 2520 ls s h := rf_goto ⟨okD_ok (i := .goto (270)) (len := 3) (by decide +kernel), rfl⟩
theorem e284_2253 : rf d 284 2253 [l0, some (.ref a), l2, l3, l4, l5, l6] s h = rf d 284 2254 [l0, some (.ref a), l2, l3, l4, l5, l6] (.ref a :: s) h := rf_pure (i := .aload_n 1) (len := 1) (okD_ok (by decide +kernel)) rfl
theorem e284_2254 : rf d 284 2254 [some (.ref a), l1, l2, l3, l4, l5, l6] s h = rf d 284 2255 [some (.ref a), l1, l2, l3, l4, l5, l6] (.ref a :: s) h := rf_pure (i := .aload_n 0) (len := 1) (okD_ok (by decide +kernel)) rfl
theorem e284_2255 : rf d 284 2255 [l0, l1, l2, l3, some (.int x), l5, l6] s h = rf d 284 2257 [l0, l1, l2, l3, some (.int x), l5, l6] (.int x :: s) h := rf_pure (i := .iload 4) (len := 2) (okD_ok (by decide +kernel)) rfl
theorem e284_2257 : rf d 284 2257 ls s h = rf d 284 2258 ls (.int 1 :: s) h := rf_pure (i := .iconst (1)) (len := 1) (okD_ok (by decide +kernel)) rfl
theorem e284_2258 : rf d 284 2258 ls (.int y :: .int x :: s) h = rf d 284 2259 ls (.int (x + y) :: s) h := rf_pure (i := .iadd) (len := 1) (okD_ok (by decide +kernel)) rfl
theorem e284_2259 (q : inb j n) : rf d 284 2259 ls (.int j :: .ref 0 :: s) (SH n, I, L, R, nc, ns, nx) = rf d 284 2260 ls (.int (I 0 j.toNatClampNeg) :: s) (SH n, I, L, R, nc, ns, nx) := g_sal (by decide +kernel) q
theorem e284_2260 (hcat : ip_cat s ≤ 8) : rf (d + 1) 284 2260 ls (.int x0 :: .ref 2 :: s) (SH n, I, L, R, nc, ns, nx) = rf_k (d + 1) 284 2260 ls s (cf d 26 [.ref 2, .int x0] (SH n, I, L, R, nc, ns, nx)) := g_cv (idx := 239) (t := 7) [.int x0] (by decide +kernel) ow284 ms_9_239 mt_9_239 cy26_7 rfl rfl mL26 rfl rfl (by decide) hcat
theorem e284_2263 : rf d 284 2263 [l0, l1, some (.ref a), l3, l4, l5, l6] s h = rf d 284 2264 [l0, l1, some (.ref a), l3, l4, l5, l6] (.ref a :: s) h := rf_pure (i := .aload_n 2) (len := 1) (okD_ok (by decide +kernel)) rfl
theorem e284_2264 : rf d 284 2264 [some (.ref a), l1, l2, l3, l4, l5, l6] s h = rf d 284 2265 [some (.ref a), l1, l2, l3, l4, l5, l6] (.ref a :: s) h := rf_pure (i := .aload_n 0) (len := 1) (okD_ok (by decide +kernel)) rfl
theorem e284_2265 : rf d 284 2265 [l0, l1, l2, l3, some (.int x), l5, l6] s h = rf d 284 2267 [l0, l1, l2, l3, some (.int x), l5, l6] (.int x :: s) h := rf_pure (i := .iload 4) (len := 2) (okD_ok (by decide +kernel)) rfl
theorem e284_2267 : rf d 284 2267 ls s h = rf d 284 2268 ls (.int 1 :: s) h := rf_pure (i := .iconst (1)) (len := 1) (okD_ok (by decide +kernel)) rfl
theorem e284_2268 : rf d 284 2268 ls (.int y :: .int x :: s) h = rf d 284 2269 ls (.int (x + y) :: s) h := rf_pure (i := .iadd) (len := 1) (okD_ok (by decide +kernel)) rfl
theorem e284_2269 (q : inb j n) : rf d 284 2269 ls (.int j :: .ref 0 :: s) (SH n, I, L, R, nc, ns, nx) = rf d 284 2270 ls (.int (I 0 j.toNatClampNeg) :: s) (SH n, I, L, R, nc, ns, nx) := g_sal (by decide +kernel) q
theorem e284_2270 (hcat : ip_cat s ≤ 8) : rf (d + 1) 284 2270 ls (.int x0 :: .ref 265 :: s) (SH n, I, L, R, nc, ns, nx) = rf_k (d + 1) 284 2270 ls s (cf d 261 [.ref 265, .int x0] (SH n, I, L, R, nc, ns, nx)) := g_cv (idx := 242) (t := 8) [.int x0] (by decide +kernel) ow284 ms_9_242 mt_9_242 cy261_8 rfl rfl mL261 rfl rfl (by decide) hcat
theorem e284_2273 : rf d 284 2273 ls (.int y :: .int x :: s) h = if x = y then rf d 284 2520 ls s h else rf d 284 2276 ls s h := g_ic (c := .eq) (off := 247) _ (by decide +kernel) rfl cmp_d
theorem e284_2276 : rf d 284 2276 ls s h = rf d 284 2277 ls (.int 0 :: s) h := rf_pure (i := .iconst (0)) (len := 1) (okD_ok (by decide +kernel)) rfl
theorem e284_2277 (hx : x = 0 ∨ x = 1) : rf d 284 2277 ls [.int x] h = some (.inl (some (.int x)), h) := g_rz (by decide +kernel) rt284 hx
theorem e284_2278 : rf d 284 2278 [l0, some (.ref a), l2, l3, l4, l5, l6] s h = rf d 284 2279 [l0, some (.ref a), l2, l3, l4, l5, l6] (.ref a :: s) h := rf_pure (i := .aload_n 1) (len := 1) (okD_ok (by decide +kernel)) rfl
theorem e284_2279 (hcat : ip_cat s ≤ 8) : rf (d + 1) 284 2279 ls (.ref 2 :: s) (SH n, I, L, R, nc, ns, nx) = rf_k (d + 1) 284 2279 ls s (cf d 28 [.ref 2] (SH n, I, L, R, nc, ns, nx)) := g_cv (idx := 243) (t := 7) [] (by decide +kernel) ow284 ms_9_243 mt_9_243 cy28_7 rfl rfl mL28 rfl rfl (by decide) hcat
theorem e284_2282 : rf d 284 2282 [l0, l1, some (.ref a), l3, l4, l5, l6] s h = rf d 284 2283 [l0, l1, some (.ref a), l3, l4, l5, l6] (.ref a :: s) h := rf_pure (i := .aload_n 2) (len := 1) (okD_ok (by decide +kernel)) rfl
theorem e284_2283 (hcat : ip_cat s ≤ 8) : rf (d + 1) 284 2283 ls (.ref 265 :: s) (SH n, I, L, R, nc, ns, nx) = rf_k (d + 1) 284 2283 ls s (cf d 277 [.ref 265] (SH n, I, L, R, nc, ns, nx)) := g_cv (idx := 246) (t := 8) [] (by decide +kernel) ow284 ms_9_246 mt_9_246 cy277_8 rfl rfl mL277 rfl rfl (by decide) hcat
theorem e284_2286 : rf d 284 2286 ls (.int y :: .int x :: s) h = if x = y then rf d 284 2520 ls s h else rf d 284 2289 ls s h := g_ic (c := .eq) (off := 234) _ (by decide +kernel) rfl cmp_d
theorem e284_2289 : rf d 284 2289 ls s h = rf d 284 2290 ls (.int 0 :: s) h := rf_pure (i := .iconst (0)) (len := 1) (okD_ok (by decide +kernel)) rfl
theorem e284_2290 (hx : x = 0 ∨ x = 1) : rf d 284 2290 ls [.int x] h = some (.inl (some (.int x)), h) := g_rz (by decide +kernel) rt284 hx
theorem e284_2291 : rf d 284 2291 [l0, some (.ref a), l2, l3, l4, l5, l6] s h = rf d 284 2292 [l0, some (.ref a), l2, l3, l4, l5, l6] (.ref a :: s) h := rf_pure (i := .aload_n 1) (len := 1) (okD_ok (by decide +kernel)) rfl
theorem e284_2292 : rf d 284 2292 [some (.ref a), l1, l2, l3, l4, l5, l6] s h = rf d 284 2293 [some (.ref a), l1, l2, l3, l4, l5, l6] (.ref a :: s) h := rf_pure (i := .aload_n 0) (len := 1) (okD_ok (by decide +kernel)) rfl
theorem e284_2293 : rf d 284 2293 [l0, l1, l2, l3, some (.int x), l5, l6] s h = rf d 284 2295 [l0, l1, l2, l3, some (.int x), l5, l6] (.int x :: s) h := rf_pure (i := .iload 4) (len := 2) (okD_ok (by decide +kernel)) rfl
theorem e284_2295 : rf d 284 2295 ls s h = rf d 284 2296 ls (.int 1 :: s) h := rf_pure (i := .iconst (1)) (len := 1) (okD_ok (by decide +kernel)) rfl
theorem e284_2296 : rf d 284 2296 ls (.int y :: .int x :: s) h = rf d 284 2297 ls (.int (x + y) :: s) h := rf_pure (i := .iadd) (len := 1) (okD_ok (by decide +kernel)) rfl
theorem e284_2297 (q : inb j n) : rf d 284 2297 ls (.int j :: .ref 0 :: s) (SH n, I, L, R, nc, ns, nx) = rf d 284 2298 ls (.int (I 0 j.toNatClampNeg) :: s) (SH n, I, L, R, nc, ns, nx) := g_sal (by decide +kernel) q
theorem e284_2298 : rf d 284 2298 [some (.ref a), l1, l2, l3, l4, l5, l6] s h = rf d 284 2299 [some (.ref a), l1, l2, l3, l4, l5, l6] (.ref a :: s) h := rf_pure (i := .aload_n 0) (len := 1) (okD_ok (by decide +kernel)) rfl
theorem e284_2299 : rf d 284 2299 [l0, l1, l2, l3, some (.int x), l5, l6] s h = rf d 284 2301 [l0, l1, l2, l3, some (.int x), l5, l6] (.int x :: s) h := rf_pure (i := .iload 4) (len := 2) (okD_ok (by decide +kernel)) rfl
theorem e284_2301 : rf d 284 2301 ls s h = rf d 284 2302 ls (.int 2 :: s) h := rf_pure (i := .iconst (2)) (len := 1) (okD_ok (by decide +kernel)) rfl
theorem e284_2302 : rf d 284 2302 ls (.int y :: .int x :: s) h = rf d 284 2303 ls (.int (x + y) :: s) h := rf_pure (i := .iadd) (len := 1) (okD_ok (by decide +kernel)) rfl
theorem e284_2303 (q : inb j n) : rf d 284 2303 ls (.int j :: .ref 0 :: s) (SH n, I, L, R, nc, ns, nx) = rf d 284 2304 ls (.int (I 0 j.toNatClampNeg) :: s) (SH n, I, L, R, nc, ns, nx) := g_sal (by decide +kernel) q
theorem e284_2304 : rf d 284 2304 [l0, l1, l2, some (.ref a), l4, l5, l6] s h = rf d 284 2305 [l0, l1, l2, some (.ref a), l4, l5, l6] (.ref a :: s) h := rf_pure (i := .aload_n 3) (len := 1) (okD_ok (by decide +kernel)) rfl
theorem e284_2305 (hcat : ip_cat s ≤ 8) : rf (d + 1) 284 2305 ls (.ref a3 :: .int x2 :: .int x1 :: .ref a0 :: s) h = rf_k (d + 1) 284 2305 ls s (cf d 175 [.ref a0, .int x1, .int x2, .ref a3] h) := g_cs (idx := 247) [.ref a3, .int x2, .int x1, .ref a0] (by decide +kernel) ow284 ms_9_247 mt_9_247 (by decide) rfl mL175 rfl hcat
theorem e284_2308 (hn : ip_nl l4 = true) : rf d 284 2308 [l0, l1, l2, l3, l4, l5, l6] (.int x :: s) h = rf d 284 2310 [l0, l1, l2, l3, l4, some (.int x), l6] s h := g_sti (i := .istore 5) (len := 2) (q := 4) (p := 2) (by decide +kernel) rfl rfl hn
theorem e284_2310 : rf d 284 2310 [l0, l1, some (.ref a), l3, l4, l5, l6] s h = rf d 284 2311 [l0, l1, some (.ref a), l3, l4, l5, l6] (.ref a :: s) h := rf_pure (i := .aload_n 2) (len := 1) (okD_ok (by decide +kernel)) rfl
theorem e284_2311 : rf d 284 2311 [some (.ref a), l1, l2, l3, l4, l5, l6] s h = rf d 284 2312 [some (.ref a), l1, l2, l3, l4, l5, l6] (.ref a :: s) h := rf_pure (i := .aload_n 0) (len := 1) (okD_ok (by decide +kernel)) rfl
theorem e284_2312 : rf d 284 2312 [l0, l1, l2, l3, some (.int x), l5, l6] s h = rf d 284 2314 [l0, l1, l2, l3, some (.int x), l5, l6] (.int x :: s) h := rf_pure (i := .iload 4) (len := 2) (okD_ok (by decide +kernel)) rfl
theorem e284_2314 : rf d 284 2314 ls s h = rf d 284 2315 ls (.int 1 :: s) h := rf_pure (i := .iconst (1)) (len := 1) (okD_ok (by decide +kernel)) rfl
theorem e284_2315 : rf d 284 2315 ls (.int y :: .int x :: s) h = rf d 284 2316 ls (.int (x + y) :: s) h := rf_pure (i := .iadd) (len := 1) (okD_ok (by decide +kernel)) rfl
theorem e284_2316 (q : inb j n) : rf d 284 2316 ls (.int j :: .ref 0 :: s) (SH n, I, L, R, nc, ns, nx) = rf d 284 2317 ls (.int (I 0 j.toNatClampNeg) :: s) (SH n, I, L, R, nc, ns, nx) := g_sal (by decide +kernel) q
theorem e284_2317 : rf d 284 2317 [some (.ref a), l1, l2, l3, l4, l5, l6] s h = rf d 284 2318 [some (.ref a), l1, l2, l3, l4, l5, l6] (.ref a :: s) h := rf_pure (i := .aload_n 0) (len := 1) (okD_ok (by decide +kernel)) rfl
theorem e284_2318 : rf d 284 2318 [l0, l1, l2, l3, some (.int x), l5, l6] s h = rf d 284 2320 [l0, l1, l2, l3, some (.int x), l5, l6] (.int x :: s) h := rf_pure (i := .iload 4) (len := 2) (okD_ok (by decide +kernel)) rfl
theorem e284_2320 : rf d 284 2320 ls s h = rf d 284 2321 ls (.int 2 :: s) h := rf_pure (i := .iconst (2)) (len := 1) (okD_ok (by decide +kernel)) rfl
theorem e284_2321 : rf d 284 2321 ls (.int y :: .int x :: s) h = rf d 284 2322 ls (.int (x + y) :: s) h := rf_pure (i := .iadd) (len := 1) (okD_ok (by decide +kernel)) rfl
theorem e284_2322 (q : inb j n) : rf d 284 2322 ls (.int j :: .ref 0 :: s) (SH n, I, L, R, nc, ns, nx) = rf d 284 2323 ls (.int (I 0 j.toNatClampNeg) :: s) (SH n, I, L, R, nc, ns, nx) := g_sal (by decide +kernel) q
theorem e284_2323 (hcat : ip_cat s ≤ 8) : rf (d + 1) 284 2323 ls (.int x1 :: .int x0 :: .ref 265 :: s) (SH n, I, L, R, nc, ns, nx) = rf_k (d + 1) 284 2323 ls s (cf d 279 [.ref 265, .int x0, .int x1] (SH n, I, L, R, nc, ns, nx)) := g_cv (idx := 249) (t := 8) [.int x1, .int x0] (by decide +kernel) ow284 ms_9_249 mt_9_249 cy279_8 rfl rfl mL279 rfl rfl (by decide) hcat
theorem e284_2326 (hn : ip_nl l5 = true) : rf d 284 2326 [l0, l1, l2, l3, l4, l5, l6] (.int x :: s) h = rf d 284 2328 [l0, l1, l2, l3, l4, l5, some (.int x)] s h := g_sti (i := .istore 6) (len := 2) (q := 5) (p := 2) (by decide +kernel) rfl rfl hn
theorem e284_2328 : rf d 284 2328 [l0, l1, some (.ref a), l3, l4, l5, l6] s h = rf d 284 2329 [l0, l1, some (.ref a), l3, l4, l5, l6] (.ref a :: s) h := rf_pure (i := .aload_n 2) (len := 1) (okD_ok (by decide +kernel)) rfl
theorem e284_2329 (hcat : ip_cat s ≤ 8) : rf (d + 1) 284 2329 ls (.ref 265 :: s) (SH n, I, L, R, nc, ns, nx) = rf_k (d + 1) 284 2329 ls s (cf d 189 [.ref 265] (SH n, I, L, R, nc, ns, nx)) := g_cv (idx := 133) (t := 8) [] (by decide +kernel) ow284 ms_9_133 mt_9_133 cy189_8 rfl rfl mL189 rfl rfl (by decide) hcat
theorem e284_2332 : rf d 284 2332 [l0, l1, l2, l3, l4, some (.int x), l6] s h = rf d 284 2334 [l0, l1, l2, l3, l4, some (.int x), l6] (.int x :: s) h := rf_pure (i := .iload 5) (len := 2) (okD_ok (by decide +kernel)) rfl
theorem e284_2334 : rf d 284 2334 ls (.int y :: .int x :: s) h = if x = y then rf d 284 2339 ls s h else rf d 284 2337 ls s h := g_ic (c := .eq) (off := 5) _ (by decide +kernel) rfl cmp_d
theorem e284_2337 : rf d 284 2337 ls s h = rf d 284 2338 ls (.int 0 :: s) h := rf_pure (i := .iconst (0)) (len := 1) (okD_ok (by decide +kernel)) rfl
theorem e284_2338 (hx : x = 0 ∨ x = 1) : rf d 284 2338 ls [.int x] h = some (.inl (some (.int x)), h) := g_rz (by decide +kernel) rt284 hx
theorem e284_2339 : rf d 284 2339 [l0, l1, l2, l3, l4, some (.int x), l6] s h = rf d 284 2341 [l0, l1, l2, l3, l4, some (.int x), l6] (.int x :: s) h := rf_pure (i := .iload 5) (len := 2) (okD_ok (by decide +kernel)) rfl
theorem e284_2341 : rf d 284 2341 ls (.int x :: s) h = if ¬ x = 0 then rf d 284 2356 ls s h else rf d 284 2344 ls s h := g_if (c := .ne) (off := 15) _ (by decide +kernel) rfl cmp_d
theorem e284_2344 : rf d 284 2344 [l0, l1, l2, some (.ref a), l4, l5, l6] s h = rf d 284 2345 [l0, l1, l2, some (.ref a), l4, l5, l6] (.ref a :: s) h := rf_pure (i := .aload_n 3) (len := 1) (okD_ok (by decide +kernel)) rfl
theorem e284_2345 : rf d 284 2345 ls s h = rf d 284 2346 ls (.int 0 :: s) h := rf_pure (i := .iconst (0)) (len := 1) (okD_ok (by decide +kernel)) rfl
theorem e284_2346 (q : la n a j) : rf d 284 2346 ls (.int j :: .ref a :: s) (SH n, I, L, R, nc, ns, nx) = rf d 284 2347 ls (.long (L a j.toNatClampNeg) :: s) (SH n, I, L, R, nc, ns, nx) := g_lal (by decide +kernel) q
theorem e284_2347 : rf d 284 2347 [l0, l1, l2, l3, l4, l5, some (.int x)] s h = rf d 284 2349 [l0, l1, l2, l3, l4, l5, some (.int x)] (.int x :: s) h := rf_pure (i := .iload 6) (len := 2) (okD_ok (by decide +kernel)) rfl
theorem e284_2349 : rf d 284 2349 ls (.int x :: s) h = rf d 284 2350 ls (.long x.toInt64 :: s) h := rf_pure (i := .i2l) (len := 1) (okD_ok (by decide +kernel)) rfl
theorem e284_2350 : rf d 284 2350 ls (.long v :: .long u :: s) h = rf d 284 2351 ls (.int (lg_cmp u v) :: s) h := rf_pure (i := .lcmp) (len := 1) (okD_ok (by decide +kernel)) rfl
theorem e284_2351 : rf d 284 2351 ls (.int x :: s) h = if x = 0 then rf d 284 2356 ls s h else rf d 284 2354 ls s h := g_if (c := .eq) (off := 5) _ (by decide +kernel) rfl cmp_d
theorem e284_2354 : rf d 284 2354 ls s h = rf d 284 2355 ls (.int 0 :: s) h := rf_pure (i := .iconst (0)) (len := 1) (okD_ok (by decide +kernel)) rfl
theorem e284_2355 (hx : x = 0 ∨ x = 1) : rf d 284 2355 ls [.int x] h = some (.inl (some (.int x)), h) := g_rz (by decide +kernel) rt284 hx
theorem e284_2356 : rf d 284 2356 ls s h = rf d 284 2520 ls s h := rf_goto ⟨okD_ok (i := .goto (164)) (len := 3) (by decide +kernel), rfl⟩
theorem e284_2359 : rf d 284 2359 [l0, some (.ref a), l2, l3, l4, l5, l6] s h = rf d 284 2360 [l0, some (.ref a), l2, l3, l4, l5, l6] (.ref a :: s) h := rf_pure (i := .aload_n 1) (len := 1) (okD_ok (by decide +kernel)) rfl
theorem e284_2360 : rf d 284 2360 [some (.ref a), l1, l2, l3, l4, l5, l6] s h = rf d 284 2361 [some (.ref a), l1, l2, l3, l4, l5, l6] (.ref a :: s) h := rf_pure (i := .aload_n 0) (len := 1) (okD_ok (by decide +kernel)) rfl
theorem e284_2361 : rf d 284 2361 [l0, l1, l2, l3, some (.int x), l5, l6] s h = rf d 284 2363 [l0, l1, l2, l3, some (.int x), l5, l6] (.int x :: s) h := rf_pure (i := .iload 4) (len := 2) (okD_ok (by decide +kernel)) rfl
theorem e284_2363 : rf d 284 2363 ls s h = rf d 284 2364 ls (.int 1 :: s) h := rf_pure (i := .iconst (1)) (len := 1) (okD_ok (by decide +kernel)) rfl
theorem e284_2364 : rf d 284 2364 ls (.int y :: .int x :: s) h = rf d 284 2365 ls (.int (x + y) :: s) h := rf_pure (i := .iadd) (len := 1) (okD_ok (by decide +kernel)) rfl
theorem e284_2365 (q : inb j n) : rf d 284 2365 ls (.int j :: .ref 0 :: s) (SH n, I, L, R, nc, ns, nx) = rf d 284 2366 ls (.int (I 0 j.toNatClampNeg) :: s) (SH n, I, L, R, nc, ns, nx) := g_sal (by decide +kernel) q
theorem e284_2366 : rf d 284 2366 [some (.ref a), l1, l2, l3, l4, l5, l6] s h = rf d 284 2367 [some (.ref a), l1, l2, l3, l4, l5, l6] (.ref a :: s) h := rf_pure (i := .aload_n 0) (len := 1) (okD_ok (by decide +kernel)) rfl
theorem e284_2367 : rf d 284 2367 [l0, l1, l2, l3, some (.int x), l5, l6] s h = rf d 284 2369 [l0, l1, l2, l3, some (.int x), l5, l6] (.int x :: s) h := rf_pure (i := .iload 4) (len := 2) (okD_ok (by decide +kernel)) rfl
theorem e284_2369 : rf d 284 2369 ls s h = rf d 284 2370 ls (.int 2 :: s) h := rf_pure (i := .iconst (2)) (len := 1) (okD_ok (by decide +kernel)) rfl
theorem e284_2370 : rf d 284 2370 ls (.int y :: .int x :: s) h = rf d 284 2371 ls (.int (x + y) :: s) h := rf_pure (i := .iadd) (len := 1) (okD_ok (by decide +kernel)) rfl
theorem e284_2371 (q : inb j n) : rf d 284 2371 ls (.int j :: .ref 0 :: s) (SH n, I, L, R, nc, ns, nx) = rf d 284 2372 ls (.int (I 0 j.toNatClampNeg) :: s) (SH n, I, L, R, nc, ns, nx) := g_sal (by decide +kernel) q
theorem e284_2372 : rf d 284 2372 [l0, l1, l2, some (.ref a), l4, l5, l6] s h = rf d 284 2373 [l0, l1, l2, some (.ref a), l4, l5, l6] (.ref a :: s) h := rf_pure (i := .aload_n 3) (len := 1) (okD_ok (by decide +kernel)) rfl
theorem e284_2373 (hcat : ip_cat s ≤ 8) : rf (d + 1) 284 2373 ls (.ref a3 :: .int x2 :: .int x1 :: .ref a0 :: s) h = rf_k (d + 1) 284 2373 ls s (cf d 179 [.ref a0, .int x1, .int x2, .ref a3] h) := g_cs (idx := 250) [.ref a3, .int x2, .int x1, .ref a0] (by decide +kernel) ow284 ms_9_250 mt_9_250 (by decide) rfl mL179 rfl hcat
theorem e284_2376 (hn : ip_nl l4 = true) : rf d 284 2376 [l0, l1, l2, l3, l4, l5, l6] (.int x :: s) h = rf d 284 2378 [l0, l1, l2, l3, l4, some (.int x), l6] s h := g_sti (i := .istore 5) (len := 2) (q := 4) (p := 2) (by decide +kernel) rfl rfl hn
theorem e284_2378 : rf d 284 2378 [l0, l1, some (.ref a), l3, l4, l5, l6] s h = rf d 284 2379 [l0, l1, some (.ref a), l3, l4, l5, l6] (.ref a :: s) h := rf_pure (i := .aload_n 2) (len := 1) (okD_ok (by decide +kernel)) rfl
theorem e284_2379 : rf d 284 2379 [some (.ref a), l1, l2, l3, l4, l5, l6] s h = rf d 284 2380 [some (.ref a), l1, l2, l3, l4, l5, l6] (.ref a :: s) h := rf_pure (i := .aload_n 0) (len := 1) (okD_ok (by decide +kernel)) rfl
theorem e284_2380 : rf d 284 2380 [l0, l1, l2, l3, some (.int x), l5, l6] s h = rf d 284 2382 [l0, l1, l2, l3, some (.int x), l5, l6] (.int x :: s) h := rf_pure (i := .iload 4) (len := 2) (okD_ok (by decide +kernel)) rfl
theorem e284_2382 : rf d 284 2382 ls s h = rf d 284 2383 ls (.int 1 :: s) h := rf_pure (i := .iconst (1)) (len := 1) (okD_ok (by decide +kernel)) rfl
theorem e284_2383 : rf d 284 2383 ls (.int y :: .int x :: s) h = rf d 284 2384 ls (.int (x + y) :: s) h := rf_pure (i := .iadd) (len := 1) (okD_ok (by decide +kernel)) rfl
theorem e284_2384 (q : inb j n) : rf d 284 2384 ls (.int j :: .ref 0 :: s) (SH n, I, L, R, nc, ns, nx) = rf d 284 2385 ls (.int (I 0 j.toNatClampNeg) :: s) (SH n, I, L, R, nc, ns, nx) := g_sal (by decide +kernel) q
theorem e284_2385 : rf d 284 2385 [some (.ref a), l1, l2, l3, l4, l5, l6] s h = rf d 284 2386 [some (.ref a), l1, l2, l3, l4, l5, l6] (.ref a :: s) h := rf_pure (i := .aload_n 0) (len := 1) (okD_ok (by decide +kernel)) rfl
theorem e284_2386 : rf d 284 2386 [l0, l1, l2, l3, some (.int x), l5, l6] s h = rf d 284 2388 [l0, l1, l2, l3, some (.int x), l5, l6] (.int x :: s) h := rf_pure (i := .iload 4) (len := 2) (okD_ok (by decide +kernel)) rfl
theorem e284_2388 : rf d 284 2388 ls s h = rf d 284 2389 ls (.int 2 :: s) h := rf_pure (i := .iconst (2)) (len := 1) (okD_ok (by decide +kernel)) rfl
theorem e284_2389 : rf d 284 2389 ls (.int y :: .int x :: s) h = rf d 284 2390 ls (.int (x + y) :: s) h := rf_pure (i := .iadd) (len := 1) (okD_ok (by decide +kernel)) rfl
theorem e284_2390 (q : inb j n) : rf d 284 2390 ls (.int j :: .ref 0 :: s) (SH n, I, L, R, nc, ns, nx) = rf d 284 2391 ls (.int (I 0 j.toNatClampNeg) :: s) (SH n, I, L, R, nc, ns, nx) := g_sal (by decide +kernel) q
theorem e284_2391 (hcat : ip_cat s ≤ 8) : rf (d + 1) 284 2391 ls (.int x1 :: .int x0 :: .ref 265 :: s) (SH n, I, L, R, nc, ns, nx) = rf_k (d + 1) 284 2391 ls s (cf d 281 [.ref 265, .int x0, .int x1] (SH n, I, L, R, nc, ns, nx)) := g_cv (idx := 252) (t := 8) [.int x1, .int x0] (by decide +kernel) ow284 ms_9_252 mt_9_252 cy281_8 rfl rfl mL281 rfl rfl (by decide) hcat
theorem e284_2394 (hn : ip_nl l5 = true) : rf d 284 2394 [l0, l1, l2, l3, l4, l5, l6] (.int x :: s) h = rf d 284 2396 [l0, l1, l2, l3, l4, l5, some (.int x)] s h := g_sti (i := .istore 6) (len := 2) (q := 5) (p := 2) (by decide +kernel) rfl rfl hn
theorem e284_2396 : rf d 284 2396 [l0, l1, some (.ref a), l3, l4, l5, l6] s h = rf d 284 2397 [l0, l1, some (.ref a), l3, l4, l5, l6] (.ref a :: s) h := rf_pure (i := .aload_n 2) (len := 1) (okD_ok (by decide +kernel)) rfl
theorem e284_2397 (hcat : ip_cat s ≤ 8) : rf (d + 1) 284 2397 ls (.ref 265 :: s) (SH n, I, L, R, nc, ns, nx) = rf_k (d + 1) 284 2397 ls s (cf d 189 [.ref 265] (SH n, I, L, R, nc, ns, nx)) := g_cv (idx := 133) (t := 8) [] (by decide +kernel) ow284 ms_9_133 mt_9_133 cy189_8 rfl rfl mL189 rfl rfl (by decide) hcat
theorem e284_2400 : rf d 284 2400 [l0, l1, l2, l3, l4, some (.int x), l6] s h = rf d 284 2402 [l0, l1, l2, l3, l4, some (.int x), l6] (.int x :: s) h := rf_pure (i := .iload 5) (len := 2) (okD_ok (by decide +kernel)) rfl
theorem e284_2402 : rf d 284 2402 ls (.int y :: .int x :: s) h = if x = y then rf d 284 2407 ls s h else rf d 284 2405 ls s h := g_ic (c := .eq) (off := 5) _ (by decide +kernel) rfl cmp_d
theorem e284_2405 : rf d 284 2405 ls s h = rf d 284 2406 ls (.int 0 :: s) h := rf_pure (i := .iconst (0)) (len := 1) (okD_ok (by decide +kernel)) rfl
theorem e284_2406 (hx : x = 0 ∨ x = 1) : rf d 284 2406 ls [.int x] h = some (.inl (some (.int x)), h) := g_rz (by decide +kernel) rt284 hx
theorem e284_2407 : rf d 284 2407 [l0, l1, l2, l3, l4, some (.int x), l6] s h = rf d 284 2409 [l0, l1, l2, l3, l4, some (.int x), l6] (.int x :: s) h := rf_pure (i := .iload 5) (len := 2) (okD_ok (by decide +kernel)) rfl
theorem e284_2409 : rf d 284 2409 ls (.int x :: s) h = if ¬ x = 0 then rf d 284 2424 ls s h else rf d 284 2412 ls s h := g_if (c := .ne) (off := 15) _ (by decide +kernel) rfl cmp_d
theorem e284_2412 : rf d 284 2412 [l0, l1, l2, some (.ref a), l4, l5, l6] s h = rf d 284 2413 [l0, l1, l2, some (.ref a), l4, l5, l6] (.ref a :: s) h := rf_pure (i := .aload_n 3) (len := 1) (okD_ok (by decide +kernel)) rfl
theorem e284_2413 : rf d 284 2413 ls s h = rf d 284 2414 ls (.int 0 :: s) h := rf_pure (i := .iconst (0)) (len := 1) (okD_ok (by decide +kernel)) rfl
theorem e284_2414 (q : la n a j) : rf d 284 2414 ls (.int j :: .ref a :: s) (SH n, I, L, R, nc, ns, nx) = rf d 284 2415 ls (.long (L a j.toNatClampNeg) :: s) (SH n, I, L, R, nc, ns, nx) := g_lal (by decide +kernel) q
theorem e284_2415 : rf d 284 2415 [l0, l1, l2, l3, l4, l5, some (.int x)] s h = rf d 284 2417 [l0, l1, l2, l3, l4, l5, some (.int x)] (.int x :: s) h := rf_pure (i := .iload 6) (len := 2) (okD_ok (by decide +kernel)) rfl
theorem e284_2417 : rf d 284 2417 ls (.int x :: s) h = rf d 284 2418 ls (.long x.toInt64 :: s) h := rf_pure (i := .i2l) (len := 1) (okD_ok (by decide +kernel)) rfl
theorem e284_2418 : rf d 284 2418 ls (.long v :: .long u :: s) h = rf d 284 2419 ls (.int (lg_cmp u v) :: s) h := rf_pure (i := .lcmp) (len := 1) (okD_ok (by decide +kernel)) rfl
theorem e284_2419 : rf d 284 2419 ls (.int x :: s) h = if x = 0 then rf d 284 2424 ls s h else rf d 284 2422 ls s h := g_if (c := .eq) (off := 5) _ (by decide +kernel) rfl cmp_d
theorem e284_2422 : rf d 284 2422 ls s h = rf d 284 2423 ls (.int 0 :: s) h := rf_pure (i := .iconst (0)) (len := 1) (okD_ok (by decide +kernel)) rfl
theorem e284_2423 (hx : x = 0 ∨ x = 1) : rf d 284 2423 ls [.int x] h = some (.inl (some (.int x)), h) := g_rz (by decide +kernel) rt284 hx
theorem e284_2424 : rf d 284 2424 ls s h = rf d 284 2520 ls s h := rf_goto ⟨okD_ok (i := .goto (96)) (len := 3) (by decide +kernel), rfl⟩
theorem e284_2427 : rf d 284 2427 [l0, some (.ref a), l2, l3, l4, l5, l6] s h = rf d 284 2428 [l0, some (.ref a), l2, l3, l4, l5, l6] (.ref a :: s) h := rf_pure (i := .aload_n 1) (len := 1) (okD_ok (by decide +kernel)) rfl
theorem e284_2428 : rf d 284 2428 [some (.ref a), l1, l2, l3, l4, l5, l6] s h = rf d 284 2429 [some (.ref a), l1, l2, l3, l4, l5, l6] (.ref a :: s) h := rf_pure (i := .aload_n 0) (len := 1) (okD_ok (by decide +kernel)) rfl
theorem e284_2429 : rf d 284 2429 [l0, l1, l2, l3, some (.int x), l5, l6] s h = rf d 284 2431 [l0, l1, l2, l3, some (.int x), l5, l6] (.int x :: s) h := rf_pure (i := .iload 4) (len := 2) (okD_ok (by decide +kernel)) rfl
theorem e284_2431 : rf d 284 2431 ls s h = rf d 284 2432 ls (.int 1 :: s) h := rf_pure (i := .iconst (1)) (len := 1) (okD_ok (by decide +kernel)) rfl
theorem e284_2432 : rf d 284 2432 ls (.int y :: .int x :: s) h = rf d 284 2433 ls (.int (x + y) :: s) h := rf_pure (i := .iadd) (len := 1) (okD_ok (by decide +kernel)) rfl
theorem e284_2433 (q : inb j n) : rf d 284 2433 ls (.int j :: .ref 0 :: s) (SH n, I, L, R, nc, ns, nx) = rf d 284 2434 ls (.int (I 0 j.toNatClampNeg) :: s) (SH n, I, L, R, nc, ns, nx) := g_sal (by decide +kernel) q
theorem e284_2434 : rf d 284 2434 [some (.ref a), l1, l2, l3, l4, l5, l6] s h = rf d 284 2435 [some (.ref a), l1, l2, l3, l4, l5, l6] (.ref a :: s) h := rf_pure (i := .aload_n 0) (len := 1) (okD_ok (by decide +kernel)) rfl
theorem e284_2435 : rf d 284 2435 [l0, l1, l2, l3, some (.int x), l5, l6] s h = rf d 284 2437 [l0, l1, l2, l3, some (.int x), l5, l6] (.int x :: s) h := rf_pure (i := .iload 4) (len := 2) (okD_ok (by decide +kernel)) rfl
theorem e284_2437 : rf d 284 2437 ls s h = rf d 284 2438 ls (.int 2 :: s) h := rf_pure (i := .iconst (2)) (len := 1) (okD_ok (by decide +kernel)) rfl
theorem e284_2438 : rf d 284 2438 ls (.int y :: .int x :: s) h = rf d 284 2439 ls (.int (x + y) :: s) h := rf_pure (i := .iadd) (len := 1) (okD_ok (by decide +kernel)) rfl
theorem e284_2439 (q : inb j n) : rf d 284 2439 ls (.int j :: .ref 0 :: s) (SH n, I, L, R, nc, ns, nx) = rf d 284 2440 ls (.int (I 0 j.toNatClampNeg) :: s) (SH n, I, L, R, nc, ns, nx) := g_sal (by decide +kernel) q
theorem e284_2440 : rf d 284 2440 [l0, l1, l2, some (.ref a), l4, l5, l6] s h = rf d 284 2441 [l0, l1, l2, some (.ref a), l4, l5, l6] (.ref a :: s) h := rf_pure (i := .aload_n 3) (len := 1) (okD_ok (by decide +kernel)) rfl
theorem e284_2441 (hcat : ip_cat s ≤ 8) : rf (d + 1) 284 2441 ls (.ref a3 :: .int x2 :: .int x1 :: .ref a0 :: s) h = rf_k (d + 1) 284 2441 ls s (cf d 181 [.ref a0, .int x1, .int x2, .ref a3] h) := g_cs (idx := 253) [.ref a3, .int x2, .int x1, .ref a0] (by decide +kernel) ow284 ms_9_253 mt_9_253 (by decide) rfl mL181 rfl hcat
theorem e284_2444 (hn : ip_nl l4 = true) : rf d 284 2444 [l0, l1, l2, l3, l4, l5, l6] (.int x :: s) h = rf d 284 2446 [l0, l1, l2, l3, l4, some (.int x), l6] s h := g_sti (i := .istore 5) (len := 2) (q := 4) (p := 2) (by decide +kernel) rfl rfl hn
theorem e284_2446 : rf d 284 2446 [l0, l1, some (.ref a), l3, l4, l5, l6] s h = rf d 284 2447 [l0, l1, some (.ref a), l3, l4, l5, l6] (.ref a :: s) h := rf_pure (i := .aload_n 2) (len := 1) (okD_ok (by decide +kernel)) rfl
theorem e284_2447 : rf d 284 2447 [some (.ref a), l1, l2, l3, l4, l5, l6] s h = rf d 284 2448 [some (.ref a), l1, l2, l3, l4, l5, l6] (.ref a :: s) h := rf_pure (i := .aload_n 0) (len := 1) (okD_ok (by decide +kernel)) rfl
theorem e284_2448 : rf d 284 2448 [l0, l1, l2, l3, some (.int x), l5, l6] s h = rf d 284 2450 [l0, l1, l2, l3, some (.int x), l5, l6] (.int x :: s) h := rf_pure (i := .iload 4) (len := 2) (okD_ok (by decide +kernel)) rfl
theorem e284_2450 : rf d 284 2450 ls s h = rf d 284 2451 ls (.int 1 :: s) h := rf_pure (i := .iconst (1)) (len := 1) (okD_ok (by decide +kernel)) rfl
theorem e284_2451 : rf d 284 2451 ls (.int y :: .int x :: s) h = rf d 284 2452 ls (.int (x + y) :: s) h := rf_pure (i := .iadd) (len := 1) (okD_ok (by decide +kernel)) rfl
theorem e284_2452 (q : inb j n) : rf d 284 2452 ls (.int j :: .ref 0 :: s) (SH n, I, L, R, nc, ns, nx) = rf d 284 2453 ls (.int (I 0 j.toNatClampNeg) :: s) (SH n, I, L, R, nc, ns, nx) := g_sal (by decide +kernel) q
theorem e284_2453 : rf d 284 2453 [some (.ref a), l1, l2, l3, l4, l5, l6] s h = rf d 284 2454 [some (.ref a), l1, l2, l3, l4, l5, l6] (.ref a :: s) h := rf_pure (i := .aload_n 0) (len := 1) (okD_ok (by decide +kernel)) rfl
theorem e284_2454 : rf d 284 2454 [l0, l1, l2, l3, some (.int x), l5, l6] s h = rf d 284 2456 [l0, l1, l2, l3, some (.int x), l5, l6] (.int x :: s) h := rf_pure (i := .iload 4) (len := 2) (okD_ok (by decide +kernel)) rfl
theorem e284_2456 : rf d 284 2456 ls s h = rf d 284 2457 ls (.int 2 :: s) h := rf_pure (i := .iconst (2)) (len := 1) (okD_ok (by decide +kernel)) rfl
theorem e284_2457 : rf d 284 2457 ls (.int y :: .int x :: s) h = rf d 284 2458 ls (.int (x + y) :: s) h := rf_pure (i := .iadd) (len := 1) (okD_ok (by decide +kernel)) rfl
theorem e284_2458 (q : inb j n) : rf d 284 2458 ls (.int j :: .ref 0 :: s) (SH n, I, L, R, nc, ns, nx) = rf d 284 2459 ls (.int (I 0 j.toNatClampNeg) :: s) (SH n, I, L, R, nc, ns, nx) := g_sal (by decide +kernel) q
theorem e284_2459 (hcat : ip_cat s ≤ 8) : rf (d + 1) 284 2459 ls (.int x1 :: .int x0 :: .ref 265 :: s) (SH n, I, L, R, nc, ns, nx) = rf_k (d + 1) 284 2459 ls s (cf d 282 [.ref 265, .int x0, .int x1] (SH n, I, L, R, nc, ns, nx)) := g_cv (idx := 255) (t := 8) [.int x1, .int x0] (by decide +kernel) ow284 ms_9_255 mt_9_255 cy282_8 rfl rfl mL282 rfl rfl (by decide) hcat
theorem e284_2462 (hn : ip_nl l5 = true) : rf d 284 2462 [l0, l1, l2, l3, l4, l5, l6] (.int x :: s) h = rf d 284 2464 [l0, l1, l2, l3, l4, l5, some (.int x)] s h := g_sti (i := .istore 6) (len := 2) (q := 5) (p := 2) (by decide +kernel) rfl rfl hn
theorem e284_2464 : rf d 284 2464 [l0, l1, some (.ref a), l3, l4, l5, l6] s h = rf d 284 2465 [l0, l1, some (.ref a), l3, l4, l5, l6] (.ref a :: s) h := rf_pure (i := .aload_n 2) (len := 1) (okD_ok (by decide +kernel)) rfl
theorem e284_2465 (hcat : ip_cat s ≤ 8) : rf (d + 1) 284 2465 ls (.ref 265 :: s) (SH n, I, L, R, nc, ns, nx) = rf_k (d + 1) 284 2465 ls s (cf d 189 [.ref 265] (SH n, I, L, R, nc, ns, nx)) := g_cv (idx := 133) (t := 8) [] (by decide +kernel) ow284 ms_9_133 mt_9_133 cy189_8 rfl rfl mL189 rfl rfl (by decide) hcat
theorem e284_2468 : rf d 284 2468 [l0, l1, l2, l3, l4, some (.int x), l6] s h = rf d 284 2470 [l0, l1, l2, l3, l4, some (.int x), l6] (.int x :: s) h := rf_pure (i := .iload 5) (len := 2) (okD_ok (by decide +kernel)) rfl
theorem e284_2470 : rf d 284 2470 ls (.int y :: .int x :: s) h = if x = y then rf d 284 2475 ls s h else rf d 284 2473 ls s h := g_ic (c := .eq) (off := 5) _ (by decide +kernel) rfl cmp_d
theorem e284_2473 : rf d 284 2473 ls s h = rf d 284 2474 ls (.int 0 :: s) h := rf_pure (i := .iconst (0)) (len := 1) (okD_ok (by decide +kernel)) rfl
theorem e284_2474 (hx : x = 0 ∨ x = 1) : rf d 284 2474 ls [.int x] h = some (.inl (some (.int x)), h) := g_rz (by decide +kernel) rt284 hx
theorem e284_2475 : rf d 284 2475 [l0, l1, l2, l3, l4, some (.int x), l6] s h = rf d 284 2477 [l0, l1, l2, l3, l4, some (.int x), l6] (.int x :: s) h := rf_pure (i := .iload 5) (len := 2) (okD_ok (by decide +kernel)) rfl
theorem e284_2477 : rf d 284 2477 ls (.int x :: s) h = if ¬ x = 0 then rf d 284 2492 ls s h else rf d 284 2480 ls s h := g_if (c := .ne) (off := 15) _ (by decide +kernel) rfl cmp_d
theorem e284_2480 : rf d 284 2480 [l0, l1, l2, some (.ref a), l4, l5, l6] s h = rf d 284 2481 [l0, l1, l2, some (.ref a), l4, l5, l6] (.ref a :: s) h := rf_pure (i := .aload_n 3) (len := 1) (okD_ok (by decide +kernel)) rfl
theorem e284_2481 : rf d 284 2481 ls s h = rf d 284 2482 ls (.int 0 :: s) h := rf_pure (i := .iconst (0)) (len := 1) (okD_ok (by decide +kernel)) rfl
theorem e284_2482 (q : la n a j) : rf d 284 2482 ls (.int j :: .ref a :: s) (SH n, I, L, R, nc, ns, nx) = rf d 284 2483 ls (.long (L a j.toNatClampNeg) :: s) (SH n, I, L, R, nc, ns, nx) := g_lal (by decide +kernel) q
theorem e284_2483 : rf d 284 2483 [l0, l1, l2, l3, l4, l5, some (.int x)] s h = rf d 284 2485 [l0, l1, l2, l3, l4, l5, some (.int x)] (.int x :: s) h := rf_pure (i := .iload 6) (len := 2) (okD_ok (by decide +kernel)) rfl
theorem e284_2485 : rf d 284 2485 ls (.int x :: s) h = rf d 284 2486 ls (.long x.toInt64 :: s) h := rf_pure (i := .i2l) (len := 1) (okD_ok (by decide +kernel)) rfl
theorem e284_2486 : rf d 284 2486 ls (.long v :: .long u :: s) h = rf d 284 2487 ls (.int (lg_cmp u v) :: s) h := rf_pure (i := .lcmp) (len := 1) (okD_ok (by decide +kernel)) rfl
theorem e284_2487 : rf d 284 2487 ls (.int x :: s) h = if x = 0 then rf d 284 2492 ls s h else rf d 284 2490 ls s h := g_if (c := .eq) (off := 5) _ (by decide +kernel) rfl cmp_d
theorem e284_2490 : rf d 284 2490 ls s h = rf d 284 2491 ls (.int 0 :: s) h := rf_pure (i := .iconst (0)) (len := 1) (okD_ok (by decide +kernel)) rfl
theorem e284_2491 (hx : x = 0 ∨ x = 1) : rf d 284 2491 ls [.int x] h = some (.inl (some (.int x)), h) := g_rz (by decide +kernel) rt284 hx
theorem e284_2492 : rf d 284 2492 ls s h = rf d 284 2520 ls s h := rf_goto ⟨okD_ok (i := .goto (28)) (len := 3) (by decide +kernel), rfl⟩
theorem e284_2495 : rf d 284 2495 [l0, some (.ref a), l2, l3, l4, l5, l6] s h = rf d 284 2496 [l0, some (.ref a), l2, l3, l4, l5, l6] (.ref a :: s) h := rf_pure (i := .aload_n 1) (len := 1) (okD_ok (by decide +kernel)) rfl
theorem e284_2496 : rf d 284 2496 [some (.ref a), l1, l2, l3, l4, l5, l6] s h = rf d 284 2497 [some (.ref a), l1, l2, l3, l4, l5, l6] (.ref a :: s) h := rf_pure (i := .aload_n 0) (len := 1) (okD_ok (by decide +kernel)) rfl
theorem e284_2497 : rf d 284 2497 [l0, l1, l2, l3, some (.int x), l5, l6] s h = rf d 284 2499 [l0, l1, l2, l3, some (.int x), l5, l6] (.int x :: s) h := rf_pure (i := .iload 4) (len := 2) (okD_ok (by decide +kernel)) rfl
theorem e284_2499 : rf d 284 2499 ls s h = rf d 284 2500 ls (.int 1 :: s) h := rf_pure (i := .iconst (1)) (len := 1) (okD_ok (by decide +kernel)) rfl
theorem e284_2500 : rf d 284 2500 ls (.int y :: .int x :: s) h = rf d 284 2501 ls (.int (x + y) :: s) h := rf_pure (i := .iadd) (len := 1) (okD_ok (by decide +kernel)) rfl
theorem e284_2501 (q : inb j n) : rf d 284 2501 ls (.int j :: .ref 0 :: s) (SH n, I, L, R, nc, ns, nx) = rf d 284 2502 ls (.int (I 0 j.toNatClampNeg) :: s) (SH n, I, L, R, nc, ns, nx) := g_sal (by decide +kernel) q
theorem e284_2502 (hcat : ip_cat s ≤ 8) : rf (d + 1) 284 2502 ls (.int x0 :: .ref 2 :: s) (SH n, I, L, R, nc, ns, nx) = rf_k (d + 1) 284 2502 ls s (cf d 34 [.ref 2, .int x0] (SH n, I, L, R, nc, ns, nx)) := g_cv (idx := 256) (t := 7) [.int x0] (by decide +kernel) ow284 ms_9_256 mt_9_256 cy34_7 rfl rfl mL34 rfl rfl (by decide) hcat
theorem e284_2505 : rf d 284 2505 [l0, l1, some (.ref a), l3, l4, l5, l6] s h = rf d 284 2506 [l0, l1, some (.ref a), l3, l4, l5, l6] (.ref a :: s) h := rf_pure (i := .aload_n 2) (len := 1) (okD_ok (by decide +kernel)) rfl
theorem e284_2506 : rf d 284 2506 [some (.ref a), l1, l2, l3, l4, l5, l6] s h = rf d 284 2507 [some (.ref a), l1, l2, l3, l4, l5, l6] (.ref a :: s) h := rf_pure (i := .aload_n 0) (len := 1) (okD_ok (by decide +kernel)) rfl
theorem e284_2507 : rf d 284 2507 [l0, l1, l2, l3, some (.int x), l5, l6] s h = rf d 284 2509 [l0, l1, l2, l3, some (.int x), l5, l6] (.int x :: s) h := rf_pure (i := .iload 4) (len := 2) (okD_ok (by decide +kernel)) rfl
theorem e284_2509 : rf d 284 2509 ls s h = rf d 284 2510 ls (.int 1 :: s) h := rf_pure (i := .iconst (1)) (len := 1) (okD_ok (by decide +kernel)) rfl
theorem e284_2510 : rf d 284 2510 ls (.int y :: .int x :: s) h = rf d 284 2511 ls (.int (x + y) :: s) h := rf_pure (i := .iadd) (len := 1) (okD_ok (by decide +kernel)) rfl
theorem e284_2511 (q : inb j n) : rf d 284 2511 ls (.int j :: .ref 0 :: s) (SH n, I, L, R, nc, ns, nx) = rf d 284 2512 ls (.int (I 0 j.toNatClampNeg) :: s) (SH n, I, L, R, nc, ns, nx) := g_sal (by decide +kernel) q
theorem e284_2512 (hcat : ip_cat s ≤ 8) : rf (d + 1) 284 2512 ls (.int x0 :: .ref 265 :: s) (SH n, I, L, R, nc, ns, nx) = rf_k (d + 1) 284 2512 ls s (cf d 283 [.ref 265, .int x0] (SH n, I, L, R, nc, ns, nx)) := g_cv (idx := 259) (t := 8) [.int x0] (by decide +kernel) ow284 ms_9_259 mt_9_259 cy283_8 rfl rfl mL283 rfl rfl (by decide) hcat
theorem e284_2515 : rf d 284 2515 ls (.int y :: .int x :: s) h = if x = y then rf d 284 2520 ls s h else rf d 284 2518 ls s h := g_ic (c := .eq) (off := 5) _ (by decide +kernel) rfl cmp_d
theorem e284_2518 : rf d 284 2518 ls s h = rf d 284 2519 ls (.int 0 :: s) h := rf_pure (i := .iconst (0)) (len := 1) (okD_ok (by decide +kernel)) rfl
theorem e284_2519 (hx : x = 0 ∨ x = 1) : rf d 284 2519 ls [.int x] h = some (.inl (some (.int x)), h) := g_rz (by decide +kernel) rt284 hx
theorem e284_2520 (hn : ip_nl l3 = true) : rf d 284 2520 [l0, l1, l2, l3, some (.int x), l5, l6] s h = rf d 284 2523 [l0, l1, l2, l3, some (.int (x + 6)), l5, l6] s h := g_inc (q := 3) (z := 6) (w := 6) (x := x) (by decide) (by decide +kernel) rfl rfl hn
theorem e284_2523 : rf d 284 2523 ls s h = rf d 284 23 ls s h := rf_goto ⟨okD_ok (i := .goto (-2500)) (len := 3) (by decide +kernel), rfl⟩
theorem e284_2526 : rf d 284 2526 ls s h = rf d 284 2527 ls (.int 1 :: s) h := rf_pure (i := .iconst (1)) (len := 1) (okD_ok (by decide +kernel)) rfl
theorem e284_2527 (hx : x = 0 ∨ x = 1) : rf d 284 2527 ls [.int x] h = some (.inl (some (.int x)), h) := g_rz (by decide +kernel) rt284 hx
end S10
