/-! STEPS, 1 (printed by wip/whole/gen_steps.py) -/
section S01
variable {n d a b t : Nat} {l0 l1 l2 l3 l4 l5 l6 l7 l8 l9 l10 l11 l12 l13 : Option Value} {ls : List (Option Value)} {s : List Value} {h : ip_H} {I : Nat → Nat → Int32} {L : Nat → Nat → Int64} {R : Nat → Nat → Option Nat} {nc ns : Nat} {nx : Bool} {x y j z sp dp x0 x1 x2 x3 x4 x5 : Int32} {u v u0 u1 u2 u3 : Int64} {a0 a1 a2 a3 a4 : Nat}
theorem en39 : cf d 39 [.ref a] h = rf d 39 0 [some (.ref a)] [] h := rfl
theorem e39_0 : rf d 39 0 [some (.ref a)] s h = rf d 39 1 [some (.ref a)] (.ref a :: s) h := rf_pure (i := .aload_n 0) (len := 1) (okD_ok (by decide +kernel)) rfl
theorem e39_1 : rf d 39 1 ls s h = rf d 39 2 ls (.int 0 :: s) h := rf_pure (i := .iconst (0)) (len := 1) (okD_ok (by decide +kernel)) rfl
theorem e39_2 : rf d 39 2 ls (.int x :: .ref 5 :: s) (SH n, I, L, R, nc, ns, nx) = rf d 39 5 ls s (SH n, ip_up I 5 2 x, L, R, nc, ns, nx) := g_pI (idx := 16) (by decide +kernel) ow39 f_5_16 rfl (by decide +kernel) rfl (by decide)
theorem e39_5 : rf d 39 5 ls [] h = some (.inl none, h) := g_rv (by decide +kernel) rt39
theorem en40 : cf d 40 [.ref a] h = rf d 40 0 [some (.ref a), none] [] h := rfl
theorem e40_0 : rf d 40 0 ls s h = rf d 40 1 ls (.int 0 :: s) h := rf_pure (i := .iconst (0)) (len := 1) (okD_ok (by decide +kernel)) rfl
theorem e40_1 (hn : ip_nl l0 = true) : rf d 40 1 [l0, l1] (.int x :: s) h = rf d 40 2 [l0, some (.int x)] s h := g_sti (i := .istore_n 1) (len := 1) (q := 0) (p := 1) (by decide +kernel) rfl rfl hn
theorem e40_2 : rf d 40 2 [l0, some (.int x)] s h = rf d 40 3 [l0, some (.int x)] (.int x :: s) h := rf_pure (i := .iload_n 1) (len := 1) (okD_ok (by decide +kernel)) rfl
theorem e40_3 : rf d 40 3 ls s h = rf d 40 6 ls (.int 400 :: s) h := rf_pure (i := .sipush (400)) (len := 3) (okD_ok (by decide +kernel)) rfl
theorem e40_6 : rf d 40 6 ls (.int y :: .int x :: s) h = if y ≤ x then rf d 40 51 ls s h else rf d 40 9 ls s h := g_ic (c := .ge) (off := 45) _ (by decide +kernel) rfl cmp_d
theorem e40_9 : rf d 40 9 [some (.ref a), l1] s h = rf d 40 10 [some (.ref a), l1] (.ref a :: s) h := rf_pure (i := .aload_n 0) (len := 1) (okD_ok (by decide +kernel)) rfl
theorem e40_10 : rf d 40 10 ls (.ref 4 :: s) (SH n, I, L, R, nc, ns, nx) = rf d 40 13 ls (.int (I 4 4) :: s) (SH n, I, L, R, nc, ns, nx) := g_I (idx := 39) (by decide +kernel) ow40 f_4_39 rfl rfl (by decide)
theorem e40_13 : rf d 40 13 [some (.ref a), l1] s h = rf d 40 14 [some (.ref a), l1] (.ref a :: s) h := rf_pure (i := .aload_n 0) (len := 1) (okD_ok (by decide +kernel)) rfl
theorem e40_14 : rf d 40 14 ls (.ref 4 :: s) (SH n, I, L, R, nc, ns, nx) = rf d 40 17 ls (.int (I 4 3) :: s) (SH n, I, L, R, nc, ns, nx) := g_I (idx := 35) (by decide +kernel) ow40 f_4_35 rfl rfl (by decide)
theorem e40_17 : rf d 40 17 ls (.int y :: .int x :: s) h = if y ≤ x then rf d 40 51 ls s h else rf d 40 20 ls s h := g_ic (c := .ge) (off := 34) _ (by decide +kernel) rfl cmp_d
theorem e40_20 : rf d 40 20 [some (.ref a), l1] s h = rf d 40 21 [some (.ref a), l1] (.ref a :: s) h := rf_pure (i := .aload_n 0) (len := 1) (okD_ok (by decide +kernel)) rfl
theorem e40_21 : rf d 40 21 ls (.ref 4 :: s) (SH n, I, L, R, nc, ns, nx) = rf d 40 24 ls (ip_rf (R 4 1) :: s) (SH n, I, L, R, nc, ns, nx) := g_R (idx := 18) (by decide +kernel) ow40 f_4_18 rfl rfl (by decide) rfl
theorem e40_24 : rf d 40 24 [some (.ref a), l1] s h = rf d 40 25 [some (.ref a), l1] (.ref a :: s) h := rf_pure (i := .aload_n 0) (len := 1) (okD_ok (by decide +kernel)) rfl
theorem e40_25 : rf d 40 25 ls (.ref 4 :: s) (SH n, I, L, R, nc, ns, nx) = rf d 40 28 ls (.int (I 4 4) :: s) (SH n, I, L, R, nc, ns, nx) := g_I (idx := 39) (by decide +kernel) ow40 f_4_39 rfl rfl (by decide)
theorem e40_28 (q : ia n a j) : rf d 40 28 ls (.int j :: .ref a :: s) (SH n, I, L, R, nc, ns, nx) = rf d 40 29 ls (.int (I a j.toNatClampNeg) :: s) (SH n, I, L, R, nc, ns, nx) := g_ial (by decide +kernel) q
theorem e40_29 (hcat : ip_cat s ≤ 8) : rf (d + 1) 40 29 ls (.int x0 :: s) h = rf_k (d + 1) 40 29 ls s (cf d 41 [.int x0] h) := g_cs (idx := 144) [.int x0] (by decide +kernel) ow40 ms_4_144 mt_4_144 (by decide) rfl mL41 rfl hcat
theorem e40_32 : rf d 40 32 ls (.int x :: s) h = if x = 0 then rf d 40 51 ls s h else rf d 40 35 ls s h := g_if (c := .eq) (off := 19) _ (by decide +kernel) rfl cmp_d
theorem e40_35 : rf d 40 35 [some (.ref a), l1] s h = rf d 40 36 [some (.ref a), l1] (.ref a :: s) h := rf_pure (i := .aload_n 0) (len := 1) (okD_ok (by decide +kernel)) rfl
theorem e40_36 : rf d 40 36 ls (.int x :: s) h = rf d 40 37 ls (.int x :: .int x :: s) h := rf_pure (i := .dup) (len := 1) (okD_ok (by decide +kernel)) rfl
theorem e40_36r : rf d 40 36 ls (.ref a :: s) h = rf d 40 37 ls (.ref a :: .ref a :: s) h := rf_pure (i := .dup) (len := 1) (okD_ok (by decide +kernel)) rfl
theorem e40_37 : rf d 40 37 ls (.ref 4 :: s) (SH n, I, L, R, nc, ns, nx) = rf d 40 40 ls (.int (I 4 4) :: s) (SH n, I, L, R, nc, ns, nx) := g_I (idx := 39) (by decide +kernel) ow40 f_4_39 rfl rfl (by decide)
theorem e40_40 : rf d 40 40 ls s h = rf d 40 41 ls (.int 1 :: s) h := rf_pure (i := .iconst (1)) (len := 1) (okD_ok (by decide +kernel)) rfl
theorem e40_41 : rf d 40 41 ls (.int y :: .int x :: s) h = rf d 40 42 ls (.int (x + y) :: s) h := rf_pure (i := .iadd) (len := 1) (okD_ok (by decide +kernel)) rfl
theorem e40_42 : rf d 40 42 ls (.int x :: .ref 4 :: s) (SH n, I, L, R, nc, ns, nx) = rf d 40 45 ls s (SH n, ip_up I 4 4 x, L, R, nc, ns, nx) := g_pI (idx := 39) (by decide +kernel) ow40 f_4_39 rfl (by decide +kernel) rfl (by decide)
theorem e40_45 (hn : ip_nl l0 = true) : rf d 40 45 [l0, some (.int x)] s h = rf d 40 48 [l0, some (.int (x + 1))] s h := g_inc (q := 0) (z := 1) (w := 1) (x := x) (by decide) (by decide +kernel) rfl rfl hn
theorem e40_48 : rf d 40 48 ls s h = rf d 40 2 ls s h := rf_goto ⟨okD_ok (i := .goto (-46)) (len := 3) (by decide +kernel), rfl⟩
theorem e40_51 : rf d 40 51 [some (.ref a), l1] s h = rf d 40 52 [some (.ref a), l1] (.ref a :: s) h := rf_pure (i := .aload_n 0) (len := 1) (okD_ok (by decide +kernel)) rfl
theorem e40_52 : rf d 40 52 [some (.ref a), l1] s h = rf d 40 53 [some (.ref a), l1] (.ref a :: s) h := rf_pure (i := .aload_n 0) (len := 1) (okD_ok (by decide +kernel)) rfl
theorem e40_53 : rf d 40 53 ls (.ref 4 :: s) (SH n, I, L, R, nc, ns, nx) = rf d 40 56 ls (.int (I 4 4) :: s) (SH n, I, L, R, nc, ns, nx) := g_I (idx := 39) (by decide +kernel) ow40 f_4_39 rfl rfl (by decide)
theorem e40_56 : rf d 40 56 ls (.int x :: .ref 4 :: s) (SH n, I, L, R, nc, ns, nx) = rf d 40 59 ls s (SH n, ip_up I 4 5 x, L, R, nc, ns, nx) := g_pI (idx := 71) (by decide +kernel) ow40 f_4_71 rfl (by decide +kernel) rfl (by decide)
theorem e40_59 : rf d 40 59 [some (.ref a), l1] s h = rf d 40 60 [some (.ref a), l1] (.ref a :: s) h := rf_pure (i := .aload_n 0) (len := 1) (okD_ok (by decide +kernel)) rfl
theorem e40_60 : rf d 40 60 ls (.ref 4 :: s) (SH n, I, L, R, nc, ns, nx) = rf d 40 63 ls (.int (I 4 4) :: s) (SH n, I, L, R, nc, ns, nx) := g_I (idx := 39) (by decide +kernel) ow40 f_4_39 rfl rfl (by decide)
theorem e40_63 : rf d 40 63 [some (.ref a), l1] s h = rf d 40 64 [some (.ref a), l1] (.ref a :: s) h := rf_pure (i := .aload_n 0) (len := 1) (okD_ok (by decide +kernel)) rfl
theorem e40_64 : rf d 40 64 ls (.ref 4 :: s) (SH n, I, L, R, nc, ns, nx) = rf d 40 67 ls (.int (I 4 3) :: s) (SH n, I, L, R, nc, ns, nx) := g_I (idx := 35) (by decide +kernel) ow40 f_4_35 rfl rfl (by decide)
theorem e40_67 : rf d 40 67 ls (.int y :: .int x :: s) h = if x < y then rf d 40 79 ls s h else rf d 40 70 ls s h := g_ic (c := .lt) (off := 12) _ (by decide +kernel) rfl cmp_d
theorem e40_70 : rf d 40 70 [some (.ref a), l1] s h = rf d 40 71 [some (.ref a), l1] (.ref a :: s) h := rf_pure (i := .aload_n 0) (len := 1) (okD_ok (by decide +kernel)) rfl
theorem e40_71 : rf d 40 71 ls s h = rf d 40 73 ls (.int 15 :: s) h := rf_pure (i := .bipush (15)) (len := 2) (okD_ok (by decide +kernel)) rfl
theorem e40_73 : rf d 40 73 ls (.int x :: .ref 4 :: s) (SH n, I, L, R, nc, ns, nx) = rf d 40 76 ls s (SH n, ip_up I 4 6 x, L, R, nc, ns, nx) := g_pI (idx := 51) (by decide +kernel) ow40 f_4_51 rfl (by decide +kernel) rfl (by decide)
theorem e40_76 : rf d 40 76 ls s h = rf d 40 292 ls s h := rf_goto ⟨okD_ok (i := .goto (216)) (len := 3) (by decide +kernel), rfl⟩
theorem e40_79 : rf d 40 79 [some (.ref a), l1] s h = rf d 40 80 [some (.ref a), l1] (.ref a :: s) h := rf_pure (i := .aload_n 0) (len := 1) (okD_ok (by decide +kernel)) rfl
theorem e40_80 : rf d 40 80 ls (.ref 4 :: s) (SH n, I, L, R, nc, ns, nx) = rf d 40 83 ls (ip_rf (R 4 1) :: s) (SH n, I, L, R, nc, ns, nx) := g_R (idx := 18) (by decide +kernel) ow40 f_4_18 rfl rfl (by decide) rfl
theorem e40_83 : rf d 40 83 [some (.ref a), l1] s h = rf d 40 84 [some (.ref a), l1] (.ref a :: s) h := rf_pure (i := .aload_n 0) (len := 1) (okD_ok (by decide +kernel)) rfl
theorem e40_84 : rf d 40 84 ls (.ref 4 :: s) (SH n, I, L, R, nc, ns, nx) = rf d 40 87 ls (.int (I 4 4) :: s) (SH n, I, L, R, nc, ns, nx) := g_I (idx := 39) (by decide +kernel) ow40 f_4_39 rfl rfl (by decide)
theorem e40_87 (q : ia n a j) : rf d 40 87 ls (.int j :: .ref a :: s) (SH n, I, L, R, nc, ns, nx) = rf d 40 88 ls (.int (I a j.toNatClampNeg) :: s) (SH n, I, L, R, nc, ns, nx) := g_ial (by decide +kernel) q
theorem e40_88 (hcat : ip_cat s ≤ 8) : rf (d + 1) 40 88 ls (.int x0 :: s) h = rf_k (d + 1) 40 88 ls s (cf d 42 [.int x0] h) := g_cs (idx := 147) [.int x0] (by decide +kernel) ow40 ms_4_147 mt_4_147 (by decide) rfl mL42 rfl hcat
theorem e40_91 : rf d 40 91 ls (.int x :: s) h = if x = 0 then rf d 40 156 ls s h else rf d 40 94 ls s h := g_if (c := .eq) (off := 65) _ (by decide +kernel) rfl cmp_d
theorem e40_94 : rf d 40 94 ls s h = rf d 40 95 ls (.int 0 :: s) h := rf_pure (i := .iconst (0)) (len := 1) (okD_ok (by decide +kernel)) rfl
theorem e40_95 (hn : ip_nl l0 = true) : rf d 40 95 [l0, l1] (.int x :: s) h = rf d 40 96 [l0, some (.int x)] s h := g_sti (i := .istore_n 1) (len := 1) (q := 0) (p := 1) (by decide +kernel) rfl rfl hn
theorem e40_96 : rf d 40 96 [l0, some (.int x)] s h = rf d 40 97 [l0, some (.int x)] (.int x :: s) h := rf_pure (i := .iload_n 1) (len := 1) (okD_ok (by decide +kernel)) rfl
theorem e40_97 : rf d 40 97 ls s h = rf d 40 100 ls (.int 400 :: s) h := rf_pure (i := .sipush (400)) (len := 3) (okD_ok (by decide +kernel)) rfl
theorem e40_100 : rf d 40 100 ls (.int y :: .int x :: s) h = if y ≤ x then rf d 40 145 ls s h else rf d 40 103 ls s h := g_ic (c := .ge) (off := 45) _ (by decide +kernel) rfl cmp_d
theorem e40_103 : rf d 40 103 [some (.ref a), l1] s h = rf d 40 104 [some (.ref a), l1] (.ref a :: s) h := rf_pure (i := .aload_n 0) (len := 1) (okD_ok (by decide +kernel)) rfl
theorem e40_104 : rf d 40 104 ls (.ref 4 :: s) (SH n, I, L, R, nc, ns, nx) = rf d 40 107 ls (.int (I 4 4) :: s) (SH n, I, L, R, nc, ns, nx) := g_I (idx := 39) (by decide +kernel) ow40 f_4_39 rfl rfl (by decide)
theorem e40_107 : rf d 40 107 [some (.ref a), l1] s h = rf d 40 108 [some (.ref a), l1] (.ref a :: s) h := rf_pure (i := .aload_n 0) (len := 1) (okD_ok (by decide +kernel)) rfl
theorem e40_108 : rf d 40 108 ls (.ref 4 :: s) (SH n, I, L, R, nc, ns, nx) = rf d 40 111 ls (.int (I 4 3) :: s) (SH n, I, L, R, nc, ns, nx) := g_I (idx := 35) (by decide +kernel) ow40 f_4_35 rfl rfl (by decide)
theorem e40_111 : rf d 40 111 ls (.int y :: .int x :: s) h = if y ≤ x then rf d 40 145 ls s h else rf d 40 114 ls s h := g_ic (c := .ge) (off := 34) _ (by decide +kernel) rfl cmp_d
theorem e40_114 : rf d 40 114 [some (.ref a), l1] s h = rf d 40 115 [some (.ref a), l1] (.ref a :: s) h := rf_pure (i := .aload_n 0) (len := 1) (okD_ok (by decide +kernel)) rfl
theorem e40_115 : rf d 40 115 ls (.ref 4 :: s) (SH n, I, L, R, nc, ns, nx) = rf d 40 118 ls (ip_rf (R 4 1) :: s) (SH n, I, L, R, nc, ns, nx) := g_R (idx := 18) (by decide +kernel) ow40 f_4_18 rfl rfl (by decide) rfl
theorem e40_118 : rf d 40 118 [some (.ref a), l1] s h = rf d 40 119 [some (.ref a), l1] (.ref a :: s) h := rf_pure (i := .aload_n 0) (len := 1) (okD_ok (by decide +kernel)) rfl
theorem e40_119 : rf d 40 119 ls (.ref 4 :: s) (SH n, I, L, R, nc, ns, nx) = rf d 40 122 ls (.int (I 4 4) :: s) (SH n, I, L, R, nc, ns, nx) := g_I (idx := 39) (by decide +kernel) ow40 f_4_39 rfl rfl (by decide)
theorem e40_122 (q : ia n a j) : rf d 40 122 ls (.int j :: .ref a :: s) (SH n, I, L, R, nc, ns, nx) = rf d 40 123 ls (.int (I a j.toNatClampNeg) :: s) (SH n, I, L, R, nc, ns, nx) := g_ial (by decide +kernel) q
theorem e40_123 (hcat : ip_cat s ≤ 8) : rf (d + 1) 40 123 ls (.int x0 :: s) h = rf_k (d + 1) 40 123 ls s (cf d 42 [.int x0] h) := g_cs (idx := 147) [.int x0] (by decide +kernel) ow40 ms_4_147 mt_4_147 (by decide) rfl mL42 rfl hcat
theorem e40_126 : rf d 40 126 ls (.int x :: s) h = if x = 0 then rf d 40 145 ls s h else rf d 40 129 ls s h := g_if (c := .eq) (off := 19) _ (by decide +kernel) rfl cmp_d
theorem e40_129 : rf d 40 129 [some (.ref a), l1] s h = rf d 40 130 [some (.ref a), l1] (.ref a :: s) h := rf_pure (i := .aload_n 0) (len := 1) (okD_ok (by decide +kernel)) rfl
theorem e40_130 : rf d 40 130 ls (.int x :: s) h = rf d 40 131 ls (.int x :: .int x :: s) h := rf_pure (i := .dup) (len := 1) (okD_ok (by decide +kernel)) rfl
theorem e40_130r : rf d 40 130 ls (.ref a :: s) h = rf d 40 131 ls (.ref a :: .ref a :: s) h := rf_pure (i := .dup) (len := 1) (okD_ok (by decide +kernel)) rfl
theorem e40_131 : rf d 40 131 ls (.ref 4 :: s) (SH n, I, L, R, nc, ns, nx) = rf d 40 134 ls (.int (I 4 4) :: s) (SH n, I, L, R, nc, ns, nx) := g_I (idx := 39) (by decide +kernel) ow40 f_4_39 rfl rfl (by decide)
theorem e40_134 : rf d 40 134 ls s h = rf d 40 135 ls (.int 1 :: s) h := rf_pure (i := .iconst (1)) (len := 1) (okD_ok (by decide +kernel)) rfl
theorem e40_135 : rf d 40 135 ls (.int y :: .int x :: s) h = rf d 40 136 ls (.int (x + y) :: s) h := rf_pure (i := .iadd) (len := 1) (okD_ok (by decide +kernel)) rfl
theorem e40_136 : rf d 40 136 ls (.int x :: .ref 4 :: s) (SH n, I, L, R, nc, ns, nx) = rf d 40 139 ls s (SH n, ip_up I 4 4 x, L, R, nc, ns, nx) := g_pI (idx := 39) (by decide +kernel) ow40 f_4_39 rfl (by decide +kernel) rfl (by decide)
theorem e40_139 (hn : ip_nl l0 = true) : rf d 40 139 [l0, some (.int x)] s h = rf d 40 142 [l0, some (.int (x + 1))] s h := g_inc (q := 0) (z := 1) (w := 1) (x := x) (by decide) (by decide +kernel) rfl rfl hn
theorem e40_142 : rf d 40 142 ls s h = rf d 40 96 ls s h := rf_goto ⟨okD_ok (i := .goto (-46)) (len := 3) (by decide +kernel), rfl⟩
theorem e40_145 : rf d 40 145 [some (.ref a), l1] s h = rf d 40 146 [some (.ref a), l1] (.ref a :: s) h := rf_pure (i := .aload_n 0) (len := 1) (okD_ok (by decide +kernel)) rfl
theorem e40_146 : rf d 40 146 [some (.ref a), l1] s h = rf d 40 147 [some (.ref a), l1] (.ref a :: s) h := rf_pure (i := .aload_n 0) (len := 1) (okD_ok (by decide +kernel)) rfl
theorem e40_147 (hcat : ip_cat s ≤ 8) : rf (d + 1) 40 147 ls (.ref 4 :: s) (SH n, I, L, R, nc, ns, nx) = rf_k (d + 1) 40 147 ls s (cf d 43 [.ref 4] (SH n, I, L, R, nc, ns, nx)) := g_cv (idx := 150) (t := 4) [] (by decide +kernel) ow40 ms_4_150 mt_4_150 cy43_4 rfl rfl mL43 rfl rfl (by decide) hcat
theorem e40_150 : rf d 40 150 ls (.int x :: .ref 4 :: s) (SH n, I, L, R, nc, ns, nx) = rf d 40 153 ls s (SH n, ip_up I 4 6 x, L, R, nc, ns, nx) := g_pI (idx := 51) (by decide +kernel) ow40 f_4_51 rfl (by decide +kernel) rfl (by decide)
theorem e40_153 : rf d 40 153 ls s h = rf d 40 292 ls s h := rf_goto ⟨okD_ok (i := .goto (139)) (len := 3) (by decide +kernel), rfl⟩
theorem e40_156 : rf d 40 156 [some (.ref a), l1] s h = rf d 40 157 [some (.ref a), l1] (.ref a :: s) h := rf_pure (i := .aload_n 0) (len := 1) (okD_ok (by decide +kernel)) rfl
theorem e40_157 : rf d 40 157 ls (.ref 4 :: s) (SH n, I, L, R, nc, ns, nx) = rf d 40 160 ls (ip_rf (R 4 1) :: s) (SH n, I, L, R, nc, ns, nx) := g_R (idx := 18) (by decide +kernel) ow40 f_4_18 rfl rfl (by decide) rfl
theorem e40_160 : rf d 40 160 [some (.ref a), l1] s h = rf d 40 161 [some (.ref a), l1] (.ref a :: s) h := rf_pure (i := .aload_n 0) (len := 1) (okD_ok (by decide +kernel)) rfl
theorem e40_161 : rf d 40 161 ls (.ref 4 :: s) (SH n, I, L, R, nc, ns, nx) = rf d 40 164 ls (.int (I 4 4) :: s) (SH n, I, L, R, nc, ns, nx) := g_I (idx := 39) (by decide +kernel) ow40 f_4_39 rfl rfl (by decide)
theorem e40_164 (q : ia n a j) : rf d 40 164 ls (.int j :: .ref a :: s) (SH n, I, L, R, nc, ns, nx) = rf d 40 165 ls (.int (I a j.toNatClampNeg) :: s) (SH n, I, L, R, nc, ns, nx) := g_ial (by decide +kernel) q
theorem e40_165 (hcat : ip_cat s ≤ 8) : rf (d + 1) 40 165 ls (.int x0 :: s) h = rf_k (d + 1) 40 165 ls s (cf d 45 [.int x0] h) := g_cs (idx := 153) [.int x0] (by decide +kernel) ow40 ms_4_153 mt_4_153 (by decide) rfl mL45 rfl hcat
theorem e40_168 : rf d 40 168 ls (.int x :: s) h = if x = 0 then rf d 40 249 ls s h else rf d 40 171 ls s h := g_if (c := .eq) (off := 81) _ (by decide +kernel) rfl cmp_d
theorem e40_171 : rf d 40 171 ls s h = rf d 40 172 ls (.int 0 :: s) h := rf_pure (i := .iconst (0)) (len := 1) (okD_ok (by decide +kernel)) rfl
theorem e40_172 (hn : ip_nl l0 = true) : rf d 40 172 [l0, l1] (.int x :: s) h = rf d 40 173 [l0, some (.int x)] s h := g_sti (i := .istore_n 1) (len := 1) (q := 0) (p := 1) (by decide +kernel) rfl rfl hn
theorem e40_173 : rf d 40 173 [l0, some (.int x)] s h = rf d 40 174 [l0, some (.int x)] (.int x :: s) h := rf_pure (i := .iload_n 1) (len := 1) (okD_ok (by decide +kernel)) rfl
theorem e40_174 : rf d 40 174 ls s h = rf d 40 177 ls (.int 400 :: s) h := rf_pure (i := .sipush (400)) (len := 3) (okD_ok (by decide +kernel)) rfl
theorem e40_177 : rf d 40 177 ls (.int y :: .int x :: s) h = if y ≤ x then rf d 40 222 ls s h else rf d 40 180 ls s h := g_ic (c := .ge) (off := 45) _ (by decide +kernel) rfl cmp_d
theorem e40_180 : rf d 40 180 [some (.ref a), l1] s h = rf d 40 181 [some (.ref a), l1] (.ref a :: s) h := rf_pure (i := .aload_n 0) (len := 1) (okD_ok (by decide +kernel)) rfl
theorem e40_181 : rf d 40 181 ls (.ref 4 :: s) (SH n, I, L, R, nc, ns, nx) = rf d 40 184 ls (.int (I 4 4) :: s) (SH n, I, L, R, nc, ns, nx) := g_I (idx := 39) (by decide +kernel) ow40 f_4_39 rfl rfl (by decide)
theorem e40_184 : rf d 40 184 [some (.ref a), l1] s h = rf d 40 185 [some (.ref a), l1] (.ref a :: s) h := rf_pure (i := .aload_n 0) (len := 1) (okD_ok (by decide +kernel)) rfl
theorem e40_185 : rf d 40 185 ls (.ref 4 :: s) (SH n, I, L, R, nc, ns, nx) = rf d 40 188 ls (.int (I 4 3) :: s) (SH n, I, L, R, nc, ns, nx) := g_I (idx := 35) (by decide +kernel) ow40 f_4_35 rfl rfl (by decide)
theorem e40_188 : rf d 40 188 ls (.int y :: .int x :: s) h = if y ≤ x then rf d 40 222 ls s h else rf d 40 191 ls s h := g_ic (c := .ge) (off := 34) _ (by decide +kernel) rfl cmp_d
theorem e40_191 : rf d 40 191 [some (.ref a), l1] s h = rf d 40 192 [some (.ref a), l1] (.ref a :: s) h := rf_pure (i := .aload_n 0) (len := 1) (okD_ok (by decide +kernel)) rfl
theorem e40_192 : rf d 40 192 ls (.ref 4 :: s) (SH n, I, L, R, nc, ns, nx) = rf d 40 195 ls (ip_rf (R 4 1) :: s) (SH n, I, L, R, nc, ns, nx) := g_R (idx := 18) (by decide +kernel) ow40 f_4_18 rfl rfl (by decide) rfl
theorem e40_195 : rf d 40 195 [some (.ref a), l1] s h = rf d 40 196 [some (.ref a), l1] (.ref a :: s) h := rf_pure (i := .aload_n 0) (len := 1) (okD_ok (by decide +kernel)) rfl
theorem e40_196 : rf d 40 196 ls (.ref 4 :: s) (SH n, I, L, R, nc, ns, nx) = rf d 40 199 ls (.int (I 4 4) :: s) (SH n, I, L, R, nc, ns, nx) := g_I (idx := 39) (by decide +kernel) ow40 f_4_39 rfl rfl (by decide)
theorem e40_199 (q : ia n a j) : rf d 40 199 ls (.int j :: .ref a :: s) (SH n, I, L, R, nc, ns, nx) = rf d 40 200 ls (.int (I a j.toNatClampNeg) :: s) (SH n, I, L, R, nc, ns, nx) := g_ial (by decide +kernel) q
theorem e40_200 (hcat : ip_cat s ≤ 8) : rf (d + 1) 40 200 ls (.int x0 :: s) h = rf_k (d + 1) 40 200 ls s (cf d 45 [.int x0] h) := g_cs (idx := 153) [.int x0] (by decide +kernel) ow40 ms_4_153 mt_4_153 (by decide) rfl mL45 rfl hcat
theorem e40_203 : rf d 40 203 ls (.int x :: s) h = if x = 0 then rf d 40 222 ls s h else rf d 40 206 ls s h := g_if (c := .eq) (off := 19) _ (by decide +kernel) rfl cmp_d
theorem e40_206 : rf d 40 206 [some (.ref a), l1] s h = rf d 40 207 [some (.ref a), l1] (.ref a :: s) h := rf_pure (i := .aload_n 0) (len := 1) (okD_ok (by decide +kernel)) rfl
theorem e40_207 : rf d 40 207 ls (.int x :: s) h = rf d 40 208 ls (.int x :: .int x :: s) h := rf_pure (i := .dup) (len := 1) (okD_ok (by decide +kernel)) rfl
theorem e40_207r : rf d 40 207 ls (.ref a :: s) h = rf d 40 208 ls (.ref a :: .ref a :: s) h := rf_pure (i := .dup) (len := 1) (okD_ok (by decide +kernel)) rfl
theorem e40_208 : rf d 40 208 ls (.ref 4 :: s) (SH n, I, L, R, nc, ns, nx) = rf d 40 211 ls (.int (I 4 4) :: s) (SH n, I, L, R, nc, ns, nx) := g_I (idx := 39) (by decide +kernel) ow40 f_4_39 rfl rfl (by decide)
theorem e40_211 : rf d 40 211 ls s h = rf d 40 212 ls (.int 1 :: s) h := rf_pure (i := .iconst (1)) (len := 1) (okD_ok (by decide +kernel)) rfl
theorem e40_212 : rf d 40 212 ls (.int y :: .int x :: s) h = rf d 40 213 ls (.int (x + y) :: s) h := rf_pure (i := .iadd) (len := 1) (okD_ok (by decide +kernel)) rfl
theorem e40_213 : rf d 40 213 ls (.int x :: .ref 4 :: s) (SH n, I, L, R, nc, ns, nx) = rf d 40 216 ls s (SH n, ip_up I 4 4 x, L, R, nc, ns, nx) := g_pI (idx := 39) (by decide +kernel) ow40 f_4_39 rfl (by decide +kernel) rfl (by decide)
theorem e40_216 (hn : ip_nl l0 = true) : rf d 40 216 [l0, some (.int x)] s h = rf d 40 219 [l0, some (.int (x + 1))] s h := g_inc (q := 0) (z := 1) (w := 1) (x := x) (by decide) (by decide +kernel) rfl rfl hn
theorem e40_219 : rf d 40 219 ls s h = rf d 40 173 ls s h := rf_goto ⟨okD_ok (i := .goto (-46)) (len := 3) (by decide +kernel), rfl⟩
theorem e40_222 : rf d 40 222 [some (.ref a), l1] s h = rf d 40 223 [some (.ref a), l1] (.ref a :: s) h := rf_pure (i := .aload_n 0) (len := 1) (okD_ok (by decide +kernel)) rfl
theorem e40_223 : rf d 40 223 [some (.ref a), l1] s h = rf d 40 224 [some (.ref a), l1] (.ref a :: s) h := rf_pure (i := .aload_n 0) (len := 1) (okD_ok (by decide +kernel)) rfl
theorem e40_224 : rf d 40 224 ls (.ref 4 :: s) (SH n, I, L, R, nc, ns, nx) = rf d 40 227 ls (.int (I 4 4) :: s) (SH n, I, L, R, nc, ns, nx) := g_I (idx := 39) (by decide +kernel) ow40 f_4_39 rfl rfl (by decide)
theorem e40_227 : rf d 40 227 [some (.ref a), l1] s h = rf d 40 228 [some (.ref a), l1] (.ref a :: s) h := rf_pure (i := .aload_n 0) (len := 1) (okD_ok (by decide +kernel)) rfl
theorem e40_228 : rf d 40 228 ls (.ref 4 :: s) (SH n, I, L, R, nc, ns, nx) = rf d 40 231 ls (.int (I 4 5) :: s) (SH n, I, L, R, nc, ns, nx) := g_I (idx := 71) (by decide +kernel) ow40 f_4_71 rfl rfl (by decide)
theorem e40_231 : rf d 40 231 ls (.int y :: .int x :: s) h = rf d 40 232 ls (.int (x - y) :: s) h := rf_pure (i := .isub) (len := 1) (okD_ok (by decide +kernel)) rfl
theorem e40_232 : rf d 40 232 ls s h = rf d 40 233 ls (.int 1 :: s) h := rf_pure (i := .iconst (1)) (len := 1) (okD_ok (by decide +kernel)) rfl
theorem e40_233 : rf d 40 233 ls (.int y :: .int x :: s) h = if ¬ x = y then rf d 40 241 ls s h else rf d 40 236 ls s h := g_ic (c := .ne) (off := 8) _ (by decide +kernel) rfl cmp_d
theorem e40_236 : rf d 40 236 ls s h = rf d 40 238 ls (.int 14 :: s) h := rf_pure (i := .bipush (14)) (len := 2) (okD_ok (by decide +kernel)) rfl
theorem e40_238 : rf d 40 238 ls s h = rf d 40 243 ls s h := rf_goto ⟨okD_ok (i := .goto (5)) (len := 3) (by decide +kernel), rfl⟩
theorem e40_241 : rf d 40 241 ls s h = rf d 40 243 ls (.int 16 :: s) h := rf_pure (i := .bipush (16)) (len := 2) (okD_ok (by decide +kernel)) rfl
theorem e40_243 : rf d 40 243 ls (.int x :: .ref 4 :: s) (SH n, I, L, R, nc, ns, nx) = rf d 40 246 ls s (SH n, ip_up I 4 6 x, L, R, nc, ns, nx) := g_pI (idx := 51) (by decide +kernel) ow40 f_4_51 rfl (by decide +kernel) rfl (by decide)
theorem e40_246 : rf d 40 246 ls s h = rf d 40 292 ls s h := rf_goto ⟨okD_ok (i := .goto (46)) (len := 3) (by decide +kernel), rfl⟩
theorem e40_249 : rf d 40 249 [some (.ref a), l1] s h = rf d 40 250 [some (.ref a), l1] (.ref a :: s) h := rf_pure (i := .aload_n 0) (len := 1) (okD_ok (by decide +kernel)) rfl
theorem e40_250 : rf d 40 250 [some (.ref a), l1] s h = rf d 40 251 [some (.ref a), l1] (.ref a :: s) h := rf_pure (i := .aload_n 0) (len := 1) (okD_ok (by decide +kernel)) rfl
theorem e40_251 : rf d 40 251 ls (.ref 4 :: s) (SH n, I, L, R, nc, ns, nx) = rf d 40 254 ls (ip_rf (R 4 1) :: s) (SH n, I, L, R, nc, ns, nx) := g_R (idx := 18) (by decide +kernel) ow40 f_4_18 rfl rfl (by decide) rfl
theorem e40_254 : rf d 40 254 [some (.ref a), l1] s h = rf d 40 255 [some (.ref a), l1] (.ref a :: s) h := rf_pure (i := .aload_n 0) (len := 1) (okD_ok (by decide +kernel)) rfl
theorem e40_255 : rf d 40 255 ls (.ref 4 :: s) (SH n, I, L, R, nc, ns, nx) = rf d 40 258 ls (.int (I 4 4) :: s) (SH n, I, L, R, nc, ns, nx) := g_I (idx := 39) (by decide +kernel) ow40 f_4_39 rfl rfl (by decide)
theorem e40_258 (q : ia n a j) : rf d 40 258 ls (.int j :: .ref a :: s) (SH n, I, L, R, nc, ns, nx) = rf d 40 259 ls (.int (I a j.toNatClampNeg) :: s) (SH n, I, L, R, nc, ns, nx) := g_ial (by decide +kernel) q
theorem e40_259 (hcat : ip_cat s ≤ 8) : rf (d + 1) 40 259 ls (.int x0 :: s) h = rf_k (d + 1) 40 259 ls s (cf d 46 [.int x0] h) := g_cs (idx := 156) [.int x0] (by decide +kernel) ow40 ms_4_156 mt_4_156 (by decide) rfl mL46 rfl hcat
theorem e40_262 : rf d 40 262 ls (.int x :: s) h = if x = 0 then rf d 40 277 ls s h else rf d 40 265 ls s h := g_if (c := .eq) (off := 15) _ (by decide +kernel) rfl cmp_d
theorem e40_265 : rf d 40 265 [some (.ref a), l1] s h = rf d 40 266 [some (.ref a), l1] (.ref a :: s) h := rf_pure (i := .aload_n 0) (len := 1) (okD_ok (by decide +kernel)) rfl
theorem e40_266 : rf d 40 266 ls (.ref 4 :: s) (SH n, I, L, R, nc, ns, nx) = rf d 40 269 ls (ip_rf (R 4 1) :: s) (SH n, I, L, R, nc, ns, nx) := g_R (idx := 18) (by decide +kernel) ow40 f_4_18 rfl rfl (by decide) rfl
theorem e40_269 : rf d 40 269 [some (.ref a), l1] s h = rf d 40 270 [some (.ref a), l1] (.ref a :: s) h := rf_pure (i := .aload_n 0) (len := 1) (okD_ok (by decide +kernel)) rfl
theorem e40_270 : rf d 40 270 ls (.ref 4 :: s) (SH n, I, L, R, nc, ns, nx) = rf d 40 273 ls (.int (I 4 4) :: s) (SH n, I, L, R, nc, ns, nx) := g_I (idx := 39) (by decide +kernel) ow40 f_4_39 rfl rfl (by decide)
theorem e40_273 (q : ia n a j) : rf d 40 273 ls (.int j :: .ref a :: s) (SH n, I, L, R, nc, ns, nx) = rf d 40 274 ls (.int (I a j.toNatClampNeg) :: s) (SH n, I, L, R, nc, ns, nx) := g_ial (by decide +kernel) q
theorem e40_274 : rf d 40 274 ls s h = rf d 40 279 ls s h := rf_goto ⟨okD_ok (i := .goto (5)) (len := 3) (by decide +kernel), rfl⟩
theorem e40_277 : rf d 40 277 ls s h = rf d 40 279 ls (.int 16 :: s) h := rf_pure (i := .bipush (16)) (len := 2) (okD_ok (by decide +kernel)) rfl
theorem e40_279 : rf d 40 279 ls (.int x :: .ref 4 :: s) (SH n, I, L, R, nc, ns, nx) = rf d 40 282 ls s (SH n, ip_up I 4 6 x, L, R, nc, ns, nx) := g_pI (idx := 51) (by decide +kernel) ow40 f_4_51 rfl (by decide +kernel) rfl (by decide)
theorem e40_282 : rf d 40 282 [some (.ref a), l1] s h = rf d 40 283 [some (.ref a), l1] (.ref a :: s) h := rf_pure (i := .aload_n 0) (len := 1) (okD_ok (by decide +kernel)) rfl
theorem e40_283 : rf d 40 283 ls (.int x :: s) h = rf d 40 284 ls (.int x :: .int x :: s) h := rf_pure (i := .dup) (len := 1) (okD_ok (by decide +kernel)) rfl
theorem e40_283r : rf d 40 283 ls (.ref a :: s) h = rf d 40 284 ls (.ref a :: .ref a :: s) h := rf_pure (i := .dup) (len := 1) (okD_ok (by decide +kernel)) rfl
theorem e40_284 : rf d 40 284 ls (.ref 4 :: s) (SH n, I, L, R, nc, ns, nx) = rf d 40 287 ls (.int (I 4 4) :: s) (SH n, I, L, R, nc, ns, nx) := g_I (idx := 39) (by decide +kernel) ow40 f_4_39 rfl rfl (by decide)
theorem e40_287 : rf d 40 287 ls s h = rf d 40 288 ls (.int 1 :: s) h := rf_pure (i := .iconst (1)) (len := 1) (okD_ok (by decide +kernel)) rfl
theorem e40_288 : rf d 40 288 ls (.int y :: .int x :: s) h = rf d 40 289 ls (.int (x + y) :: s) h := rf_pure (i := .iadd) (len := 1) (okD_ok (by decide +kernel)) rfl
theorem e40_289 : rf d 40 289 ls (.int x :: .ref 4 :: s) (SH n, I, L, R, nc, ns, nx) = rf d 40 292 ls s (SH n, ip_up I 4 4 x, L, R, nc, ns, nx) := g_pI (idx := 39) (by decide +kernel) ow40 f_4_39 rfl (by decide +kernel) rfl (by decide)
theorem e40_292 : rf d 40 292 ls [] h = some (.inl none, h) := g_rv (by decide +kernel) rt40
theorem en41 : cf d 41 [.int x0] h = rf d 41 0 [some (.int x0)] [] h := rfl
theorem e41_0 : rf d 41 0 [some (.int x)] s h = rf d 41 1 [some (.int x)] (.int x :: s) h := rf_pure (i := .iload_n 0) (len := 1) (okD_ok (by decide +kernel)) rfl
theorem e41_1 : rf d 41 1 ls s h = rf d 41 3 ls (.int 9 :: s) h := rf_pure (i := .bipush (9)) (len := 2) (okD_ok (by decide +kernel)) rfl
theorem e41_3 : rf d 41 3 ls (.int y :: .int x :: s) h = if x = y then rf d 41 18 ls s h else rf d 41 6 ls s h := g_ic (c := .eq) (off := 15) _ (by decide +kernel) rfl cmp_d
theorem e41_6 : rf d 41 6 [some (.int x)] s h = rf d 41 7 [some (.int x)] (.int x :: s) h := rf_pure (i := .iload_n 0) (len := 1) (okD_ok (by decide +kernel)) rfl
theorem e41_7 : rf d 41 7 ls s h = rf d 41 9 ls (.int 10 :: s) h := rf_pure (i := .bipush (10)) (len := 2) (okD_ok (by decide +kernel)) rfl
theorem e41_9 : rf d 41 9 ls (.int y :: .int x :: s) h = if x = y then rf d 41 18 ls s h else rf d 41 12 ls s h := g_ic (c := .eq) (off := 9) _ (by decide +kernel) rfl cmp_d
theorem e41_12 : rf d 41 12 [some (.int x)] s h = rf d 41 13 [some (.int x)] (.int x :: s) h := rf_pure (i := .iload_n 0) (len := 1) (okD_ok (by decide +kernel)) rfl
theorem e41_13 : rf d 41 13 ls s h = rf d 41 15 ls (.int 32 :: s) h := rf_pure (i := .bipush (32)) (len := 2) (okD_ok (by decide +kernel)) rfl
theorem e41_15 : rf d 41 15 ls (.int y :: .int x :: s) h = if ¬ x = y then rf d 41 22 ls s h else rf d 41 18 ls s h := g_ic (c := .ne) (off := 7) _ (by decide +kernel) rfl cmp_d
theorem e41_18 : rf d 41 18 ls s h = rf d 41 19 ls (.int 1 :: s) h := rf_pure (i := .iconst (1)) (len := 1) (okD_ok (by decide +kernel)) rfl
theorem e41_19 : rf d 41 19 ls s h = rf d 41 23 ls s h := rf_goto ⟨okD_ok (i := .goto (4)) (len := 3) (by decide +kernel), rfl⟩
theorem e41_22 : rf d 41 22 ls s h = rf d 41 23 ls (.int 0 :: s) h := rf_pure (i := .iconst (0)) (len := 1) (okD_ok (by decide +kernel)) rfl
theorem e41_23 (hx : x = 0 ∨ x = 1) : rf d 41 23 ls [.int x] h = some (.inl (some (.int x)), h) := g_rz (by decide +kernel) rt41 hx
theorem en42 : cf d 42 [.int x0] h = rf d 42 0 [some (.int x0)] [] h := rfl
theorem e42_0 : rf d 42 0 [some (.int x)] s h = rf d 42 1 [some (.int x)] (.int x :: s) h := rf_pure (i := .iload_n 0) (len := 1) (okD_ok (by decide +kernel)) rfl
theorem e42_1 : rf d 42 1 ls s h = rf d 42 3 ls (.int 97 :: s) h := rf_pure (i := .bipush (97)) (len := 2) (okD_ok (by decide +kernel)) rfl
theorem e42_3 : rf d 42 3 ls (.int y :: .int x :: s) h = if x < y then rf d 42 16 ls s h else rf d 42 6 ls s h := g_ic (c := .lt) (off := 13) _ (by decide +kernel) rfl cmp_d
theorem e42_6 : rf d 42 6 [some (.int x)] s h = rf d 42 7 [some (.int x)] (.int x :: s) h := rf_pure (i := .iload_n 0) (len := 1) (okD_ok (by decide +kernel)) rfl
theorem e42_7 : rf d 42 7 ls s h = rf d 42 9 ls (.int 122 :: s) h := rf_pure (i := .bipush (122)) (len := 2) (okD_ok (by decide +kernel)) rfl
theorem e42_9 : rf d 42 9 ls (.int y :: .int x :: s) h = if y < x then rf d 42 16 ls s h else rf d 42 12 ls s h := g_ic (c := .gt) (off := 7) _ (by decide +kernel) rfl cmp_d
theorem e42_12 : rf d 42 12 ls s h = rf d 42 13 ls (.int 1 :: s) h := rf_pure (i := .iconst (1)) (len := 1) (okD_ok (by decide +kernel)) rfl
theorem e42_13 : rf d 42 13 ls s h = rf d 42 17 ls s h := rf_goto ⟨okD_ok (i := .goto (4)) (len := 3) (by decide +kernel), rfl⟩
theorem e42_16 : rf d 42 16 ls s h = rf d 42 17 ls (.int 0 :: s) h := rf_pure (i := .iconst (0)) (len := 1) (okD_ok (by decide +kernel)) rfl
theorem e42_17 (hx : x = 0 ∨ x = 1) : rf d 42 17 ls [.int x] h = some (.inl (some (.int x)), h) := g_rz (by decide +kernel) rt42 hx
theorem en43 : cf d 43 [.ref a] h = rf d 43 0 [some (.ref a), none, none, none] [] h := rfl
theorem e43_0 : rf d 43 0 ls s h = rf d 43 1 ls (.int 0 :: s) h := rf_pure (i := .iconst (0)) (len := 1) (okD_ok (by decide +kernel)) rfl
theorem e43_1 (hn : ip_nl l0 = true) : rf d 43 1 [l0, l1, l2, l3] (.int x :: s) h = rf d 43 2 [l0, some (.int x), l2, l3] s h := g_sti (i := .istore_n 1) (len := 1) (q := 0) (p := 1) (by decide +kernel) rfl rfl hn
theorem e43_2 : rf d 43 2 ls s h = rf d 43 3 ls (.int 0 :: s) h := rf_pure (i := .iconst (0)) (len := 1) (okD_ok (by decide +kernel)) rfl
theorem e43_3 (hn : ip_nl l1 = true) : rf d 43 3 [l0, l1, l2, l3] (.int x :: s) h = rf d 43 4 [l0, l1, some (.int x), l3] s h := g_sti (i := .istore_n 2) (len := 1) (q := 1) (p := 1) (by decide +kernel) rfl rfl hn
theorem e43_4 : rf d 43 4 ls s h = rf d 43 5 ls (.int 0 :: s) h := rf_pure (i := .iconst (0)) (len := 1) (okD_ok (by decide +kernel)) rfl
theorem e43_5 (hn : ip_nl l2 = true) : rf d 43 5 [l0, l1, l2, l3] (.int x :: s) h = rf d 43 6 [l0, l1, l2, some (.int x)] s h := g_sti (i := .istore_n 3) (len := 1) (q := 2) (p := 1) (by decide +kernel) rfl rfl hn
theorem e43_6 : rf d 43 6 [l0, l1, l2, some (.int x)] s h = rf d 43 7 [l0, l1, l2, some (.int x)] (.int x :: s) h := rf_pure (i := .iload_n 3) (len := 1) (okD_ok (by decide +kernel)) rfl
theorem e43_7 : rf d 43 7 ls s h = rf d 43 9 ls (.ref (tx 0) :: s) h := g_ks (idx := 159) (i := .ldc 159) (len := 2) (by decide +kernel) rfl rfl ow43 kn_4_159 ks_4_159
theorem e43_9 (ht : t < 39) (hcat : ip_cat s ≤ 8) : rf d 43 9 ls (.ref (tx t) :: s) h = rf d 43 12 ls (.int (Int32.ofNat (ip_tb.getD t []).length) :: s) h := g_sl (idx := 161) (by decide +kernel) ow43 (by decide +kernel) ht hcat
theorem e43_12 : rf d 43 12 ls (.int y :: .int x :: s) h = if y ≤ x then rf d 43 50 ls s h else rf d 43 15 ls s h := g_ic (c := .ge) (off := 38) _ (by decide +kernel) rfl cmp_d
theorem e43_15 : rf d 43 15 ls s h = rf d 43 17 ls (.ref (tx 0) :: s) h := g_ks (idx := 159) (i := .ldc 159) (len := 2) (by decide +kernel) rfl rfl ow43 kn_4_159 ks_4_159
theorem e43_17 : rf d 43 17 [l0, l1, l2, some (.int x)] s h = rf d 43 18 [l0, l1, l2, some (.int x)] (.int x :: s) h := rf_pure (i := .iload_n 3) (len := 1) (okD_ok (by decide +kernel)) rfl
theorem e43_18 (ht : t < 39) (hcat : ip_cat s ≤ 8) (hj : inb j (ip_tb.getD t []).length) : rf d 43 18 ls (.int j :: .ref (tx t) :: s) h = rf d 43 21 ls (.int (Int32.ofNat ((ip_tb.getD t []).getD j.toNatClampNeg 0)) :: s) h := g_sc (idx := 165) (by decide +kernel) ow43 (by decide +kernel) ht hcat hj
theorem e43_21 : rf d 43 21 ls s h = rf d 43 23 ls (.int 32 :: s) h := rf_pure (i := .bipush (32)) (len := 2) (okD_ok (by decide +kernel)) rfl
theorem e43_23 : rf d 43 23 ls (.int y :: .int x :: s) h = if ¬ x = y then rf d 43 44 ls s h else rf d 43 26 ls s h := g_ic (c := .ne) (off := 21) _ (by decide +kernel) rfl cmp_d
theorem e43_26 : rf d 43 26 [some (.ref a), l1, l2, l3] s h = rf d 43 27 [some (.ref a), l1, l2, l3] (.ref a :: s) h := rf_pure (i := .aload_n 0) (len := 1) (okD_ok (by decide +kernel)) rfl
theorem e43_27 : rf d 43 27 [l0, l1, some (.int x), l3] s h = rf d 43 28 [l0, l1, some (.int x), l3] (.int x :: s) h := rf_pure (i := .iload_n 2) (len := 1) (okD_ok (by decide +kernel)) rfl
theorem e43_28 : rf d 43 28 [l0, l1, l2, some (.int x)] s h = rf d 43 29 [l0, l1, l2, some (.int x)] (.int x :: s) h := rf_pure (i := .iload_n 3) (len := 1) (okD_ok (by decide +kernel)) rfl
theorem e43_29 (hcat : ip_cat s ≤ 8) : rf (d + 1) 43 29 ls (.int x1 :: .int x0 :: .ref 4 :: s) (SH n, I, L, R, nc, ns, nx) = rf_k (d + 1) 43 29 ls s (cf d 44 [.ref 4, .int x0, .int x1] (SH n, I, L, R, nc, ns, nx)) := g_cv (idx := 169) (t := 4) [.int x1, .int x0] (by decide +kernel) ow43 ms_4_169 mt_4_169 cy44_4 rfl rfl mL44 rfl rfl (by decide) hcat
theorem e43_32 : rf d 43 32 ls (.int x :: s) h = if x = 0 then rf d 43 37 ls s h else rf d 43 35 ls s h := g_if (c := .eq) (off := 5) _ (by decide +kernel) rfl cmp_d
theorem e43_35 : rf d 43 35 [l0, some (.int x), l2, l3] s h = rf d 43 36 [l0, some (.int x), l2, l3] (.int x :: s) h := rf_pure (i := .iload_n 1) (len := 1) (okD_ok (by decide +kernel)) rfl
theorem e43_36 : rf d 43 36 ls [.int x] h = some (.inl (some (.int x)), h) := g_ri (by decide +kernel) rt43
theorem e43_37 (hn : ip_nl l0 = true) : rf d 43 37 [l0, some (.int x), l2, l3] s h = rf d 43 40 [l0, some (.int (x + 1)), l2, l3] s h := g_inc (q := 0) (z := 1) (w := 1) (x := x) (by decide) (by decide +kernel) rfl rfl hn
theorem e43_40 : rf d 43 40 [l0, l1, l2, some (.int x)] s h = rf d 43 41 [l0, l1, l2, some (.int x)] (.int x :: s) h := rf_pure (i := .iload_n 3) (len := 1) (okD_ok (by decide +kernel)) rfl
theorem e43_41 : rf d 43 41 ls s h = rf d 43 42 ls (.int 1 :: s) h := rf_pure (i := .iconst (1)) (len := 1) (okD_ok (by decide +kernel)) rfl
theorem e43_42 : rf d 43 42 ls (.int y :: .int x :: s) h = rf d 43 43 ls (.int (x + y) :: s) h := rf_pure (i := .iadd) (len := 1) (okD_ok (by decide +kernel)) rfl
theorem e43_43 (hn : ip_nl l1 = true) : rf d 43 43 [l0, l1, l2, l3] (.int x :: s) h = rf d 43 44 [l0, l1, some (.int x), l3] s h := g_sti (i := .istore_n 2) (len := 1) (q := 1) (p := 1) (by decide +kernel) rfl rfl hn
theorem e43_44 (hn : ip_nl l2 = true) : rf d 43 44 [l0, l1, l2, some (.int x)] s h = rf d 43 47 [l0, l1, l2, some (.int (x + 1))] s h := g_inc (q := 2) (z := 1) (w := 1) (x := x) (by decide) (by decide +kernel) rfl rfl hn
theorem e43_47 : rf d 43 47 ls s h = rf d 43 6 ls s h := rf_goto ⟨okD_ok (i := .goto (-41)) (len := 3) (by decide +kernel), rfl⟩
theorem e43_50 : rf d 43 50 [some (.ref a), l1, l2, l3] s h = rf d 43 51 [some (.ref a), l1, l2, l3] (.ref a :: s) h := rf_pure (i := .aload_n 0) (len := 1) (okD_ok (by decide +kernel)) rfl
theorem e43_51 : rf d 43 51 ls (.ref 4 :: s) (SH n, I, L, R, nc, ns, nx) = rf d 43 54 ls (.int (I 4 4) :: s) (SH n, I, L, R, nc, ns, nx) := g_I (idx := 39) (by decide +kernel) ow43 f_4_39 rfl rfl (by decide)
theorem e43_54 : rf d 43 54 [some (.ref a), l1, l2, l3] s h = rf d 43 55 [some (.ref a), l1, l2, l3] (.ref a :: s) h := rf_pure (i := .aload_n 0) (len := 1) (okD_ok (by decide +kernel)) rfl
theorem e43_55 : rf d 43 55 ls (.ref 4 :: s) (SH n, I, L, R, nc, ns, nx) = rf d 43 58 ls (.int (I 4 5) :: s) (SH n, I, L, R, nc, ns, nx) := g_I (idx := 71) (by decide +kernel) ow43 f_4_71 rfl rfl (by decide)
theorem e43_58 : rf d 43 58 ls (.int y :: .int x :: s) h = rf d 43 59 ls (.int (x - y) :: s) h := rf_pure (i := .isub) (len := 1) (okD_ok (by decide +kernel)) rfl
theorem e43_59 : rf d 43 59 ls s h = rf d 43 61 ls (.int 6 :: s) h := rf_pure (i := .bipush (6)) (len := 2) (okD_ok (by decide +kernel)) rfl
theorem e43_61 : rf d 43 61 ls (.int y :: .int x :: s) h = if y < x then rf d 43 69 ls s h else rf d 43 64 ls s h := g_ic (c := .gt) (off := 8) _ (by decide +kernel) rfl cmp_d
theorem e43_64 : rf d 43 64 ls s h = rf d 43 66 ls (.int 13 :: s) h := rf_pure (i := .bipush (13)) (len := 2) (okD_ok (by decide +kernel)) rfl
theorem e43_66 : rf d 43 66 ls s h = rf d 43 71 ls s h := rf_goto ⟨okD_ok (i := .goto (5)) (len := 3) (by decide +kernel), rfl⟩
theorem e43_69 : rf d 43 69 ls s h = rf d 43 71 ls (.int 16 :: s) h := rf_pure (i := .bipush (16)) (len := 2) (okD_ok (by decide +kernel)) rfl
theorem e43_71 : rf d 43 71 ls [.int x] h = some (.inl (some (.int x)), h) := g_ri (by decide +kernel) rt43
theorem en44 : cf d 44 [.ref a, .int x0, .int x1] h = rf d 44 0 [some (.ref a), some (.int x0), some (.int x1), none] [] h := rfl
theorem e44_0 : rf d 44 0 [l0, l1, some (.int x), l3] s h = rf d 44 1 [l0, l1, some (.int x), l3] (.int x :: s) h := rf_pure (i := .iload_n 2) (len := 1) (okD_ok (by decide +kernel)) rfl
theorem e44_1 : rf d 44 1 [l0, some (.int x), l2, l3] s h = rf d 44 2 [l0, some (.int x), l2, l3] (.int x :: s) h := rf_pure (i := .iload_n 1) (len := 1) (okD_ok (by decide +kernel)) rfl
theorem e44_2 : rf d 44 2 ls (.int y :: .int x :: s) h = rf d 44 3 ls (.int (x - y) :: s) h := rf_pure (i := .isub) (len := 1) (okD_ok (by decide +kernel)) rfl
theorem e44_3 : rf d 44 3 [some (.ref a), l1, l2, l3] s h = rf d 44 4 [some (.ref a), l1, l2, l3] (.ref a :: s) h := rf_pure (i := .aload_n 0) (len := 1) (okD_ok (by decide +kernel)) rfl
theorem e44_4 : rf d 44 4 ls (.ref 4 :: s) (SH n, I, L, R, nc, ns, nx) = rf d 44 7 ls (.int (I 4 4) :: s) (SH n, I, L, R, nc, ns, nx) := g_I (idx := 39) (by decide +kernel) ow44 f_4_39 rfl rfl (by decide)
theorem e44_7 : rf d 44 7 [some (.ref a), l1, l2, l3] s h = rf d 44 8 [some (.ref a), l1, l2, l3] (.ref a :: s) h := rf_pure (i := .aload_n 0) (len := 1) (okD_ok (by decide +kernel)) rfl
theorem e44_8 : rf d 44 8 ls (.ref 4 :: s) (SH n, I, L, R, nc, ns, nx) = rf d 44 11 ls (.int (I 4 5) :: s) (SH n, I, L, R, nc, ns, nx) := g_I (idx := 71) (by decide +kernel) ow44 f_4_71 rfl rfl (by decide)
theorem e44_11 : rf d 44 11 ls (.int y :: .int x :: s) h = rf d 44 12 ls (.int (x - y) :: s) h := rf_pure (i := .isub) (len := 1) (okD_ok (by decide +kernel)) rfl
theorem e44_12 : rf d 44 12 ls (.int y :: .int x :: s) h = if x = y then rf d 44 17 ls s h else rf d 44 15 ls s h := g_ic (c := .eq) (off := 5) _ (by decide +kernel) rfl cmp_d
theorem e44_15 : rf d 44 15 ls s h = rf d 44 16 ls (.int 0 :: s) h := rf_pure (i := .iconst (0)) (len := 1) (okD_ok (by decide +kernel)) rfl
theorem e44_16 (hx : x = 0 ∨ x = 1) : rf d 44 16 ls [.int x] h = some (.inl (some (.int x)), h) := g_rz (by decide +kernel) rt44 hx
theorem e44_17 : rf d 44 17 ls s h = rf d 44 18 ls (.int 0 :: s) h := rf_pure (i := .iconst (0)) (len := 1) (okD_ok (by decide +kernel)) rfl
theorem e44_18 (hn : ip_nl l2 = true) : rf d 44 18 [l0, l1, l2, l3] (.int x :: s) h = rf d 44 19 [l0, l1, l2, some (.int x)] s h := g_sti (i := .istore_n 3) (len := 1) (q := 2) (p := 1) (by decide +kernel) rfl rfl hn
theorem e44_19 : rf d 44 19 [l0, l1, l2, some (.int x)] s h = rf d 44 20 [l0, l1, l2, some (.int x)] (.int x :: s) h := rf_pure (i := .iload_n 3) (len := 1) (okD_ok (by decide +kernel)) rfl
theorem e44_20 : rf d 44 20 [l0, l1, some (.int x), l3] s h = rf d 44 21 [l0, l1, some (.int x), l3] (.int x :: s) h := rf_pure (i := .iload_n 2) (len := 1) (okD_ok (by decide +kernel)) rfl
theorem e44_21 : rf d 44 21 [l0, some (.int x), l2, l3] s h = rf d 44 22 [l0, some (.int x), l2, l3] (.int x :: s) h := rf_pure (i := .iload_n 1) (len := 1) (okD_ok (by decide +kernel)) rfl
theorem e44_22 : rf d 44 22 ls (.int y :: .int x :: s) h = rf d 44 23 ls (.int (x - y) :: s) h := rf_pure (i := .isub) (len := 1) (okD_ok (by decide +kernel)) rfl
theorem e44_23 : rf d 44 23 ls (.int y :: .int x :: s) h = if y ≤ x then rf d 44 56 ls s h else rf d 44 26 ls s h := g_ic (c := .ge) (off := 33) _ (by decide +kernel) rfl cmp_d
theorem e44_26 : rf d 44 26 ls s h = rf d 44 28 ls (.ref (tx 0) :: s) h := g_ks (idx := 159) (i := .ldc 159) (len := 2) (by decide +kernel) rfl rfl ow44 kn_4_159 ks_4_159
theorem e44_28 : rf d 44 28 [l0, some (.int x), l2, l3] s h = rf d 44 29 [l0, some (.int x), l2, l3] (.int x :: s) h := rf_pure (i := .iload_n 1) (len := 1) (okD_ok (by decide +kernel)) rfl
theorem e44_29 : rf d 44 29 [l0, l1, l2, some (.int x)] s h = rf d 44 30 [l0, l1, l2, some (.int x)] (.int x :: s) h := rf_pure (i := .iload_n 3) (len := 1) (okD_ok (by decide +kernel)) rfl
theorem e44_30 : rf d 44 30 ls (.int y :: .int x :: s) h = rf d 44 31 ls (.int (x + y) :: s) h := rf_pure (i := .iadd) (len := 1) (okD_ok (by decide +kernel)) rfl
theorem e44_31 (ht : t < 39) (hcat : ip_cat s ≤ 8) (hj : inb j (ip_tb.getD t []).length) : rf d 44 31 ls (.int j :: .ref (tx t) :: s) h = rf d 44 34 ls (.int (Int32.ofNat ((ip_tb.getD t []).getD j.toNatClampNeg 0)) :: s) h := g_sc (idx := 165) (by decide +kernel) ow44 (by decide +kernel) ht hcat hj
theorem e44_34 : rf d 44 34 [some (.ref a), l1, l2, l3] s h = rf d 44 35 [some (.ref a), l1, l2, l3] (.ref a :: s) h := rf_pure (i := .aload_n 0) (len := 1) (okD_ok (by decide +kernel)) rfl
theorem e44_35 : rf d 44 35 ls (.ref 4 :: s) (SH n, I, L, R, nc, ns, nx) = rf d 44 38 ls (ip_rf (R 4 1) :: s) (SH n, I, L, R, nc, ns, nx) := g_R (idx := 18) (by decide +kernel) ow44 f_4_18 rfl rfl (by decide) rfl
theorem e44_38 : rf d 44 38 [some (.ref a), l1, l2, l3] s h = rf d 44 39 [some (.ref a), l1, l2, l3] (.ref a :: s) h := rf_pure (i := .aload_n 0) (len := 1) (okD_ok (by decide +kernel)) rfl
theorem e44_39 : rf d 44 39 ls (.ref 4 :: s) (SH n, I, L, R, nc, ns, nx) = rf d 44 42 ls (.int (I 4 5) :: s) (SH n, I, L, R, nc, ns, nx) := g_I (idx := 71) (by decide +kernel) ow44 f_4_71 rfl rfl (by decide)
theorem e44_42 : rf d 44 42 [l0, l1, l2, some (.int x)] s h = rf d 44 43 [l0, l1, l2, some (.int x)] (.int x :: s) h := rf_pure (i := .iload_n 3) (len := 1) (okD_ok (by decide +kernel)) rfl
theorem e44_43 : rf d 44 43 ls (.int y :: .int x :: s) h = rf d 44 44 ls (.int (x + y) :: s) h := rf_pure (i := .iadd) (len := 1) (okD_ok (by decide +kernel)) rfl
theorem e44_44 (q : ia n a j) : rf d 44 44 ls (.int j :: .ref a :: s) (SH n, I, L, R, nc, ns, nx) = rf d 44 45 ls (.int (I a j.toNatClampNeg) :: s) (SH n, I, L, R, nc, ns, nx) := g_ial (by decide +kernel) q
theorem e44_45 : rf d 44 45 ls (.int y :: .int x :: s) h = if x = y then rf d 44 50 ls s h else rf d 44 48 ls s h := g_ic (c := .eq) (off := 5) _ (by decide +kernel) rfl cmp_d
theorem e44_48 : rf d 44 48 ls s h = rf d 44 49 ls (.int 0 :: s) h := rf_pure (i := .iconst (0)) (len := 1) (okD_ok (by decide +kernel)) rfl
theorem e44_49 (hx : x = 0 ∨ x = 1) : rf d 44 49 ls [.int x] h = some (.inl (some (.int x)), h) := g_rz (by decide +kernel) rt44 hx
theorem e44_50 (hn : ip_nl l2 = true) : rf d 44 50 [l0, l1, l2, some (.int x)] s h = rf d 44 53 [l0, l1, l2, some (.int (x + 1))] s h := g_inc (q := 2) (z := 1) (w := 1) (x := x) (by decide) (by decide +kernel) rfl rfl hn
theorem e44_53 : rf d 44 53 ls s h = rf d 44 19 ls s h := rf_goto ⟨okD_ok (i := .goto (-34)) (len := 3) (by decide +kernel), rfl⟩
theorem e44_56 : rf d 44 56 ls s h = rf d 44 57 ls (.int 1 :: s) h := rf_pure (i := .iconst (1)) (len := 1) (okD_ok (by decide +kernel)) rfl
theorem e44_57 (hx : x = 0 ∨ x = 1) : rf d 44 57 ls [.int x] h = some (.inl (some (.int x)), h) := g_rz (by decide +kernel) rt44 hx
theorem en45 : cf d 45 [.int x0] h = rf d 45 0 [some (.int x0)] [] h := rfl
theorem e45_0 : rf d 45 0 [some (.int x)] s h = rf d 45 1 [some (.int x)] (.int x :: s) h := rf_pure (i := .iload_n 0) (len := 1) (okD_ok (by decide +kernel)) rfl
theorem e45_1 : rf d 45 1 ls s h = rf d 45 3 ls (.int 48 :: s) h := rf_pure (i := .bipush (48)) (len := 2) (okD_ok (by decide +kernel)) rfl
theorem e45_3 : rf d 45 3 ls (.int y :: .int x :: s) h = if x < y then rf d 45 16 ls s h else rf d 45 6 ls s h := g_ic (c := .lt) (off := 13) _ (by decide +kernel) rfl cmp_d
theorem e45_6 : rf d 45 6 [some (.int x)] s h = rf d 45 7 [some (.int x)] (.int x :: s) h := rf_pure (i := .iload_n 0) (len := 1) (okD_ok (by decide +kernel)) rfl
theorem e45_7 : rf d 45 7 ls s h = rf d 45 9 ls (.int 57 :: s) h := rf_pure (i := .bipush (57)) (len := 2) (okD_ok (by decide +kernel)) rfl
theorem e45_9 : rf d 45 9 ls (.int y :: .int x :: s) h = if y < x then rf d 45 16 ls s h else rf d 45 12 ls s h := g_ic (c := .gt) (off := 7) _ (by decide +kernel) rfl cmp_d
theorem e45_12 : rf d 45 12 ls s h = rf d 45 13 ls (.int 1 :: s) h := rf_pure (i := .iconst (1)) (len := 1) (okD_ok (by decide +kernel)) rfl
theorem e45_13 : rf d 45 13 ls s h = rf d 45 17 ls s h := rf_goto ⟨okD_ok (i := .goto (4)) (len := 3) (by decide +kernel), rfl⟩
theorem e45_16 : rf d 45 16 ls s h = rf d 45 17 ls (.int 0 :: s) h := rf_pure (i := .iconst (0)) (len := 1) (okD_ok (by decide +kernel)) rfl
theorem e45_17 (hx : x = 0 ∨ x = 1) : rf d 45 17 ls [.int x] h = some (.inl (some (.int x)), h) := g_rz (by decide +kernel) rt45 hx
theorem en46 : cf d 46 [.int x0] h = rf d 46 0 [some (.int x0)] [] h := rfl
theorem e46_0 : rf d 46 0 [some (.int x)] s h = rf d 46 1 [some (.int x)] (.int x :: s) h := rf_pure (i := .iload_n 0) (len := 1) (okD_ok (by decide +kernel)) rfl
theorem e46_1 : rf d 46 1 ls s h = rf d 46 3 ls (.int 59 :: s) h := rf_pure (i := .bipush (59)) (len := 2) (okD_ok (by decide +kernel)) rfl
theorem e46_3 : rf d 46 3 ls (.int y :: .int x :: s) h = if x = y then rf d 46 24 ls s h else rf d 46 6 ls s h := g_ic (c := .eq) (off := 21) _ (by decide +kernel) rfl cmp_d
theorem e46_6 : rf d 46 6 [some (.int x)] s h = rf d 46 7 [some (.int x)] (.int x :: s) h := rf_pure (i := .iload_n 0) (len := 1) (okD_ok (by decide +kernel)) rfl
theorem e46_7 : rf d 46 7 ls s h = rf d 46 9 ls (.int 44 :: s) h := rf_pure (i := .bipush (44)) (len := 2) (okD_ok (by decide +kernel)) rfl
theorem e46_9 : rf d 46 9 ls (.int y :: .int x :: s) h = if x = y then rf d 46 24 ls s h else rf d 46 12 ls s h := g_ic (c := .eq) (off := 15) _ (by decide +kernel) rfl cmp_d
theorem e46_12 : rf d 46 12 [some (.int x)] s h = rf d 46 13 [some (.int x)] (.int x :: s) h := rf_pure (i := .iload_n 0) (len := 1) (okD_ok (by decide +kernel)) rfl
theorem e46_13 : rf d 46 13 ls s h = rf d 46 15 ls (.int 40 :: s) h := rf_pure (i := .bipush (40)) (len := 2) (okD_ok (by decide +kernel)) rfl
theorem e46_15 : rf d 46 15 ls (.int y :: .int x :: s) h = if x = y then rf d 46 24 ls s h else rf d 46 18 ls s h := g_ic (c := .eq) (off := 9) _ (by decide +kernel) rfl cmp_d
theorem e46_18 : rf d 46 18 [some (.int x)] s h = rf d 46 19 [some (.int x)] (.int x :: s) h := rf_pure (i := .iload_n 0) (len := 1) (okD_ok (by decide +kernel)) rfl
theorem e46_19 : rf d 46 19 ls s h = rf d 46 21 ls (.int 41 :: s) h := rf_pure (i := .bipush (41)) (len := 2) (okD_ok (by decide +kernel)) rfl
theorem e46_21 : rf d 46 21 ls (.int y :: .int x :: s) h = if ¬ x = y then rf d 46 28 ls s h else rf d 46 24 ls s h := g_ic (c := .ne) (off := 7) _ (by decide +kernel) rfl cmp_d
theorem e46_24 : rf d 46 24 ls s h = rf d 46 25 ls (.int 1 :: s) h := rf_pure (i := .iconst (1)) (len := 1) (okD_ok (by decide +kernel)) rfl
theorem e46_25 : rf d 46 25 ls s h = rf d 46 29 ls s h := rf_goto ⟨okD_ok (i := .goto (4)) (len := 3) (by decide +kernel), rfl⟩
theorem e46_28 : rf d 46 28 ls s h = rf d 46 29 ls (.int 0 :: s) h := rf_pure (i := .iconst (0)) (len := 1) (okD_ok (by decide +kernel)) rfl
theorem e46_29 (hx : x = 0 ∨ x = 1) : rf d 46 29 ls [.int x] h = some (.inl (some (.int x)), h) := g_rz (by decide +kernel) rt46 hx
theorem en47 : cf d 47 [.ref a] h = rf d 47 0 [some (.ref a), none, none] [] h := rfl
theorem e47_0 : rf d 47 0 [some (.ref a), l1, l2] s h = rf d 47 1 [some (.ref a), l1, l2] (.ref a :: s) h := rf_pure (i := .aload_n 0) (len := 1) (okD_ok (by decide +kernel)) rfl
theorem e47_1 (hcat : ip_cat s ≤ 8) : rf (d + 1) 47 1 ls (.ref 4 :: s) (SH n, I, L, R, nc, ns, nx) = rf_k (d + 1) 47 1 ls s (cf d 40 [.ref 4] (SH n, I, L, R, nc, ns, nx)) := g_cv (idx := 48) (t := 4) [] (by decide +kernel) ow47 ms_4_48 mt_4_48 cy40_4 rfl rfl mL40 rfl rfl (by decide) hcat
theorem e47_4 : rf d 47 4 [some (.ref a), l1, l2] s h = rf d 47 5 [some (.ref a), l1, l2] (.ref a :: s) h := rf_pure (i := .aload_n 0) (len := 1) (okD_ok (by decide +kernel)) rfl
theorem e47_5 : rf d 47 5 ls (.ref 4 :: s) (SH n, I, L, R, nc, ns, nx) = rf d 47 8 ls (.int (I 4 6) :: s) (SH n, I, L, R, nc, ns, nx) := g_I (idx := 51) (by decide +kernel) ow47 f_4_51 rfl rfl (by decide)
theorem e47_8 : rf d 47 8 ls s h = rf d 47 10 ls (.int 13 :: s) h := rf_pure (i := .bipush (13)) (len := 2) (okD_ok (by decide +kernel)) rfl
theorem e47_10 : rf d 47 10 ls (.int y :: .int x :: s) h = if ¬ x = y then rf d 47 21 ls s h else rf d 47 13 ls s h := g_ic (c := .ne) (off := 11) _ (by decide +kernel) rfl cmp_d
theorem e47_13 : rf d 47 13 [some (.ref a), l1, l2] s h = rf d 47 14 [some (.ref a), l1, l2] (.ref a :: s) h := rf_pure (i := .aload_n 0) (len := 1) (okD_ok (by decide +kernel)) rfl
theorem e47_14 (hcat : ip_cat s ≤ 8) : rf (d + 1) 47 14 ls (.ref 4 :: s) (SH n, I, L, R, nc, ns, nx) = rf_k (d + 1) 47 14 ls s (cf d 48 [.ref 4] (SH n, I, L, R, nc, ns, nx)) := g_cv (idx := 74) (t := 4) [] (by decide +kernel) ow47 ms_4_74 mt_4_74 cy48_4 rfl rfl mL48 rfl rfl (by decide) hcat
theorem e47_17 : rf d 47 17 ls s h = rf d 47 18 ls (.int (-1) :: s) h := rf_pure (i := .iconst (-1)) (len := 1) (okD_ok (by decide +kernel)) rfl
theorem e47_18 : rf d 47 18 ls (.int y :: .int x :: s) h = if x = y then rf d 47 23 ls s h else rf d 47 21 ls s h := g_ic (c := .eq) (off := 5) _ (by decide +kernel) rfl cmp_d
theorem e47_21 : rf d 47 21 ls s h = rf d 47 22 ls (.int 0 :: s) h := rf_pure (i := .iconst (0)) (len := 1) (okD_ok (by decide +kernel)) rfl
theorem e47_22 (hx : x = 0 ∨ x = 1) : rf d 47 22 ls [.int x] h = some (.inl (some (.int x)), h) := g_rz (by decide +kernel) rt47 hx
theorem e47_23 : rf d 47 23 [some (.ref a), l1, l2] s h = rf d 47 24 [some (.ref a), l1, l2] (.ref a :: s) h := rf_pure (i := .aload_n 0) (len := 1) (okD_ok (by decide +kernel)) rfl
theorem e47_24 (hcat : ip_cat s ≤ 8) : rf (d + 1) 47 24 ls (.ref 4 :: s) (SH n, I, L, R, nc, ns, nx) = rf_k (d + 1) 47 24 ls s (cf d 51 [.ref 4] (SH n, I, L, R, nc, ns, nx)) := g_cv (idx := 78) (t := 4) [] (by decide +kernel) ow47 ms_4_78 mt_4_78 cy51_4 rfl rfl mL51 rfl rfl (by decide) hcat
theorem e47_27 : rf d 47 27 [some (.ref a), l1, l2] s h = rf d 47 28 [some (.ref a), l1, l2] (.ref a :: s) h := rf_pure (i := .aload_n 0) (len := 1) (okD_ok (by decide +kernel)) rfl
theorem e47_28 (hcat : ip_cat s ≤ 8) : rf (d + 1) 47 28 ls (.ref 4 :: s) (SH n, I, L, R, nc, ns, nx) = rf_k (d + 1) 47 28 ls s (cf d 40 [.ref 4] (SH n, I, L, R, nc, ns, nx)) := g_cv (idx := 48) (t := 4) [] (by decide +kernel) ow47 ms_4_48 mt_4_48 cy40_4 rfl rfl mL40 rfl rfl (by decide) hcat
theorem e47_31 : rf d 47 31 [some (.ref a), l1, l2] s h = rf d 47 32 [some (.ref a), l1, l2] (.ref a :: s) h := rf_pure (i := .aload_n 0) (len := 1) (okD_ok (by decide +kernel)) rfl
theorem e47_32 : rf d 47 32 ls (.ref 4 :: s) (SH n, I, L, R, nc, ns, nx) = rf d 47 35 ls (.int (I 4 6) :: s) (SH n, I, L, R, nc, ns, nx) := g_I (idx := 51) (by decide +kernel) ow47 f_4_51 rfl rfl (by decide)
theorem e47_35 : rf d 47 35 ls s h = rf d 47 36 ls (.int 1 :: s) h := rf_pure (i := .iconst (1)) (len := 1) (okD_ok (by decide +kernel)) rfl
theorem e47_36 : rf d 47 36 ls (.int y :: .int x :: s) h = if x < y then rf d 47 47 ls s h else rf d 47 39 ls s h := g_ic (c := .lt) (off := 11) _ (by decide +kernel) rfl cmp_d
theorem e47_39 : rf d 47 39 [some (.ref a), l1, l2] s h = rf d 47 40 [some (.ref a), l1, l2] (.ref a :: s) h := rf_pure (i := .aload_n 0) (len := 1) (okD_ok (by decide +kernel)) rfl
theorem e47_40 : rf d 47 40 ls (.ref 4 :: s) (SH n, I, L, R, nc, ns, nx) = rf d 47 43 ls (.int (I 4 6) :: s) (SH n, I, L, R, nc, ns, nx) := g_I (idx := 51) (by decide +kernel) ow47 f_4_51 rfl rfl (by decide)
theorem e47_43 : rf d 47 43 ls s h = rf d 47 44 ls (.int 3 :: s) h := rf_pure (i := .iconst (3)) (len := 1) (okD_ok (by decide +kernel)) rfl
theorem e47_44 : rf d 47 44 ls (.int y :: .int x :: s) h = if x ≤ y then rf d 47 49 ls s h else rf d 47 47 ls s h := g_ic (c := .le) (off := 5) _ (by decide +kernel) rfl cmp_d
theorem e47_47 : rf d 47 47 ls s h = rf d 47 48 ls (.int 0 :: s) h := rf_pure (i := .iconst (0)) (len := 1) (okD_ok (by decide +kernel)) rfl
theorem e47_48 (hx : x = 0 ∨ x = 1) : rf d 47 48 ls [.int x] h = some (.inl (some (.int x)), h) := g_rz (by decide +kernel) rt47 hx
theorem e47_49 : rf d 47 49 [some (.ref a), l1, l2] s h = rf d 47 50 [some (.ref a), l1, l2] (.ref a :: s) h := rf_pure (i := .aload_n 0) (len := 1) (okD_ok (by decide +kernel)) rfl
theorem e47_50 : rf d 47 50 ls (.ref 4 :: s) (SH n, I, L, R, nc, ns, nx) = rf d 47 53 ls (.int (I 4 6) :: s) (SH n, I, L, R, nc, ns, nx) := g_I (idx := 51) (by decide +kernel) ow47 f_4_51 rfl rfl (by decide)
theorem e47_53 : rf d 47 53 ls s h = rf d 47 54 ls (.int 1 :: s) h := rf_pure (i := .iconst (1)) (len := 1) (okD_ok (by decide +kernel)) rfl
theorem e47_54 : rf d 47 54 ls (.int y :: .int x :: s) h = rf d 47 55 ls (.int (x - y) :: s) h := rf_pure (i := .isub) (len := 1) (okD_ok (by decide +kernel)) rfl
theorem e47_55 (hn : ip_nl l0 = true) : rf d 47 55 [l0, l1, l2] (.int x :: s) h = rf d 47 56 [l0, some (.int x), l2] s h := g_sti (i := .istore_n 1) (len := 1) (q := 0) (p := 1) (by decide +kernel) rfl rfl hn
theorem e47_56 : rf d 47 56 [some (.ref a), l1, l2] s h = rf d 47 57 [some (.ref a), l1, l2] (.ref a :: s) h := rf_pure (i := .aload_n 0) (len := 1) (okD_ok (by decide +kernel)) rfl
theorem e47_57 (hcat : ip_cat s ≤ 8) : rf (d + 1) 47 57 ls (.ref 4 :: s) (SH n, I, L, R, nc, ns, nx) = rf_k (d + 1) 47 57 ls s (cf d 40 [.ref 4] (SH n, I, L, R, nc, ns, nx)) := g_cv (idx := 48) (t := 4) [] (by decide +kernel) ow47 ms_4_48 mt_4_48 cy40_4 rfl rfl mL40 rfl rfl (by decide) hcat
theorem e47_60 : rf d 47 60 [some (.ref a), l1, l2] s h = rf d 47 61 [some (.ref a), l1, l2] (.ref a :: s) h := rf_pure (i := .aload_n 0) (len := 1) (okD_ok (by decide +kernel)) rfl
theorem e47_61 : rf d 47 61 ls (.ref 4 :: s) (SH n, I, L, R, nc, ns, nx) = rf d 47 64 ls (.int (I 4 6) :: s) (SH n, I, L, R, nc, ns, nx) := g_I (idx := 51) (by decide +kernel) ow47 f_4_51 rfl rfl (by decide)
theorem e47_64 : rf d 47 64 ls s h = rf d 47 65 ls (.int 4 :: s) h := rf_pure (i := .iconst (4)) (len := 1) (okD_ok (by decide +kernel)) rfl
theorem e47_65 : rf d 47 65 ls (.int y :: .int x :: s) h = if ¬ x = y then rf d 47 75 ls s h else rf d 47 68 ls s h := g_ic (c := .ne) (off := 10) _ (by decide +kernel) rfl cmp_d
theorem e47_68 : rf d 47 68 [some (.ref a), l1, l2] s h = rf d 47 69 [some (.ref a), l1, l2] (.ref a :: s) h := rf_pure (i := .aload_n 0) (len := 1) (okD_ok (by decide +kernel)) rfl
theorem e47_69 (hcat : ip_cat s ≤ 8) : rf (d + 1) 47 69 ls (.ref 4 :: s) (SH n, I, L, R, nc, ns, nx) = rf_k (d + 1) 47 69 ls s (cf d 52 [.ref 4] (SH n, I, L, R, nc, ns, nx)) := g_cv (idx := 81) (t := 4) [] (by decide +kernel) ow47 ms_4_81 mt_4_81 cy52_4 rfl rfl mL52 rfl rfl (by decide) hcat
theorem e47_72 : rf d 47 72 ls s h = rf d 47 76 ls s h := rf_goto ⟨okD_ok (i := .goto (4)) (len := 3) (by decide +kernel), rfl⟩
theorem e47_75 : rf d 47 75 ls s h = rf d 47 76 ls (.int 0 :: s) h := rf_pure (i := .iconst (0)) (len := 1) (okD_ok (by decide +kernel)) rfl
theorem e47_76 (hn : ip_nl l1 = true) : rf d 47 76 [l0, l1, l2] (.int x :: s) h = rf d 47 77 [l0, l1, some (.int x)] s h := g_sti (i := .istore_n 2) (len := 1) (q := 1) (p := 1) (by decide +kernel) rfl rfl hn
theorem e47_77 : rf d 47 77 [l0, l1, some (.int x)] s h = rf d 47 78 [l0, l1, some (.int x)] (.int x :: s) h := rf_pure (i := .iload_n 2) (len := 1) (okD_ok (by decide +kernel)) rfl
theorem e47_78 : rf d 47 78 ls s h = rf d 47 79 ls (.int (-1) :: s) h := rf_pure (i := .iconst (-1)) (len := 1) (okD_ok (by decide +kernel)) rfl
theorem e47_79 : rf d 47 79 ls (.int y :: .int x :: s) h = if x = y then rf d 47 91 ls s h else rf d 47 82 ls s h := g_ic (c := .eq) (off := 12) _ (by decide +kernel) rfl cmp_d
theorem e47_82 : rf d 47 82 [some (.ref a), l1, l2] s h = rf d 47 83 [some (.ref a), l1, l2] (.ref a :: s) h := rf_pure (i := .aload_n 0) (len := 1) (okD_ok (by decide +kernel)) rfl
theorem e47_83 : rf d 47 83 ls s h = rf d 47 85 ls (.int 59 :: s) h := rf_pure (i := .bipush (59)) (len := 2) (okD_ok (by decide +kernel)) rfl
theorem e47_85 (hcat : ip_cat s ≤ 8) : rf (d + 1) 47 85 ls (.int x0 :: .ref 4 :: s) (SH n, I, L, R, nc, ns, nx) = rf_k (d + 1) 47 85 ls s (cf d 53 [.ref 4, .int x0] (SH n, I, L, R, nc, ns, nx)) := g_cv (idx := 84) (t := 4) [.int x0] (by decide +kernel) ow47 ms_4_84 mt_4_84 cy53_4 rfl rfl mL53 rfl rfl (by decide) hcat
theorem e47_88 : rf d 47 88 ls (.int x :: s) h = if ¬ x = 0 then rf d 47 93 ls s h else rf d 47 91 ls s h := g_if (c := .ne) (off := 5) _ (by decide +kernel) rfl cmp_d
theorem e47_91 : rf d 47 91 ls s h = rf d 47 92 ls (.int 0 :: s) h := rf_pure (i := .iconst (0)) (len := 1) (okD_ok (by decide +kernel)) rfl
theorem e47_92 (hx : x = 0 ∨ x = 1) : rf d 47 92 ls [.int x] h = some (.inl (some (.int x)), h) := g_rz (by decide +kernel) rt47 hx
theorem e47_93 : rf d 47 93 [some (.ref a), l1, l2] s h = rf d 47 94 [some (.ref a), l1, l2] (.ref a :: s) h := rf_pure (i := .aload_n 0) (len := 1) (okD_ok (by decide +kernel)) rfl
theorem e47_94 : rf d 47 94 ls (.ref 4 :: s) (SH n, I, L, R, nc, ns, nx) = rf d 47 97 ls (ip_rf (R 4 2) :: s) (SH n, I, L, R, nc, ns, nx) := g_R (idx := 25) (by decide +kernel) ow47 f_4_25 rfl rfl (by decide) rfl
theorem e47_97 : rf d 47 97 [l0, some (.int x), l2] s h = rf d 47 98 [l0, some (.int x), l2] (.int x :: s) h := rf_pure (i := .iload_n 1) (len := 1) (okD_ok (by decide +kernel)) rfl
theorem e47_98 : rf d 47 98 [l0, l1, some (.int x)] s h = rf d 47 99 [l0, l1, some (.int x)] (.int x :: s) h := rf_pure (i := .iload_n 2) (len := 1) (okD_ok (by decide +kernel)) rfl
theorem e47_99 (hb : isT b) (hcat : ip_cat s ≤ 8) : rf (d + 1) 47 99 ls (.int x1 :: .int x0 :: .ref b :: s) (SH n, I, L, R, nc, ns, nx) = rf_k (d + 1) 47 99 ls s (cf d 54 [.ref b, .int x0, .int x1] (SH n, I, L, R, nc, ns, nx)) := g_cv (idx := 88) (t := 6) [.int x1, .int x0] (by decide +kernel) ow47 ms_4_88 mt_4_88 cy54_6 rfl rfl mL54 rfl (kdT0 hb) (geT hb) hcat
theorem e47_102 : rf d 47 102 ls s h = rf d 47 103 ls (.int 1 :: s) h := rf_pure (i := .iconst (1)) (len := 1) (okD_ok (by decide +kernel)) rfl
theorem e47_103 (hx : x = 0 ∨ x = 1) : rf d 47 103 ls [.int x] h = some (.inl (some (.int x)), h) := g_rz (by decide +kernel) rt47 hx
theorem en48 : cf d 48 [.ref a] h = rf d 48 0 [some (.ref a), none] [] h := rfl
theorem e48_0 : rf d 48 0 ls s h = rf d 48 1 ls (.int 0 :: s) h := rf_pure (i := .iconst (0)) (len := 1) (okD_ok (by decide +kernel)) rfl
theorem e48_1 (hn : ip_nl l0 = true) : rf d 48 1 [l0, l1] (.int x :: s) h = rf d 48 2 [l0, some (.int x)] s h := g_sti (i := .istore_n 1) (len := 1) (q := 0) (p := 1) (by decide +kernel) rfl rfl hn
theorem e48_2 : rf d 48 2 [l0, some (.int x)] s h = rf d 48 3 [l0, some (.int x)] (.int x :: s) h := rf_pure (i := .iload_n 1) (len := 1) (okD_ok (by decide +kernel)) rfl
theorem e48_3 : rf d 48 3 [some (.ref a), l1] s h = rf d 48 4 [some (.ref a), l1] (.ref a :: s) h := rf_pure (i := .aload_n 0) (len := 1) (okD_ok (by decide +kernel)) rfl
theorem e48_4 : rf d 48 4 ls (.ref 4 :: s) (SH n, I, L, R, nc, ns, nx) = rf d 48 7 ls (ip_rf (R 4 2) :: s) (SH n, I, L, R, nc, ns, nx) := g_R (idx := 25) (by decide +kernel) ow48 f_4_25 rfl rfl (by decide) rfl
theorem e48_7 (ha : isT a) : rf d 48 7 ls (.ref a :: s) (SH n, I, L, R, nc, ns, nx) = rf d 48 10 ls (.int (I a 6) :: s) (SH n, I, L, R, nc, ns, nx) := g_I (idx := 54) (by decide +kernel) ow48 f_4_54 rfl (kdT0 ha) (geT ha)
theorem e48_10 : rf d 48 10 ls (.int y :: .int x :: s) h = if y ≤ x then rf d 48 29 ls s h else rf d 48 13 ls s h := g_ic (c := .ge) (off := 19) _ (by decide +kernel) rfl cmp_d
theorem e48_13 : rf d 48 13 [some (.ref a), l1] s h = rf d 48 14 [some (.ref a), l1] (.ref a :: s) h := rf_pure (i := .aload_n 0) (len := 1) (okD_ok (by decide +kernel)) rfl
theorem e48_14 : rf d 48 14 [l0, some (.int x)] s h = rf d 48 15 [l0, some (.int x)] (.int x :: s) h := rf_pure (i := .iload_n 1) (len := 1) (okD_ok (by decide +kernel)) rfl
theorem e48_15 (hcat : ip_cat s ≤ 8) : rf (d + 1) 48 15 ls (.int x0 :: .ref 4 :: s) (SH n, I, L, R, nc, ns, nx) = rf_k (d + 1) 48 15 ls s (cf d 49 [.ref 4, .int x0] (SH n, I, L, R, nc, ns, nx)) := g_cv (idx := 173) (t := 4) [.int x0] (by decide +kernel) ow48 ms_4_173 mt_4_173 cy49_4 rfl rfl mL49 rfl rfl (by decide) hcat
theorem e48_18 : rf d 48 18 ls (.int x :: s) h = if x = 0 then rf d 48 23 ls s h else rf d 48 21 ls s h := g_if (c := .eq) (off := 5) _ (by decide +kernel) rfl cmp_d
theorem e48_21 : rf d 48 21 [l0, some (.int x)] s h = rf d 48 22 [l0, some (.int x)] (.int x :: s) h := rf_pure (i := .iload_n 1) (len := 1) (okD_ok (by decide +kernel)) rfl
theorem e48_22 : rf d 48 22 ls [.int x] h = some (.inl (some (.int x)), h) := g_ri (by decide +kernel) rt48
theorem e48_23 (hn : ip_nl l0 = true) : rf d 48 23 [l0, some (.int x)] s h = rf d 48 26 [l0, some (.int (x + 1))] s h := g_inc (q := 0) (z := 1) (w := 1) (x := x) (by decide) (by decide +kernel) rfl rfl hn
theorem e48_26 : rf d 48 26 ls s h = rf d 48 2 ls s h := rf_goto ⟨okD_ok (i := .goto (-24)) (len := 3) (by decide +kernel), rfl⟩
theorem e48_29 : rf d 48 29 ls s h = rf d 48 30 ls (.int (-1) :: s) h := rf_pure (i := .iconst (-1)) (len := 1) (okD_ok (by decide +kernel)) rfl
theorem e48_30 : rf d 48 30 ls [.int x] h = some (.inl (some (.int x)), h) := g_ri (by decide +kernel) rt48
theorem en49 : cf d 49 [.ref a, .int x0] h = rf d 49 0 [some (.ref a), some (.int x0), none, none] [] h := rfl
theorem e49_0 : rf d 49 0 ls s h = rf d 49 1 ls (.int 0 :: s) h := rf_pure (i := .iconst (0)) (len := 1) (okD_ok (by decide +kernel)) rfl
theorem e49_1 (hn : ip_nl l1 = true) : rf d 49 1 [l0, l1, l2, l3] (.int x :: s) h = rf d 49 2 [l0, l1, some (.int x), l3] s h := g_sti (i := .istore_n 2) (len := 1) (q := 1) (p := 1) (by decide +kernel) rfl rfl hn
theorem e49_2 : rf d 49 2 [l0, l1, some (.int x), l3] s h = rf d 49 3 [l0, l1, some (.int x), l3] (.int x :: s) h := rf_pure (i := .iload_n 2) (len := 1) (okD_ok (by decide +kernel)) rfl
theorem e49_3 : rf d 49 3 ls s h = rf d 49 5 ls (.int 6 :: s) h := rf_pure (i := .bipush (6)) (len := 2) (okD_ok (by decide +kernel)) rfl
theorem e49_5 : rf d 49 5 ls (.int y :: .int x :: s) h = if y ≤ x then rf d 49 58 ls s h else rf d 49 8 ls s h := g_ic (c := .ge) (off := 53) _ (by decide +kernel) rfl cmp_d
theorem e49_8 : rf d 49 8 [some (.ref a), l1, l2, l3] s h = rf d 49 9 [some (.ref a), l1, l2, l3] (.ref a :: s) h := rf_pure (i := .aload_n 0) (len := 1) (okD_ok (by decide +kernel)) rfl
theorem e49_9 : rf d 49 9 ls (.ref 4 :: s) (SH n, I, L, R, nc, ns, nx) = rf d 49 12 ls (.int (I 4 5) :: s) (SH n, I, L, R, nc, ns, nx) := g_I (idx := 71) (by decide +kernel) ow49 f_4_71 rfl rfl (by decide)
theorem e49_12 : rf d 49 12 [l0, l1, some (.int x), l3] s h = rf d 49 13 [l0, l1, some (.int x), l3] (.int x :: s) h := rf_pure (i := .iload_n 2) (len := 1) (okD_ok (by decide +kernel)) rfl
theorem e49_13 : rf d 49 13 ls (.int y :: .int x :: s) h = rf d 49 14 ls (.int (x + y) :: s) h := rf_pure (i := .iadd) (len := 1) (okD_ok (by decide +kernel)) rfl
theorem e49_14 : rf d 49 14 [some (.ref a), l1, l2, l3] s h = rf d 49 15 [some (.ref a), l1, l2, l3] (.ref a :: s) h := rf_pure (i := .aload_n 0) (len := 1) (okD_ok (by decide +kernel)) rfl
theorem e49_15 : rf d 49 15 ls (.ref 4 :: s) (SH n, I, L, R, nc, ns, nx) = rf d 49 18 ls (.int (I 4 4) :: s) (SH n, I, L, R, nc, ns, nx) := g_I (idx := 39) (by decide +kernel) ow49 f_4_39 rfl rfl (by decide)
theorem e49_18 : rf d 49 18 ls (.int y :: .int x :: s) h = if y ≤ x then rf d 49 35 ls s h else rf d 49 21 ls s h := g_ic (c := .ge) (off := 17) _ (by decide +kernel) rfl cmp_d
theorem e49_21 : rf d 49 21 [some (.ref a), l1, l2, l3] s h = rf d 49 22 [some (.ref a), l1, l2, l3] (.ref a :: s) h := rf_pure (i := .aload_n 0) (len := 1) (okD_ok (by decide +kernel)) rfl
theorem e49_22 : rf d 49 22 ls (.ref 4 :: s) (SH n, I, L, R, nc, ns, nx) = rf d 49 25 ls (ip_rf (R 4 1) :: s) (SH n, I, L, R, nc, ns, nx) := g_R (idx := 18) (by decide +kernel) ow49 f_4_18 rfl rfl (by decide) rfl
theorem e49_25 : rf d 49 25 [some (.ref a), l1, l2, l3] s h = rf d 49 26 [some (.ref a), l1, l2, l3] (.ref a :: s) h := rf_pure (i := .aload_n 0) (len := 1) (okD_ok (by decide +kernel)) rfl
theorem e49_26 : rf d 49 26 ls (.ref 4 :: s) (SH n, I, L, R, nc, ns, nx) = rf d 49 29 ls (.int (I 4 5) :: s) (SH n, I, L, R, nc, ns, nx) := g_I (idx := 71) (by decide +kernel) ow49 f_4_71 rfl rfl (by decide)
theorem e49_29 : rf d 49 29 [l0, l1, some (.int x), l3] s h = rf d 49 30 [l0, l1, some (.int x), l3] (.int x :: s) h := rf_pure (i := .iload_n 2) (len := 1) (okD_ok (by decide +kernel)) rfl
theorem e49_30 : rf d 49 30 ls (.int y :: .int x :: s) h = rf d 49 31 ls (.int (x + y) :: s) h := rf_pure (i := .iadd) (len := 1) (okD_ok (by decide +kernel)) rfl
theorem e49_31 (q : ia n a j) : rf d 49 31 ls (.int j :: .ref a :: s) (SH n, I, L, R, nc, ns, nx) = rf d 49 32 ls (.int (I a j.toNatClampNeg) :: s) (SH n, I, L, R, nc, ns, nx) := g_ial (by decide +kernel) q
theorem e49_32 : rf d 49 32 ls s h = rf d 49 36 ls s h := rf_goto ⟨okD_ok (i := .goto (4)) (len := 3) (by decide +kernel), rfl⟩
theorem e49_35 : rf d 49 35 ls s h = rf d 49 36 ls (.int (-1) :: s) h := rf_pure (i := .iconst (-1)) (len := 1) (okD_ok (by decide +kernel)) rfl
theorem e49_36 (hn : ip_nl l2 = true) : rf d 49 36 [l0, l1, l2, l3] (.int x :: s) h = rf d 49 37 [l0, l1, l2, some (.int x)] s h := g_sti (i := .istore_n 3) (len := 1) (q := 2) (p := 1) (by decide +kernel) rfl rfl hn
theorem e49_37 : rf d 49 37 [some (.ref a), l1, l2, l3] s h = rf d 49 38 [some (.ref a), l1, l2, l3] (.ref a :: s) h := rf_pure (i := .aload_n 0) (len := 1) (okD_ok (by decide +kernel)) rfl
theorem e49_38 : rf d 49 38 ls (.ref 4 :: s) (SH n, I, L, R, nc, ns, nx) = rf d 49 41 ls (ip_rf (R 4 2) :: s) (SH n, I, L, R, nc, ns, nx) := g_R (idx := 25) (by decide +kernel) ow49 f_4_25 rfl rfl (by decide) rfl
theorem e49_41 : rf d 49 41 [l0, some (.int x), l2, l3] s h = rf d 49 42 [l0, some (.int x), l2, l3] (.int x :: s) h := rf_pure (i := .iload_n 1) (len := 1) (okD_ok (by decide +kernel)) rfl
theorem e49_42 : rf d 49 42 [l0, l1, some (.int x), l3] s h = rf d 49 43 [l0, l1, some (.int x), l3] (.int x :: s) h := rf_pure (i := .iload_n 2) (len := 1) (okD_ok (by decide +kernel)) rfl
theorem e49_43 (hb : isT b) (hcat : ip_cat s ≤ 8) : rf (d + 1) 49 43 ls (.int x1 :: .int x0 :: .ref b :: s) (SH n, I, L, R, nc, ns, nx) = rf_k (d + 1) 49 43 ls s (cf d 50 [.ref b, .int x0, .int x1] (SH n, I, L, R, nc, ns, nx)) := g_cv (idx := 176) (t := 6) [.int x1, .int x0] (by decide +kernel) ow49 ms_4_176 mt_4_176 cy50_6 rfl rfl mL50 rfl (kdT0 hb) (geT hb) hcat
theorem e49_46 : rf d 49 46 [l0, l1, l2, some (.int x)] s h = rf d 49 47 [l0, l1, l2, some (.int x)] (.int x :: s) h := rf_pure (i := .iload_n 3) (len := 1) (okD_ok (by decide +kernel)) rfl
theorem e49_47 : rf d 49 47 ls (.int y :: .int x :: s) h = if x = y then rf d 49 52 ls s h else rf d 49 50 ls s h := g_ic (c := .eq) (off := 5) _ (by decide +kernel) rfl cmp_d
theorem e49_50 : rf d 49 50 ls s h = rf d 49 51 ls (.int 0 :: s) h := rf_pure (i := .iconst (0)) (len := 1) (okD_ok (by decide +kernel)) rfl
theorem e49_51 (hx : x = 0 ∨ x = 1) : rf d 49 51 ls [.int x] h = some (.inl (some (.int x)), h) := g_rz (by decide +kernel) rt49 hx
theorem e49_52 (hn : ip_nl l1 = true) : rf d 49 52 [l0, l1, some (.int x), l3] s h = rf d 49 55 [l0, l1, some (.int (x + 1)), l3] s h := g_inc (q := 1) (z := 1) (w := 1) (x := x) (by decide) (by decide +kernel) rfl rfl hn
theorem e49_55 : rf d 49 55 ls s h = rf d 49 2 ls s h := rf_goto ⟨okD_ok (i := .goto (-53)) (len := 3) (by decide +kernel), rfl⟩
theorem e49_58 : rf d 49 58 ls s h = rf d 49 59 ls (.int 1 :: s) h := rf_pure (i := .iconst (1)) (len := 1) (okD_ok (by decide +kernel)) rfl
theorem e49_59 (hx : x = 0 ∨ x = 1) : rf d 49 59 ls [.int x] h = some (.inl (some (.int x)), h) := g_rz (by decide +kernel) rt49 hx
theorem en50 : cf d 50 [.ref a, .int x0, .int x1] h = rf d 50 0 [some (.ref a), some (.int x0), some (.int x1)] [] h := rfl
theorem e50_0 : rf d 50 0 [l0, l1, some (.int x)] s h = rf d 50 1 [l0, l1, some (.int x)] (.int x :: s) h := rf_pure (i := .iload_n 2) (len := 1) (okD_ok (by decide +kernel)) rfl
theorem e50_1 : rf d 50 1 ls (.int x :: s) h = if x < 0 then rf d 50 24 ls s h else rf d 50 4 ls s h := g_if (c := .lt) (off := 23) _ (by decide +kernel) rfl cmp_d
theorem e50_4 : rf d 50 4 [l0, l1, some (.int x)] s h = rf d 50 5 [l0, l1, some (.int x)] (.int x :: s) h := rf_pure (i := .iload_n 2) (len := 1) (okD_ok (by decide +kernel)) rfl
theorem e50_5 : rf d 50 5 ls s h = rf d 50 7 ls (.int 6 :: s) h := rf_pure (i := .bipush (6)) (len := 2) (okD_ok (by decide +kernel)) rfl
theorem e50_7 : rf d 50 7 ls (.int y :: .int x :: s) h = if y ≤ x then rf d 50 24 ls s h else rf d 50 10 ls s h := g_ic (c := .ge) (off := 17) _ (by decide +kernel) rfl cmp_d
theorem e50_10 : rf d 50 10 [some (.ref a), l1, l2] s h = rf d 50 11 [some (.ref a), l1, l2] (.ref a :: s) h := rf_pure (i := .aload_n 0) (len := 1) (okD_ok (by decide +kernel)) rfl
theorem e50_11 (hR : LYR R) (ha : isT a) : rf d 50 11 ls (.ref a :: s) (SH n, I, L, R, nc, ns, nx) = rf d 50 14 ls (.ref (a + 1) :: s) (SH n, I, L, R, nc, ns, nx) := g_R (idx := 9) (by decide +kernel) ow50 f_6_9 rfl (kdT0 ha) (geT ha) (lyT0 hR ha)
theorem e50_14 : rf d 50 14 [l0, some (.int x), l2] s h = rf d 50 15 [l0, some (.int x), l2] (.int x :: s) h := rf_pure (i := .iload_n 1) (len := 1) (okD_ok (by decide +kernel)) rfl
theorem e50_15 : rf d 50 15 ls s h = rf d 50 17 ls (.int 6 :: s) h := rf_pure (i := .bipush (6)) (len := 2) (okD_ok (by decide +kernel)) rfl
theorem e50_17 : rf d 50 17 ls (.int y :: .int x :: s) h = rf d 50 18 ls (.int (x * y) :: s) h := rf_pure (i := .imul) (len := 1) (okD_ok (by decide +kernel)) rfl
theorem e50_18 : rf d 50 18 [l0, l1, some (.int x)] s h = rf d 50 19 [l0, l1, some (.int x)] (.int x :: s) h := rf_pure (i := .iload_n 2) (len := 1) (okD_ok (by decide +kernel)) rfl
theorem e50_19 : rf d 50 19 ls (.int y :: .int x :: s) h = rf d 50 20 ls (.int (x + y) :: s) h := rf_pure (i := .iadd) (len := 1) (okD_ok (by decide +kernel)) rfl
theorem e50_20 (q : ia n a j) : rf d 50 20 ls (.int j :: .ref a :: s) (SH n, I, L, R, nc, ns, nx) = rf d 50 21 ls (.int (I a j.toNatClampNeg) :: s) (SH n, I, L, R, nc, ns, nx) := g_ial (by decide +kernel) q
theorem e50_21 : rf d 50 21 ls (.int x :: s) h = if ¬ x = 0 then rf d 50 26 ls s h else rf d 50 24 ls s h := g_if (c := .ne) (off := 5) _ (by decide +kernel) rfl cmp_d
theorem e50_24 : rf d 50 24 ls s h = rf d 50 25 ls (.int (-1) :: s) h := rf_pure (i := .iconst (-1)) (len := 1) (okD_ok (by decide +kernel)) rfl
theorem e50_25 : rf d 50 25 ls [.int x] h = some (.inl (some (.int x)), h) := g_ri (by decide +kernel) rt50
theorem e50_26 : rf d 50 26 [some (.ref a), l1, l2] s h = rf d 50 27 [some (.ref a), l1, l2] (.ref a :: s) h := rf_pure (i := .aload_n 0) (len := 1) (okD_ok (by decide +kernel)) rfl
theorem e50_27 (hR : LYR R) (ha : isT a) : rf d 50 27 ls (.ref a :: s) (SH n, I, L, R, nc, ns, nx) = rf d 50 30 ls (.ref (a + 1) :: s) (SH n, I, L, R, nc, ns, nx) := g_R (idx := 9) (by decide +kernel) ow50 f_6_9 rfl (kdT0 ha) (geT ha) (lyT0 hR ha)
theorem e50_30 : rf d 50 30 [l0, some (.int x), l2] s h = rf d 50 31 [l0, some (.int x), l2] (.int x :: s) h := rf_pure (i := .iload_n 1) (len := 1) (okD_ok (by decide +kernel)) rfl
theorem e50_31 : rf d 50 31 ls s h = rf d 50 33 ls (.int 6 :: s) h := rf_pure (i := .bipush (6)) (len := 2) (okD_ok (by decide +kernel)) rfl
theorem e50_33 : rf d 50 33 ls (.int y :: .int x :: s) h = rf d 50 34 ls (.int (x * y) :: s) h := rf_pure (i := .imul) (len := 1) (okD_ok (by decide +kernel)) rfl
theorem e50_34 : rf d 50 34 [l0, l1, some (.int x)] s h = rf d 50 35 [l0, l1, some (.int x)] (.int x :: s) h := rf_pure (i := .iload_n 2) (len := 1) (okD_ok (by decide +kernel)) rfl
theorem e50_35 : rf d 50 35 ls (.int y :: .int x :: s) h = rf d 50 36 ls (.int (x + y) :: s) h := rf_pure (i := .iadd) (len := 1) (okD_ok (by decide +kernel)) rfl
theorem e50_36 (q : ia n a j) : rf d 50 36 ls (.int j :: .ref a :: s) (SH n, I, L, R, nc, ns, nx) = rf d 50 37 ls (.int (I a j.toNatClampNeg) :: s) (SH n, I, L, R, nc, ns, nx) := g_ial (by decide +kernel) q
theorem e50_37 : rf d 50 37 ls [.int x] h = some (.inl (some (.int x)), h) := g_ri (by decide +kernel) rt50
theorem en51 : cf d 51 [.ref a] h = rf d 51 0 [some (.ref a), none, none] [] h := rfl
theorem e51_0 : rf d 51 0 [some (.ref a), l1, l2] s h = rf d 51 1 [some (.ref a), l1, l2] (.ref a :: s) h := rf_pure (i := .aload_n 0) (len := 1) (okD_ok (by decide +kernel)) rfl
theorem e51_1 : rf d 51 1 ls (.ref 4 :: s) (SH n, I, L, R, nc, ns, nx) = rf d 51 4 ls (ip_rf (R 4 2) :: s) (SH n, I, L, R, nc, ns, nx) := g_R (idx := 25) (by decide +kernel) ow51 f_4_25 rfl rfl (by decide) rfl
theorem e51_4 (ha : isT a) : rf d 51 4 ls (.ref a :: s) (SH n, I, L, R, nc, ns, nx) = rf d 51 7 ls (.int (I a 6) :: s) (SH n, I, L, R, nc, ns, nx) := g_I (idx := 54) (by decide +kernel) ow51 f_4_54 rfl (kdT0 ha) (geT ha)
theorem e51_7 : rf d 51 7 ls s h = rf d 51 9 ls (.int 6 :: s) h := rf_pure (i := .bipush (6)) (len := 2) (okD_ok (by decide +kernel)) rfl
theorem e51_9 : rf d 51 9 ls (.int y :: .int x :: s) h = rf d 51 10 ls (.int (x * y) :: s) h := rf_pure (i := .imul) (len := 1) (okD_ok (by decide +kernel)) rfl
theorem e51_10 (hn : ip_nl l0 = true) : rf d 51 10 [l0, l1, l2] (.int x :: s) h = rf d 51 11 [l0, some (.int x), l2] s h := g_sti (i := .istore_n 1) (len := 1) (q := 0) (p := 1) (by decide +kernel) rfl rfl hn
theorem e51_11 : rf d 51 11 ls s h = rf d 51 12 ls (.int 0 :: s) h := rf_pure (i := .iconst (0)) (len := 1) (okD_ok (by decide +kernel)) rfl
theorem e51_12 (hn : ip_nl l1 = true) : rf d 51 12 [l0, l1, l2] (.int x :: s) h = rf d 51 13 [l0, l1, some (.int x)] s h := g_sti (i := .istore_n 2) (len := 1) (q := 1) (p := 1) (by decide +kernel) rfl rfl hn
theorem e51_13 : rf d 51 13 [l0, l1, some (.int x)] s h = rf d 51 14 [l0, l1, some (.int x)] (.int x :: s) h := rf_pure (i := .iload_n 2) (len := 1) (okD_ok (by decide +kernel)) rfl
theorem e51_14 : rf d 51 14 ls s h = rf d 51 16 ls (.int 6 :: s) h := rf_pure (i := .bipush (6)) (len := 2) (okD_ok (by decide +kernel)) rfl
theorem e51_16 : rf d 51 16 ls (.int y :: .int x :: s) h = if y ≤ x then rf d 51 60 ls s h else rf d 51 19 ls s h := g_ic (c := .ge) (off := 44) _ (by decide +kernel) rfl cmp_d
theorem e51_19 : rf d 51 19 [some (.ref a), l1, l2] s h = rf d 51 20 [some (.ref a), l1, l2] (.ref a :: s) h := rf_pure (i := .aload_n 0) (len := 1) (okD_ok (by decide +kernel)) rfl
theorem e51_20 : rf d 51 20 ls (.ref 4 :: s) (SH n, I, L, R, nc, ns, nx) = rf d 51 23 ls (.int (I 4 5) :: s) (SH n, I, L, R, nc, ns, nx) := g_I (idx := 71) (by decide +kernel) ow51 f_4_71 rfl rfl (by decide)
theorem e51_23 : rf d 51 23 [l0, l1, some (.int x)] s h = rf d 51 24 [l0, l1, some (.int x)] (.int x :: s) h := rf_pure (i := .iload_n 2) (len := 1) (okD_ok (by decide +kernel)) rfl
theorem e51_24 : rf d 51 24 ls (.int y :: .int x :: s) h = rf d 51 25 ls (.int (x + y) :: s) h := rf_pure (i := .iadd) (len := 1) (okD_ok (by decide +kernel)) rfl
theorem e51_25 : rf d 51 25 [some (.ref a), l1, l2] s h = rf d 51 26 [some (.ref a), l1, l2] (.ref a :: s) h := rf_pure (i := .aload_n 0) (len := 1) (okD_ok (by decide +kernel)) rfl
theorem e51_26 : rf d 51 26 ls (.ref 4 :: s) (SH n, I, L, R, nc, ns, nx) = rf d 51 29 ls (.int (I 4 4) :: s) (SH n, I, L, R, nc, ns, nx) := g_I (idx := 39) (by decide +kernel) ow51 f_4_39 rfl rfl (by decide)
theorem e51_29 : rf d 51 29 ls (.int y :: .int x :: s) h = if y ≤ x then rf d 51 60 ls s h else rf d 51 32 ls s h := g_ic (c := .ge) (off := 31) _ (by decide +kernel) rfl cmp_d
theorem e51_32 : rf d 51 32 [some (.ref a), l1, l2] s h = rf d 51 33 [some (.ref a), l1, l2] (.ref a :: s) h := rf_pure (i := .aload_n 0) (len := 1) (okD_ok (by decide +kernel)) rfl
theorem e51_33 : rf d 51 33 ls (.ref 4 :: s) (SH n, I, L, R, nc, ns, nx) = rf d 51 36 ls (ip_rf (R 4 2) :: s) (SH n, I, L, R, nc, ns, nx) := g_R (idx := 25) (by decide +kernel) ow51 f_4_25 rfl rfl (by decide) rfl
theorem e51_36 (hR : LYR R) (ha : isT a) : rf d 51 36 ls (.ref a :: s) (SH n, I, L, R, nc, ns, nx) = rf d 51 39 ls (.ref (a + 1) :: s) (SH n, I, L, R, nc, ns, nx) := g_R (idx := 92) (by decide +kernel) ow51 f_4_92 rfl (kdT0 ha) (geT ha) (lyT0 hR ha)
theorem e51_39 : rf d 51 39 [l0, some (.int x), l2] s h = rf d 51 40 [l0, some (.int x), l2] (.int x :: s) h := rf_pure (i := .iload_n 1) (len := 1) (okD_ok (by decide +kernel)) rfl
theorem e51_40 : rf d 51 40 [l0, l1, some (.int x)] s h = rf d 51 41 [l0, l1, some (.int x)] (.int x :: s) h := rf_pure (i := .iload_n 2) (len := 1) (okD_ok (by decide +kernel)) rfl
theorem e51_41 : rf d 51 41 ls (.int y :: .int x :: s) h = rf d 51 42 ls (.int (x + y) :: s) h := rf_pure (i := .iadd) (len := 1) (okD_ok (by decide +kernel)) rfl
theorem e51_42 : rf d 51 42 [some (.ref a), l1, l2] s h = rf d 51 43 [some (.ref a), l1, l2] (.ref a :: s) h := rf_pure (i := .aload_n 0) (len := 1) (okD_ok (by decide +kernel)) rfl
theorem e51_43 : rf d 51 43 ls (.ref 4 :: s) (SH n, I, L, R, nc, ns, nx) = rf d 51 46 ls (ip_rf (R 4 1) :: s) (SH n, I, L, R, nc, ns, nx) := g_R (idx := 18) (by decide +kernel) ow51 f_4_18 rfl rfl (by decide) rfl
theorem e51_46 : rf d 51 46 [some (.ref a), l1, l2] s h = rf d 51 47 [some (.ref a), l1, l2] (.ref a :: s) h := rf_pure (i := .aload_n 0) (len := 1) (okD_ok (by decide +kernel)) rfl
theorem e51_47 : rf d 51 47 ls (.ref 4 :: s) (SH n, I, L, R, nc, ns, nx) = rf d 51 50 ls (.int (I 4 5) :: s) (SH n, I, L, R, nc, ns, nx) := g_I (idx := 71) (by decide +kernel) ow51 f_4_71 rfl rfl (by decide)
theorem e51_50 : rf d 51 50 [l0, l1, some (.int x)] s h = rf d 51 51 [l0, l1, some (.int x)] (.int x :: s) h := rf_pure (i := .iload_n 2) (len := 1) (okD_ok (by decide +kernel)) rfl
theorem e51_51 : rf d 51 51 ls (.int y :: .int x :: s) h = rf d 51 52 ls (.int (x + y) :: s) h := rf_pure (i := .iadd) (len := 1) (okD_ok (by decide +kernel)) rfl
theorem e51_52 (q : ia n a j) : rf d 51 52 ls (.int j :: .ref a :: s) (SH n, I, L, R, nc, ns, nx) = rf d 51 53 ls (.int (I a j.toNatClampNeg) :: s) (SH n, I, L, R, nc, ns, nx) := g_ial (by decide +kernel) q
theorem e51_53 (q : ia n a j) : rf d 51 53 ls (.int x :: .int j :: .ref a :: s) (SH n, I, L, R, nc, ns, nx) = rf d 51 54 ls s (SH n, ip_up I a j.toNatClampNeg x, L, R, nc, ns, nx) := g_ias (by decide +kernel) q
theorem e51_54 (hn : ip_nl l1 = true) : rf d 51 54 [l0, l1, some (.int x)] s h = rf d 51 57 [l0, l1, some (.int (x + 1))] s h := g_inc (q := 1) (z := 1) (w := 1) (x := x) (by decide) (by decide +kernel) rfl rfl hn
theorem e51_57 : rf d 51 57 ls s h = rf d 51 13 ls s h := rf_goto ⟨okD_ok (i := .goto (-44)) (len := 3) (by decide +kernel), rfl⟩
theorem e51_60 : rf d 51 60 ls [] h = some (.inl none, h) := g_rv (by decide +kernel) rt51
theorem en52 : cf d 52 [.ref a] h = rf d 52 0 [some (.ref a), none, none, none] [] h := rfl
theorem e52_0 : rf d 52 0 ls s h = rf d 52 1 ls (.int 0 :: s) h := rf_pure (i := .iconst (0)) (len := 1) (okD_ok (by decide +kernel)) rfl
theorem e52_1 (hn : ip_nl l0 = true) : rf d 52 1 [l0, l1, l2, l3] (.int x :: s) h = rf d 52 2 [l0, some (.int x), l2, l3] s h := g_sti (i := .istore_n 1) (len := 1) (q := 0) (p := 1) (by decide +kernel) rfl rfl hn
theorem e52_2 : rf d 52 2 ls s h = rf d 52 3 ls (.int 0 :: s) h := rf_pure (i := .iconst (0)) (len := 1) (okD_ok (by decide +kernel)) rfl
theorem e52_3 (hn : ip_nl l1 = true) : rf d 52 3 [l0, l1, l2, l3] (.int x :: s) h = rf d 52 4 [l0, l1, some (.int x), l3] s h := g_sti (i := .istore_n 2) (len := 1) (q := 1) (p := 1) (by decide +kernel) rfl rfl hn
theorem e52_4 : rf d 52 4 [l0, l1, some (.int x), l3] s h = rf d 52 5 [l0, l1, some (.int x), l3] (.int x :: s) h := rf_pure (i := .iload_n 2) (len := 1) (okD_ok (by decide +kernel)) rfl
theorem e52_5 : rf d 52 5 ls s h = rf d 52 7 ls (.int 8 :: s) h := rf_pure (i := .bipush (8)) (len := 2) (okD_ok (by decide +kernel)) rfl
theorem e52_7 : rf d 52 7 ls (.int y :: .int x :: s) h = if y < x then rf d 52 74 ls s h else rf d 52 10 ls s h := g_ic (c := .gt) (off := 67) _ (by decide +kernel) rfl cmp_d
theorem e52_10 : rf d 52 10 [some (.ref a), l1, l2, l3] s h = rf d 52 11 [some (.ref a), l1, l2, l3] (.ref a :: s) h := rf_pure (i := .aload_n 0) (len := 1) (okD_ok (by decide +kernel)) rfl
theorem e52_11 (hcat : ip_cat s ≤ 8) : rf (d + 1) 52 11 ls (.ref 4 :: s) (SH n, I, L, R, nc, ns, nx) = rf_k (d + 1) 52 11 ls s (cf d 40 [.ref 4] (SH n, I, L, R, nc, ns, nx)) := g_cv (idx := 48) (t := 4) [] (by decide +kernel) ow52 ms_4_48 mt_4_48 cy40_4 rfl rfl mL40 rfl rfl (by decide) hcat
theorem e52_14 : rf d 52 14 [some (.ref a), l1, l2, l3] s h = rf d 52 15 [some (.ref a), l1, l2, l3] (.ref a :: s) h := rf_pure (i := .aload_n 0) (len := 1) (okD_ok (by decide +kernel)) rfl
theorem e52_15 : rf d 52 15 ls (.ref 4 :: s) (SH n, I, L, R, nc, ns, nx) = rf d 52 18 ls (.int (I 4 6) :: s) (SH n, I, L, R, nc, ns, nx) := g_I (idx := 51) (by decide +kernel) ow52 f_4_51 rfl rfl (by decide)
theorem e52_18 : rf d 52 18 ls s h = rf d 52 20 ls (.int 13 :: s) h := rf_pure (i := .bipush (13)) (len := 2) (okD_ok (by decide +kernel)) rfl
theorem e52_20 : rf d 52 20 ls (.int y :: .int x :: s) h = if ¬ x = y then rf d 52 30 ls s h else rf d 52 23 ls s h := g_ic (c := .ne) (off := 10) _ (by decide +kernel) rfl cmp_d
theorem e52_23 : rf d 52 23 [some (.ref a), l1, l2, l3] s h = rf d 52 24 [some (.ref a), l1, l2, l3] (.ref a :: s) h := rf_pure (i := .aload_n 0) (len := 1) (okD_ok (by decide +kernel)) rfl
theorem e52_24 (hcat : ip_cat s ≤ 8) : rf (d + 1) 52 24 ls (.ref 4 :: s) (SH n, I, L, R, nc, ns, nx) = rf_k (d + 1) 52 24 ls s (cf d 48 [.ref 4] (SH n, I, L, R, nc, ns, nx)) := g_cv (idx := 74) (t := 4) [] (by decide +kernel) ow52 ms_4_74 mt_4_74 cy48_4 rfl rfl mL48 rfl rfl (by decide) hcat
theorem e52_27 : rf d 52 27 ls s h = rf d 52 31 ls s h := rf_goto ⟨okD_ok (i := .goto (4)) (len := 3) (by decide +kernel), rfl⟩
theorem e52_30 : rf d 52 30 ls s h = rf d 52 31 ls (.int (-1) :: s) h := rf_pure (i := .iconst (-1)) (len := 1) (okD_ok (by decide +kernel)) rfl
theorem e52_31 (hn : ip_nl l2 = true) : rf d 52 31 [l0, l1, l2, l3] (.int x :: s) h = rf d 52 32 [l0, l1, l2, some (.int x)] s h := g_sti (i := .istore_n 3) (len := 1) (q := 2) (p := 1) (by decide +kernel) rfl rfl hn
theorem e52_32 : rf d 52 32 [l0, l1, l2, some (.int x)] s h = rf d 52 33 [l0, l1, l2, some (.int x)] (.int x :: s) h := rf_pure (i := .iload_n 3) (len := 1) (okD_ok (by decide +kernel)) rfl
theorem e52_33 : rf d 52 33 ls s h = rf d 52 34 ls (.int (-1) :: s) h := rf_pure (i := .iconst (-1)) (len := 1) (okD_ok (by decide +kernel)) rfl
theorem e52_34 : rf d 52 34 ls (.int y :: .int x :: s) h = if x = y then rf d 52 45 ls s h else rf d 52 37 ls s h := g_ic (c := .eq) (off := 11) _ (by decide +kernel) rfl cmp_d
theorem e52_37 : rf d 52 37 [l0, some (.int x), l2, l3] s h = rf d 52 38 [l0, some (.int x), l2, l3] (.int x :: s) h := rf_pure (i := .iload_n 1) (len := 1) (okD_ok (by decide +kernel)) rfl
theorem e52_38 : rf d 52 38 ls s h = rf d 52 39 ls (.int 1 :: s) h := rf_pure (i := .iconst (1)) (len := 1) (okD_ok (by decide +kernel)) rfl
theorem e52_39 : rf d 52 39 [l0, l1, l2, some (.int x)] s h = rf d 52 40 [l0, l1, l2, some (.int x)] (.int x :: s) h := rf_pure (i := .iload_n 3) (len := 1) (okD_ok (by decide +kernel)) rfl
theorem e52_40 : rf d 52 40 ls (.int y :: .int x :: s) h = rf d 52 41 ls (.int (x <<< (y &&& 31)) :: s) h := rf_pure (i := .ishl) (len := 1) (okD_ok (by decide +kernel)) rfl
theorem e52_41 : rf d 52 41 ls (.int y :: .int x :: s) h = rf d 52 42 ls (.int (x &&& y) :: s) h := rf_pure (i := .iand) (len := 1) (okD_ok (by decide +kernel)) rfl
theorem e52_42 : rf d 52 42 ls (.int x :: s) h = if x = 0 then rf d 52 47 ls s h else rf d 52 45 ls s h := g_if (c := .eq) (off := 5) _ (by decide +kernel) rfl cmp_d
theorem e52_45 : rf d 52 45 ls s h = rf d 52 46 ls (.int (-1) :: s) h := rf_pure (i := .iconst (-1)) (len := 1) (okD_ok (by decide +kernel)) rfl
theorem e52_46 : rf d 52 46 ls [.int x] h = some (.inl (some (.int x)), h) := g_ri (by decide +kernel) rt52
theorem e52_47 : rf d 52 47 [l0, some (.int x), l2, l3] s h = rf d 52 48 [l0, some (.int x), l2, l3] (.int x :: s) h := rf_pure (i := .iload_n 1) (len := 1) (okD_ok (by decide +kernel)) rfl
theorem e52_48 : rf d 52 48 ls s h = rf d 52 49 ls (.int 1 :: s) h := rf_pure (i := .iconst (1)) (len := 1) (okD_ok (by decide +kernel)) rfl
theorem e52_49 : rf d 52 49 [l0, l1, l2, some (.int x)] s h = rf d 52 50 [l0, l1, l2, some (.int x)] (.int x :: s) h := rf_pure (i := .iload_n 3) (len := 1) (okD_ok (by decide +kernel)) rfl
theorem e52_50 : rf d 52 50 ls (.int y :: .int x :: s) h = rf d 52 51 ls (.int (x <<< (y &&& 31)) :: s) h := rf_pure (i := .ishl) (len := 1) (okD_ok (by decide +kernel)) rfl
theorem e52_51 : rf d 52 51 ls (.int y :: .int x :: s) h = rf d 52 52 ls (.int (x ||| y) :: s) h := rf_pure (i := .ior) (len := 1) (okD_ok (by decide +kernel)) rfl
theorem e52_52 (hn : ip_nl l0 = true) : rf d 52 52 [l0, l1, l2, l3] (.int x :: s) h = rf d 52 53 [l0, some (.int x), l2, l3] s h := g_sti (i := .istore_n 1) (len := 1) (q := 0) (p := 1) (by decide +kernel) rfl rfl hn
theorem e52_53 : rf d 52 53 [some (.ref a), l1, l2, l3] s h = rf d 52 54 [some (.ref a), l1, l2, l3] (.ref a :: s) h := rf_pure (i := .aload_n 0) (len := 1) (okD_ok (by decide +kernel)) rfl
theorem e52_54 (hcat : ip_cat s ≤ 8) : rf (d + 1) 52 54 ls (.ref 4 :: s) (SH n, I, L, R, nc, ns, nx) = rf_k (d + 1) 52 54 ls s (cf d 40 [.ref 4] (SH n, I, L, R, nc, ns, nx)) := g_cv (idx := 48) (t := 4) [] (by decide +kernel) ow52 ms_4_48 mt_4_48 cy40_4 rfl rfl mL40 rfl rfl (by decide) hcat
theorem e52_57 : rf d 52 57 [some (.ref a), l1, l2, l3] s h = rf d 52 58 [some (.ref a), l1, l2, l3] (.ref a :: s) h := rf_pure (i := .aload_n 0) (len := 1) (okD_ok (by decide +kernel)) rfl
theorem e52_58 : rf d 52 58 ls (.ref 4 :: s) (SH n, I, L, R, nc, ns, nx) = rf d 52 61 ls (.int (I 4 6) :: s) (SH n, I, L, R, nc, ns, nx) := g_I (idx := 51) (by decide +kernel) ow52 f_4_51 rfl rfl (by decide)
theorem e52_61 : rf d 52 61 ls s h = rf d 52 63 ls (.int 44 :: s) h := rf_pure (i := .bipush (44)) (len := 2) (okD_ok (by decide +kernel)) rfl
theorem e52_63 : rf d 52 63 ls (.int y :: .int x :: s) h = if x = y then rf d 52 68 ls s h else rf d 52 66 ls s h := g_ic (c := .eq) (off := 5) _ (by decide +kernel) rfl cmp_d
theorem e52_66 : rf d 52 66 [l0, some (.int x), l2, l3] s h = rf d 52 67 [l0, some (.int x), l2, l3] (.int x :: s) h := rf_pure (i := .iload_n 1) (len := 1) (okD_ok (by decide +kernel)) rfl
theorem e52_67 : rf d 52 67 ls [.int x] h = some (.inl (some (.int x)), h) := g_ri (by decide +kernel) rt52
theorem e52_68 (hn : ip_nl l1 = true) : rf d 52 68 [l0, l1, some (.int x), l3] s h = rf d 52 71 [l0, l1, some (.int (x + 1)), l3] s h := g_inc (q := 1) (z := 1) (w := 1) (x := x) (by decide) (by decide +kernel) rfl rfl hn
theorem e52_71 : rf d 52 71 ls s h = rf d 52 4 ls s h := rf_goto ⟨okD_ok (i := .goto (-67)) (len := 3) (by decide +kernel), rfl⟩
theorem e52_74 : rf d 52 74 ls s h = rf d 52 75 ls (.int (-1) :: s) h := rf_pure (i := .iconst (-1)) (len := 1) (okD_ok (by decide +kernel)) rfl
theorem e52_75 : rf d 52 75 ls [.int x] h = some (.inl (some (.int x)), h) := g_ri (by decide +kernel) rt52
theorem en53 : cf d 53 [.ref a, .int x0] h = rf d 53 0 [some (.ref a), some (.int x0)] [] h := rfl
theorem e53_0 : rf d 53 0 [some (.ref a), l1] s h = rf d 53 1 [some (.ref a), l1] (.ref a :: s) h := rf_pure (i := .aload_n 0) (len := 1) (okD_ok (by decide +kernel)) rfl
theorem e53_1 : rf d 53 1 ls (.ref 4 :: s) (SH n, I, L, R, nc, ns, nx) = rf d 53 4 ls (.int (I 4 6) :: s) (SH n, I, L, R, nc, ns, nx) := g_I (idx := 51) (by decide +kernel) ow53 f_4_51 rfl rfl (by decide)
theorem e53_4 : rf d 53 4 [l0, some (.int x)] s h = rf d 53 5 [l0, some (.int x)] (.int x :: s) h := rf_pure (i := .iload_n 1) (len := 1) (okD_ok (by decide +kernel)) rfl
theorem e53_5 : rf d 53 5 ls (.int y :: .int x :: s) h = if x = y then rf d 53 10 ls s h else rf d 53 8 ls s h := g_ic (c := .eq) (off := 5) _ (by decide +kernel) rfl cmp_d
theorem e53_8 : rf d 53 8 ls s h = rf d 53 9 ls (.int 0 :: s) h := rf_pure (i := .iconst (0)) (len := 1) (okD_ok (by decide +kernel)) rfl
theorem e53_9 (hx : x = 0 ∨ x = 1) : rf d 53 9 ls [.int x] h = some (.inl (some (.int x)), h) := g_rz (by decide +kernel) rt53 hx
theorem e53_10 : rf d 53 10 [some (.ref a), l1] s h = rf d 53 11 [some (.ref a), l1] (.ref a :: s) h := rf_pure (i := .aload_n 0) (len := 1) (okD_ok (by decide +kernel)) rfl
theorem e53_11 (hcat : ip_cat s ≤ 8) : rf (d + 1) 53 11 ls (.ref 4 :: s) (SH n, I, L, R, nc, ns, nx) = rf_k (d + 1) 53 11 ls s (cf d 40 [.ref 4] (SH n, I, L, R, nc, ns, nx)) := g_cv (idx := 48) (t := 4) [] (by decide +kernel) ow53 ms_4_48 mt_4_48 cy40_4 rfl rfl mL40 rfl rfl (by decide) hcat
theorem e53_14 : rf d 53 14 ls s h = rf d 53 15 ls (.int 1 :: s) h := rf_pure (i := .iconst (1)) (len := 1) (okD_ok (by decide +kernel)) rfl
theorem e53_15 (hx : x = 0 ∨ x = 1) : rf d 53 15 ls [.int x] h = some (.inl (some (.int x)), h) := g_rz (by decide +kernel) rt53 hx
theorem en54 : cf d 54 [.ref a, .int x0, .int x1] h = rf d 54 0 [some (.ref a), some (.int x0), some (.int x1), none] [] h := rfl
theorem e54_0 : rf d 54 0 [some (.ref a), l1, l2, l3] s h = rf d 54 1 [some (.ref a), l1, l2, l3] (.ref a :: s) h := rf_pure (i := .aload_n 0) (len := 1) (okD_ok (by decide +kernel)) rfl
theorem e54_1 (ha : isT a) : rf d 54 1 ls (.ref a :: s) (SH n, I, L, R, nc, ns, nx) = rf d 54 4 ls (.int (I a 6) :: s) (SH n, I, L, R, nc, ns, nx) := g_I (idx := 36) (by decide +kernel) ow54 f_6_36 rfl (kdT0 ha) (geT ha)
theorem e54_4 : rf d 54 4 ls s h = rf d 54 6 ls (.int 8 :: s) h := rf_pure (i := .bipush (8)) (len := 2) (okD_ok (by decide +kernel)) rfl
theorem e54_6 : rf d 54 6 ls (.int y :: .int x :: s) h = if x < y then rf d 54 10 ls s h else rf d 54 9 ls s h := g_ic (c := .lt) (off := 4) _ (by decide +kernel) rfl cmp_d
theorem e54_9 : rf d 54 9 ls [] h = some (.inl none, h) := g_rv (by decide +kernel) rt54
theorem e54_10 : rf d 54 10 [some (.ref a), l1, l2, l3] s h = rf d 54 11 [some (.ref a), l1, l2, l3] (.ref a :: s) h := rf_pure (i := .aload_n 0) (len := 1) (okD_ok (by decide +kernel)) rfl
theorem e54_11 (hR : LYR R) (ha : isT a) : rf d 54 11 ls (.ref a :: s) (SH n, I, L, R, nc, ns, nx) = rf d 54 14 ls (.ref (a + 2) :: s) (SH n, I, L, R, nc, ns, nx) := g_R (idx := 15) (by decide +kernel) ow54 f_6_15 rfl (kdT0 ha) (geT ha) (lyT1 hR ha)
theorem e54_14 : rf d 54 14 [some (.ref a), l1, l2, l3] s h = rf d 54 15 [some (.ref a), l1, l2, l3] (.ref a :: s) h := rf_pure (i := .aload_n 0) (len := 1) (okD_ok (by decide +kernel)) rfl
theorem e54_15 (ha : isT a) : rf d 54 15 ls (.ref a :: s) (SH n, I, L, R, nc, ns, nx) = rf d 54 18 ls (.int (I a 6) :: s) (SH n, I, L, R, nc, ns, nx) := g_I (idx := 36) (by decide +kernel) ow54 f_6_36 rfl (kdT0 ha) (geT ha)
theorem e54_18 : rf d 54 18 [l0, some (.int x), l2, l3] s h = rf d 54 19 [l0, some (.int x), l2, l3] (.int x :: s) h := rf_pure (i := .iload_n 1) (len := 1) (okD_ok (by decide +kernel)) rfl
theorem e54_19 (q : ia n a j) : rf d 54 19 ls (.int x :: .int j :: .ref a :: s) (SH n, I, L, R, nc, ns, nx) = rf d 54 20 ls s (SH n, ip_up I a j.toNatClampNeg x, L, R, nc, ns, nx) := g_ias (by decide +kernel) q
theorem e54_20 : rf d 54 20 [some (.ref a), l1, l2, l3] s h = rf d 54 21 [some (.ref a), l1, l2, l3] (.ref a :: s) h := rf_pure (i := .aload_n 0) (len := 1) (okD_ok (by decide +kernel)) rfl
theorem e54_21 (hR : LYR R) (ha : isT a) : rf d 54 21 ls (.ref a :: s) (SH n, I, L, R, nc, ns, nx) = rf d 54 24 ls (.ref (a + 3) :: s) (SH n, I, L, R, nc, ns, nx) := g_R (idx := 18) (by decide +kernel) ow54 f_6_18 rfl (kdT0 ha) (geT ha) (lyT2 hR ha)
theorem e54_24 : rf d 54 24 [some (.ref a), l1, l2, l3] s h = rf d 54 25 [some (.ref a), l1, l2, l3] (.ref a :: s) h := rf_pure (i := .aload_n 0) (len := 1) (okD_ok (by decide +kernel)) rfl
theorem e54_25 (ha : isT a) : rf d 54 25 ls (.ref a :: s) (SH n, I, L, R, nc, ns, nx) = rf d 54 28 ls (.int (I a 6) :: s) (SH n, I, L, R, nc, ns, nx) := g_I (idx := 36) (by decide +kernel) ow54 f_6_36 rfl (kdT0 ha) (geT ha)
theorem e54_28 : rf d 54 28 [l0, l1, some (.int x), l3] s h = rf d 54 29 [l0, l1, some (.int x), l3] (.int x :: s) h := rf_pure (i := .iload_n 2) (len := 1) (okD_ok (by decide +kernel)) rfl
theorem e54_29 (q : ia n a j) : rf d 54 29 ls (.int x :: .int j :: .ref a :: s) (SH n, I, L, R, nc, ns, nx) = rf d 54 30 ls s (SH n, ip_up I a j.toNatClampNeg x, L, R, nc, ns, nx) := g_ias (by decide +kernel) q
theorem e54_30 : rf d 54 30 [some (.ref a), l1, l2, l3] s h = rf d 54 31 [some (.ref a), l1, l2, l3] (.ref a :: s) h := rf_pure (i := .aload_n 0) (len := 1) (okD_ok (by decide +kernel)) rfl
theorem e54_31 (hR : LYR R) (ha : isT a) : rf d 54 31 ls (.ref a :: s) (SH n, I, L, R, nc, ns, nx) = rf d 54 34 ls (.ref (a + 4) :: s) (SH n, I, L, R, nc, ns, nx) := g_R (idx := 21) (by decide +kernel) ow54 f_6_21 rfl (kdT0 ha) (geT ha) (lyT3 hR ha)
theorem e54_34 : rf d 54 34 [some (.ref a), l1, l2, l3] s h = rf d 54 35 [some (.ref a), l1, l2, l3] (.ref a :: s) h := rf_pure (i := .aload_n 0) (len := 1) (okD_ok (by decide +kernel)) rfl
theorem e54_35 (ha : isT a) : rf d 54 35 ls (.ref a :: s) (SH n, I, L, R, nc, ns, nx) = rf d 54 38 ls (.int (I a 6) :: s) (SH n, I, L, R, nc, ns, nx) := g_I (idx := 36) (by decide +kernel) ow54 f_6_36 rfl (kdT0 ha) (geT ha)
theorem e54_38 : rf d 54 38 ls s h = rf d 54 39 ls (.int 0 :: s) h := rf_pure (i := .iconst (0)) (len := 1) (okD_ok (by decide +kernel)) rfl
theorem e54_39 (q : ia n a j) : rf d 54 39 ls (.int x :: .int j :: .ref a :: s) (SH n, I, L, R, nc, ns, nx) = rf d 54 40 ls s (SH n, ip_up I a j.toNatClampNeg x, L, R, nc, ns, nx) := g_ias (by decide +kernel) q
theorem e54_40 : rf d 54 40 ls s h = rf d 54 41 ls (.int 0 :: s) h := rf_pure (i := .iconst (0)) (len := 1) (okD_ok (by decide +kernel)) rfl
theorem e54_41 (hn : ip_nl l2 = true) : rf d 54 41 [l0, l1, l2, l3] (.int x :: s) h = rf d 54 42 [l0, l1, l2, some (.int x)] s h := g_sti (i := .istore_n 3) (len := 1) (q := 2) (p := 1) (by decide +kernel) rfl rfl hn
theorem e54_42 : rf d 54 42 [l0, l1, l2, some (.int x)] s h = rf d 54 43 [l0, l1, l2, some (.int x)] (.int x :: s) h := rf_pure (i := .iload_n 3) (len := 1) (okD_ok (by decide +kernel)) rfl
theorem e54_43 : rf d 54 43 [some (.ref a), l1, l2, l3] s h = rf d 54 44 [some (.ref a), l1, l2, l3] (.ref a :: s) h := rf_pure (i := .aload_n 0) (len := 1) (okD_ok (by decide +kernel)) rfl
theorem e54_44 (ha : isT a) : rf d 54 44 ls (.ref a :: s) (SH n, I, L, R, nc, ns, nx) = rf d 54 47 ls (.int (I a 6) :: s) (SH n, I, L, R, nc, ns, nx) := g_I (idx := 36) (by decide +kernel) ow54 f_6_36 rfl (kdT0 ha) (geT ha)
theorem e54_47 : rf d 54 47 ls (.int y :: .int x :: s) h = if y ≤ x then rf d 54 86 ls s h else rf d 54 50 ls s h := g_ic (c := .ge) (off := 39) _ (by decide +kernel) rfl cmp_d
theorem e54_50 : rf d 54 50 [l0, l1, some (.int x), l3] s h = rf d 54 51 [l0, l1, some (.int x), l3] (.int x :: s) h := rf_pure (i := .iload_n 2) (len := 1) (okD_ok (by decide +kernel)) rfl
theorem e54_51 : rf d 54 51 ls s h = rf d 54 52 ls (.int 1 :: s) h := rf_pure (i := .iconst (1)) (len := 1) (okD_ok (by decide +kernel)) rfl
theorem e54_52 : rf d 54 52 [l0, l1, l2, some (.int x)] s h = rf d 54 53 [l0, l1, l2, some (.int x)] (.int x :: s) h := rf_pure (i := .iload_n 3) (len := 1) (okD_ok (by decide +kernel)) rfl
theorem e54_53 : rf d 54 53 ls (.int y :: .int x :: s) h = rf d 54 54 ls (.int (x <<< (y &&& 31)) :: s) h := rf_pure (i := .ishl) (len := 1) (okD_ok (by decide +kernel)) rfl
theorem e54_54 : rf d 54 54 [some (.ref a), l1, l2, l3] s h = rf d 54 55 [some (.ref a), l1, l2, l3] (.ref a :: s) h := rf_pure (i := .aload_n 0) (len := 1) (okD_ok (by decide +kernel)) rfl
theorem e54_55 (hR : LYR R) (ha : isT a) : rf d 54 55 ls (.ref a :: s) (SH n, I, L, R, nc, ns, nx) = rf d 54 58 ls (.ref (a + 4) :: s) (SH n, I, L, R, nc, ns, nx) := g_R (idx := 21) (by decide +kernel) ow54 f_6_21 rfl (kdT0 ha) (geT ha) (lyT3 hR ha)
theorem e54_58 : rf d 54 58 [l0, l1, l2, some (.int x)] s h = rf d 54 59 [l0, l1, l2, some (.int x)] (.int x :: s) h := rf_pure (i := .iload_n 3) (len := 1) (okD_ok (by decide +kernel)) rfl
theorem e54_59 (q : ia n a j) : rf d 54 59 ls (.int j :: .ref a :: s) (SH n, I, L, R, nc, ns, nx) = rf d 54 60 ls (.int (I a j.toNatClampNeg) :: s) (SH n, I, L, R, nc, ns, nx) := g_ial (by decide +kernel) q
theorem e54_60 : rf d 54 60 ls (.int y :: .int x :: s) h = rf d 54 61 ls (.int (x ||| y) :: s) h := rf_pure (i := .ior) (len := 1) (okD_ok (by decide +kernel)) rfl
theorem e54_61 : rf d 54 61 ls (.int y :: .int x :: s) h = rf d 54 62 ls (.int (x &&& y) :: s) h := rf_pure (i := .iand) (len := 1) (okD_ok (by decide +kernel)) rfl
theorem e54_62 : rf d 54 62 ls (.int x :: s) h = if x = 0 then rf d 54 80 ls s h else rf d 54 65 ls s h := g_if (c := .eq) (off := 18) _ (by decide +kernel) rfl cmp_d
theorem e54_65 : rf d 54 65 [some (.ref a), l1, l2, l3] s h = rf d 54 66 [some (.ref a), l1, l2, l3] (.ref a :: s) h := rf_pure (i := .aload_n 0) (len := 1) (okD_ok (by decide +kernel)) rfl
theorem e54_66 (hR : LYR R) (ha : isT a) : rf d 54 66 ls (.ref a :: s) (SH n, I, L, R, nc, ns, nx) = rf d 54 69 ls (.ref (a + 4) :: s) (SH n, I, L, R, nc, ns, nx) := g_R (idx := 21) (by decide +kernel) ow54 f_6_21 rfl (kdT0 ha) (geT ha) (lyT3 hR ha)
theorem e54_69 : rf d 54 69 [l0, l1, l2, some (.int x)] s h = rf d 54 70 [l0, l1, l2, some (.int x)] (.int x :: s) h := rf_pure (i := .iload_n 3) (len := 1) (okD_ok (by decide +kernel)) rfl
theorem e54_70 : rf d 54 70 ls (.int j :: .ref a :: s) h = rf d 54 71 ls (.int j :: .ref a :: .int j :: .ref a :: s) h := rf_pure (i := .dup2) (len := 1) (okD_ok (by decide +kernel)) rfl
theorem e54_71 (q : ia n a j) : rf d 54 71 ls (.int j :: .ref a :: s) (SH n, I, L, R, nc, ns, nx) = rf d 54 72 ls (.int (I a j.toNatClampNeg) :: s) (SH n, I, L, R, nc, ns, nx) := g_ial (by decide +kernel) q
theorem e54_72 : rf d 54 72 ls s h = rf d 54 73 ls (.int 1 :: s) h := rf_pure (i := .iconst (1)) (len := 1) (okD_ok (by decide +kernel)) rfl
theorem e54_73 : rf d 54 73 [some (.ref a), l1, l2, l3] s h = rf d 54 74 [some (.ref a), l1, l2, l3] (.ref a :: s) h := rf_pure (i := .aload_n 0) (len := 1) (okD_ok (by decide +kernel)) rfl
theorem e54_74 (ha : isT a) : rf d 54 74 ls (.ref a :: s) (SH n, I, L, R, nc, ns, nx) = rf d 54 77 ls (.int (I a 6) :: s) (SH n, I, L, R, nc, ns, nx) := g_I (idx := 36) (by decide +kernel) ow54 f_6_36 rfl (kdT0 ha) (geT ha)
theorem e54_77 : rf d 54 77 ls (.int y :: .int x :: s) h = rf d 54 78 ls (.int (x <<< (y &&& 31)) :: s) h := rf_pure (i := .ishl) (len := 1) (okD_ok (by decide +kernel)) rfl
theorem e54_78 : rf d 54 78 ls (.int y :: .int x :: s) h = rf d 54 79 ls (.int (x ||| y) :: s) h := rf_pure (i := .ior) (len := 1) (okD_ok (by decide +kernel)) rfl
theorem e54_79 (q : ia n a j) : rf d 54 79 ls (.int x :: .int j :: .ref a :: s) (SH n, I, L, R, nc, ns, nx) = rf d 54 80 ls s (SH n, ip_up I a j.toNatClampNeg x, L, R, nc, ns, nx) := g_ias (by decide +kernel) q
theorem e54_80 (hn : ip_nl l2 = true) : rf d 54 80 [l0, l1, l2, some (.int x)] s h = rf d 54 83 [l0, l1, l2, some (.int (x + 1))] s h := g_inc (q := 2) (z := 1) (w := 1) (x := x) (by decide) (by decide +kernel) rfl rfl hn
theorem e54_83 : rf d 54 83 ls s h = rf d 54 42 ls s h := rf_goto ⟨okD_ok (i := .goto (-41)) (len := 3) (by decide +kernel), rfl⟩
theorem e54_86 : rf d 54 86 [some (.ref a), l1, l2, l3] s h = rf d 54 87 [some (.ref a), l1, l2, l3] (.ref a :: s) h := rf_pure (i := .aload_n 0) (len := 1) (okD_ok (by decide +kernel)) rfl
theorem e54_87 : rf d 54 87 ls (.int x :: s) h = rf d 54 88 ls (.int x :: .int x :: s) h := rf_pure (i := .dup) (len := 1) (okD_ok (by decide +kernel)) rfl
theorem e54_87r : rf d 54 87 ls (.ref a :: s) h = rf d 54 88 ls (.ref a :: .ref a :: s) h := rf_pure (i := .dup) (len := 1) (okD_ok (by decide +kernel)) rfl
theorem e54_88 (ha : isT a) : rf d 54 88 ls (.ref a :: s) (SH n, I, L, R, nc, ns, nx) = rf d 54 91 ls (.int (I a 6) :: s) (SH n, I, L, R, nc, ns, nx) := g_I (idx := 36) (by decide +kernel) ow54 f_6_36 rfl (kdT0 ha) (geT ha)
theorem e54_91 : rf d 54 91 ls s h = rf d 54 92 ls (.int 1 :: s) h := rf_pure (i := .iconst (1)) (len := 1) (okD_ok (by decide +kernel)) rfl
theorem e54_92 : rf d 54 92 ls (.int y :: .int x :: s) h = rf d 54 93 ls (.int (x + y) :: s) h := rf_pure (i := .iadd) (len := 1) (okD_ok (by decide +kernel)) rfl
theorem e54_93 (ha : isT a) : rf d 54 93 ls (.int x :: .ref a :: s) (SH n, I, L, R, nc, ns, nx) = rf d 54 96 ls s (SH n, ip_up I a 6 x, L, R, nc, ns, nx) := g_pI (idx := 36) (by decide +kernel) ow54 f_6_36 rfl (by decide +kernel) (kdT0 ha) (geT ha)
theorem e54_96 : rf d 54 96 ls [] h = some (.inl none, h) := g_rv (by decide +kernel) rt54
theorem en55 : cf d 55 [.ref a] h = rf d 55 0 [some (.ref a), none, none] [] h := rfl
theorem e55_0 : rf d 55 0 [some (.ref a), l1, l2] s h = rf d 55 1 [some (.ref a), l1, l2] (.ref a :: s) h := rf_pure (i := .aload_n 0) (len := 1) (okD_ok (by decide +kernel)) rfl
theorem e55_1 (hcat : ip_cat s ≤ 8) : rf (d + 1) 55 1 ls (.ref 4 :: s) (SH n, I, L, R, nc, ns, nx) = rf_k (d + 1) 55 1 ls s (cf d 40 [.ref 4] (SH n, I, L, R, nc, ns, nx)) := g_cv (idx := 48) (t := 4) [] (by decide +kernel) ow55 ms_4_48 mt_4_48 cy40_4 rfl rfl mL40 rfl rfl (by decide) hcat
theorem e55_4 : rf d 55 4 [some (.ref a), l1, l2] s h = rf d 55 5 [some (.ref a), l1, l2] (.ref a :: s) h := rf_pure (i := .aload_n 0) (len := 1) (okD_ok (by decide +kernel)) rfl
theorem e55_5 : rf d 55 5 ls (.ref 4 :: s) (SH n, I, L, R, nc, ns, nx) = rf d 55 8 ls (.int (I 4 6) :: s) (SH n, I, L, R, nc, ns, nx) := g_I (idx := 51) (by decide +kernel) ow55 f_4_51 rfl rfl (by decide)
theorem e55_8 : rf d 55 8 ls s h = rf d 55 10 ls (.int 6 :: s) h := rf_pure (i := .bipush (6)) (len := 2) (okD_ok (by decide +kernel)) rfl
theorem e55_10 : rf d 55 10 ls (.int y :: .int x :: s) h = if x = y then rf d 55 24 ls s h else rf d 55 13 ls s h := g_ic (c := .eq) (off := 14) _ (by decide +kernel) rfl cmp_d
theorem e55_13 : rf d 55 13 [some (.ref a), l1, l2] s h = rf d 55 14 [some (.ref a), l1, l2] (.ref a :: s) h := rf_pure (i := .aload_n 0) (len := 1) (okD_ok (by decide +kernel)) rfl
theorem e55_14 : rf d 55 14 ls (.ref 4 :: s) (SH n, I, L, R, nc, ns, nx) = rf d 55 17 ls (.int (I 4 6) :: s) (SH n, I, L, R, nc, ns, nx) := g_I (idx := 51) (by decide +kernel) ow55 f_4_51 rfl rfl (by decide)
theorem e55_17 : rf d 55 17 ls s h = rf d 55 19 ls (.int 7 :: s) h := rf_pure (i := .bipush (7)) (len := 2) (okD_ok (by decide +kernel)) rfl
theorem e55_19 : rf d 55 19 ls (.int y :: .int x :: s) h = if x = y then rf d 55 24 ls s h else rf d 55 22 ls s h := g_ic (c := .eq) (off := 5) _ (by decide +kernel) rfl cmp_d
theorem e55_22 : rf d 55 22 ls s h = rf d 55 23 ls (.int 0 :: s) h := rf_pure (i := .iconst (0)) (len := 1) (okD_ok (by decide +kernel)) rfl
theorem e55_23 (hx : x = 0 ∨ x = 1) : rf d 55 23 ls [.int x] h = some (.inl (some (.int x)), h) := g_rz (by decide +kernel) rt55 hx
theorem e55_24 : rf d 55 24 [some (.ref a), l1, l2] s h = rf d 55 25 [some (.ref a), l1, l2] (.ref a :: s) h := rf_pure (i := .aload_n 0) (len := 1) (okD_ok (by decide +kernel)) rfl
theorem e55_25 : rf d 55 25 ls (.ref 4 :: s) (SH n, I, L, R, nc, ns, nx) = rf d 55 28 ls (.int (I 4 6) :: s) (SH n, I, L, R, nc, ns, nx) := g_I (idx := 51) (by decide +kernel) ow55 f_4_51 rfl rfl (by decide)
theorem e55_28 : rf d 55 28 ls s h = rf d 55 30 ls (.int 6 :: s) h := rf_pure (i := .bipush (6)) (len := 2) (okD_ok (by decide +kernel)) rfl
theorem e55_30 : rf d 55 30 ls (.int y :: .int x :: s) h = rf d 55 31 ls (.int (x - y) :: s) h := rf_pure (i := .isub) (len := 1) (okD_ok (by decide +kernel)) rfl
theorem e55_31 : rf d 55 31 ls s h = rf d 55 32 ls (.int 3 :: s) h := rf_pure (i := .iconst (3)) (len := 1) (okD_ok (by decide +kernel)) rfl
theorem e55_32 : rf d 55 32 ls (.int y :: .int x :: s) h = rf d 55 33 ls (.int (x * y) :: s) h := rf_pure (i := .imul) (len := 1) (okD_ok (by decide +kernel)) rfl
theorem e55_33 (hn : ip_nl l0 = true) : rf d 55 33 [l0, l1, l2] (.int x :: s) h = rf d 55 34 [l0, some (.int x), l2] s h := g_sti (i := .istore_n 1) (len := 1) (q := 0) (p := 1) (by decide +kernel) rfl rfl hn
theorem e55_34 : rf d 55 34 [some (.ref a), l1, l2] s h = rf d 55 35 [some (.ref a), l1, l2] (.ref a :: s) h := rf_pure (i := .aload_n 0) (len := 1) (okD_ok (by decide +kernel)) rfl
theorem e55_35 (hcat : ip_cat s ≤ 8) : rf (d + 1) 55 35 ls (.ref 4 :: s) (SH n, I, L, R, nc, ns, nx) = rf_k (d + 1) 55 35 ls s (cf d 40 [.ref 4] (SH n, I, L, R, nc, ns, nx)) := g_cv (idx := 48) (t := 4) [] (by decide +kernel) ow55 ms_4_48 mt_4_48 cy40_4 rfl rfl mL40 rfl rfl (by decide) hcat
theorem e55_38 : rf d 55 38 ls s h = rf d 55 39 ls (.int 0 :: s) h := rf_pure (i := .iconst (0)) (len := 1) (okD_ok (by decide +kernel)) rfl
theorem e55_39 (hn : ip_nl l1 = true) : rf d 55 39 [l0, l1, l2] (.int x :: s) h = rf d 55 40 [l0, l1, some (.int x)] s h := g_sti (i := .istore_n 2) (len := 1) (q := 1) (p := 1) (by decide +kernel) rfl rfl hn
theorem e55_40 : rf d 55 40 [l0, l1, some (.int x)] s h = rf d 55 41 [l0, l1, some (.int x)] (.int x :: s) h := rf_pure (i := .iload_n 2) (len := 1) (okD_ok (by decide +kernel)) rfl
theorem e55_41 : rf d 55 41 ls s h = rf d 55 42 ls (.int 3 :: s) h := rf_pure (i := .iconst (3)) (len := 1) (okD_ok (by decide +kernel)) rfl
theorem e55_42 : rf d 55 42 ls (.int y :: .int x :: s) h = if y ≤ x then rf d 55 89 ls s h else rf d 55 45 ls s h := g_ic (c := .ge) (off := 47) _ (by decide +kernel) rfl cmp_d
theorem e55_45 : rf d 55 45 [some (.ref a), l1, l2] s h = rf d 55 46 [some (.ref a), l1, l2] (.ref a :: s) h := rf_pure (i := .aload_n 0) (len := 1) (okD_ok (by decide +kernel)) rfl
theorem e55_46 : rf d 55 46 ls (.ref 4 :: s) (SH n, I, L, R, nc, ns, nx) = rf d 55 49 ls (.int (I 4 6) :: s) (SH n, I, L, R, nc, ns, nx) := g_I (idx := 51) (by decide +kernel) ow55 f_4_51 rfl rfl (by decide)
theorem e55_49 : rf d 55 49 ls s h = rf d 55 51 ls (.int 14 :: s) h := rf_pure (i := .bipush (14)) (len := 2) (okD_ok (by decide +kernel)) rfl
theorem e55_51 : rf d 55 51 ls (.int y :: .int x :: s) h = if x = y then rf d 55 56 ls s h else rf d 55 54 ls s h := g_ic (c := .eq) (off := 5) _ (by decide +kernel) rfl cmp_d
theorem e55_54 : rf d 55 54 ls s h = rf d 55 55 ls (.int 0 :: s) h := rf_pure (i := .iconst (0)) (len := 1) (okD_ok (by decide +kernel)) rfl
theorem e55_55 (hx : x = 0 ∨ x = 1) : rf d 55 55 ls [.int x] h = some (.inl (some (.int x)), h) := g_rz (by decide +kernel) rt55 hx
theorem e55_56 : rf d 55 56 [some (.ref a), l1, l2] s h = rf d 55 57 [some (.ref a), l1, l2] (.ref a :: s) h := rf_pure (i := .aload_n 0) (len := 1) (okD_ok (by decide +kernel)) rfl
theorem e55_57 : rf d 55 57 ls (.ref 4 :: s) (SH n, I, L, R, nc, ns, nx) = rf d 55 60 ls (ip_rf (R 4 2) :: s) (SH n, I, L, R, nc, ns, nx) := g_R (idx := 25) (by decide +kernel) ow55 f_4_25 rfl rfl (by decide) rfl
theorem e55_60 (hR : LYR R) (ha : isT a) : rf d 55 60 ls (.ref a :: s) (SH n, I, L, R, nc, ns, nx) = rf d 55 63 ls (.ref (a + 5) :: s) (SH n, I, L, R, nc, ns, nx) := g_R (idx := 95) (by decide +kernel) ow55 f_4_95 rfl (kdT0 ha) (geT ha) (lyT4 hR ha)
theorem e55_63 : rf d 55 63 [l0, some (.int x), l2] s h = rf d 55 64 [l0, some (.int x), l2] (.int x :: s) h := rf_pure (i := .iload_n 1) (len := 1) (okD_ok (by decide +kernel)) rfl
theorem e55_64 : rf d 55 64 [l0, l1, some (.int x)] s h = rf d 55 65 [l0, l1, some (.int x)] (.int x :: s) h := rf_pure (i := .iload_n 2) (len := 1) (okD_ok (by decide +kernel)) rfl
theorem e55_65 : rf d 55 65 ls (.int y :: .int x :: s) h = rf d 55 66 ls (.int (x + y) :: s) h := rf_pure (i := .iadd) (len := 1) (okD_ok (by decide +kernel)) rfl
theorem e55_66 : rf d 55 66 [some (.ref a), l1, l2] s h = rf d 55 67 [some (.ref a), l1, l2] (.ref a :: s) h := rf_pure (i := .aload_n 0) (len := 1) (okD_ok (by decide +kernel)) rfl
theorem e55_67 : rf d 55 67 ls (.ref 4 :: s) (SH n, I, L, R, nc, ns, nx) = rf d 55 70 ls (ip_rf (R 4 1) :: s) (SH n, I, L, R, nc, ns, nx) := g_R (idx := 18) (by decide +kernel) ow55 f_4_18 rfl rfl (by decide) rfl
theorem e55_70 : rf d 55 70 [some (.ref a), l1, l2] s h = rf d 55 71 [some (.ref a), l1, l2] (.ref a :: s) h := rf_pure (i := .aload_n 0) (len := 1) (okD_ok (by decide +kernel)) rfl
theorem e55_71 : rf d 55 71 ls (.ref 4 :: s) (SH n, I, L, R, nc, ns, nx) = rf d 55 74 ls (.int (I 4 5) :: s) (SH n, I, L, R, nc, ns, nx) := g_I (idx := 71) (by decide +kernel) ow55 f_4_71 rfl rfl (by decide)
theorem e55_74 (q : ia n a j) : rf d 55 74 ls (.int j :: .ref a :: s) (SH n, I, L, R, nc, ns, nx) = rf d 55 75 ls (.int (I a j.toNatClampNeg) :: s) (SH n, I, L, R, nc, ns, nx) := g_ial (by decide +kernel) q
theorem e55_75 : rf d 55 75 ls s h = rf d 55 77 ls (.int 48 :: s) h := rf_pure (i := .bipush (48)) (len := 2) (okD_ok (by decide +kernel)) rfl
theorem e55_77 : rf d 55 77 ls (.int y :: .int x :: s) h = rf d 55 78 ls (.int (x - y) :: s) h := rf_pure (i := .isub) (len := 1) (okD_ok (by decide +kernel)) rfl
theorem e55_78 (q : ia n a j) : rf d 55 78 ls (.int x :: .int j :: .ref a :: s) (SH n, I, L, R, nc, ns, nx) = rf d 55 79 ls s (SH n, ip_up I a j.toNatClampNeg x, L, R, nc, ns, nx) := g_ias (by decide +kernel) q
theorem e55_79 : rf d 55 79 [some (.ref a), l1, l2] s h = rf d 55 80 [some (.ref a), l1, l2] (.ref a :: s) h := rf_pure (i := .aload_n 0) (len := 1) (okD_ok (by decide +kernel)) rfl
theorem e55_80 (hcat : ip_cat s ≤ 8) : rf (d + 1) 55 80 ls (.ref 4 :: s) (SH n, I, L, R, nc, ns, nx) = rf_k (d + 1) 55 80 ls s (cf d 40 [.ref 4] (SH n, I, L, R, nc, ns, nx)) := g_cv (idx := 48) (t := 4) [] (by decide +kernel) ow55 ms_4_48 mt_4_48 cy40_4 rfl rfl mL40 rfl rfl (by decide) hcat
theorem e55_83 (hn : ip_nl l1 = true) : rf d 55 83 [l0, l1, some (.int x)] s h = rf d 55 86 [l0, l1, some (.int (x + 1))] s h := g_inc (q := 1) (z := 1) (w := 1) (x := x) (by decide) (by decide +kernel) rfl rfl hn
theorem e55_86 : rf d 55 86 ls s h = rf d 55 40 ls s h := rf_goto ⟨okD_ok (i := .goto (-46)) (len := 3) (by decide +kernel), rfl⟩
theorem e55_89 : rf d 55 89 [some (.ref a), l1, l2] s h = rf d 55 90 [some (.ref a), l1, l2] (.ref a :: s) h := rf_pure (i := .aload_n 0) (len := 1) (okD_ok (by decide +kernel)) rfl
theorem e55_90 : rf d 55 90 ls s h = rf d 55 92 ls (.int 59 :: s) h := rf_pure (i := .bipush (59)) (len := 2) (okD_ok (by decide +kernel)) rfl
theorem e55_92 (hcat : ip_cat s ≤ 8) : rf (d + 1) 55 92 ls (.int x0 :: .ref 4 :: s) (SH n, I, L, R, nc, ns, nx) = rf_k (d + 1) 55 92 ls s (cf d 53 [.ref 4, .int x0] (SH n, I, L, R, nc, ns, nx)) := g_cv (idx := 84) (t := 4) [.int x0] (by decide +kernel) ow55 ms_4_84 mt_4_84 cy53_4 rfl rfl mL53 rfl rfl (by decide) hcat
theorem e55_95 (hx : x = 0 ∨ x = 1) : rf d 55 95 ls [.int x] h = some (.inl (some (.int x)), h) := g_rz (by decide +kernel) rt55 hx
theorem en56 : cf d 56 [.ref a] h = rf d 56 0 [some (.ref a)] [] h := rfl
theorem e56_0 : rf d 56 0 [some (.ref a)] s h = rf d 56 1 [some (.ref a)] (.ref a :: s) h := rf_pure (i := .aload_n 0) (len := 1) (okD_ok (by decide +kernel)) rfl
theorem e56_1 (hcat : ip_cat s ≤ 8) : rf (d + 1) 56 1 ls (.ref 4 :: s) (SH n, I, L, R, nc, ns, nx) = rf_k (d + 1) 56 1 ls s (cf d 40 [.ref 4] (SH n, I, L, R, nc, ns, nx)) := g_cv (idx := 48) (t := 4) [] (by decide +kernel) ow56 ms_4_48 mt_4_48 cy40_4 rfl rfl mL40 rfl rfl (by decide) hcat
theorem e56_4 : rf d 56 4 [some (.ref a)] s h = rf d 56 5 [some (.ref a)] (.ref a :: s) h := rf_pure (i := .aload_n 0) (len := 1) (okD_ok (by decide +kernel)) rfl
theorem e56_5 : rf d 56 5 ls s h = rf d 56 6 ls (.int 0 :: s) h := rf_pure (i := .iconst (0)) (len := 1) (okD_ok (by decide +kernel)) rfl
theorem e56_6 (hcat : ip_cat s ≤ 8) : rf (d + 1) 56 6 ls (.int x0 :: .ref 4 :: s) (SH n, I, L, R, nc, ns, nx) = rf_k (d + 1) 56 6 ls s (cf d 57 [.ref 4, .int x0] (SH n, I, L, R, nc, ns, nx)) := g_cv (idx := 98) (t := 4) [.int x0] (by decide +kernel) ow56 ms_4_98 mt_4_98 cy57_4 rfl rfl mL57 rfl rfl (by decide) hcat
theorem e56_9 : rf d 56 9 ls (.int x :: s) h = if x = 0 then rf d 56 21 ls s h else rf d 56 12 ls s h := g_if (c := .eq) (off := 12) _ (by decide +kernel) rfl cmp_d
theorem e56_12 : rf d 56 12 [some (.ref a)] s h = rf d 56 13 [some (.ref a)] (.ref a :: s) h := rf_pure (i := .aload_n 0) (len := 1) (okD_ok (by decide +kernel)) rfl
theorem e56_13 : rf d 56 13 ls s h = rf d 56 15 ls (.int 59 :: s) h := rf_pure (i := .bipush (59)) (len := 2) (okD_ok (by decide +kernel)) rfl
theorem e56_15 (hcat : ip_cat s ≤ 8) : rf (d + 1) 56 15 ls (.int x0 :: .ref 4 :: s) (SH n, I, L, R, nc, ns, nx) = rf_k (d + 1) 56 15 ls s (cf d 53 [.ref 4, .int x0] (SH n, I, L, R, nc, ns, nx)) := g_cv (idx := 84) (t := 4) [.int x0] (by decide +kernel) ow56 ms_4_84 mt_4_84 cy53_4 rfl rfl mL53 rfl rfl (by decide) hcat
theorem e56_18 : rf d 56 18 ls (.int x :: s) h = if ¬ x = 0 then rf d 56 23 ls s h else rf d 56 21 ls s h := g_if (c := .ne) (off := 5) _ (by decide +kernel) rfl cmp_d
theorem e56_21 : rf d 56 21 ls s h = rf d 56 22 ls (.int 0 :: s) h := rf_pure (i := .iconst (0)) (len := 1) (okD_ok (by decide +kernel)) rfl
theorem e56_22 (hx : x = 0 ∨ x = 1) : rf d 56 22 ls [.int x] h = some (.inl (some (.int x)), h) := g_rz (by decide +kernel) rt56 hx
theorem e56_23 : rf d 56 23 [some (.ref a)] s h = rf d 56 24 [some (.ref a)] (.ref a :: s) h := rf_pure (i := .aload_n 0) (len := 1) (okD_ok (by decide +kernel)) rfl
theorem e56_24 : rf d 56 24 ls (.ref 4 :: s) (SH n, I, L, R, nc, ns, nx) = rf d 56 27 ls (ip_rf (R 4 2) :: s) (SH n, I, L, R, nc, ns, nx) := g_R (idx := 25) (by decide +kernel) ow56 f_4_25 rfl rfl (by decide) rfl
theorem e56_27 : rf d 56 27 ls s h = rf d 56 28 ls (.int 1 :: s) h := rf_pure (i := .iconst (1)) (len := 1) (okD_ok (by decide +kernel)) rfl
theorem e56_28 (ha : isT a) (hx : x = 0 ∨ x = 1) : rf d 56 28 ls (.int x :: .ref a :: s) (SH n, I, L, R, nc, ns, nx) = rf d 56 31 ls s (SH n, ip_up I a 8 x, L, R, nc, ns, nx) := g_pZ (idx := 64) (by decide +kernel) ow56 f_4_64 rfl (by decide +kernel) (kdT0 ha) (geT ha) hx
theorem e56_31 : rf d 56 31 [some (.ref a)] s h = rf d 56 32 [some (.ref a)] (.ref a :: s) h := rf_pure (i := .aload_n 0) (len := 1) (okD_ok (by decide +kernel)) rfl
theorem e56_32 (hR : LYR R) : rf d 56 32 ls (.ref 4 :: s) (SH n, I, L, R, nc, ns, nx) = rf d 56 35 ls (.ref 5 :: s) (SH n, I, L, R, nc, ns, nx) := g_R (idx := 12) (by decide +kernel) ow56 f_4_12 rfl rfl (by decide) (ly_4_0 hR)
theorem e56_35 : rf d 56 35 [some (.ref a)] s h = rf d 56 36 [some (.ref a)] (.ref a :: s) h := rf_pure (i := .aload_n 0) (len := 1) (okD_ok (by decide +kernel)) rfl
theorem e56_36 : rf d 56 36 ls (.ref 4 :: s) (SH n, I, L, R, nc, ns, nx) = rf d 56 39 ls (ip_rf (R 4 2) :: s) (SH n, I, L, R, nc, ns, nx) := g_R (idx := 25) (by decide +kernel) ow56 f_4_25 rfl rfl (by decide) rfl
theorem e56_39 (hR : LYR R) (ha : isT a) : rf d 56 39 ls (.ref a :: s) (SH n, I, L, R, nc, ns, nx) = rf d 56 42 ls (.ref (a + 6) :: s) (SH n, I, L, R, nc, ns, nx) := g_R (idx := 101) (by decide +kernel) ow56 f_4_101 rfl (kdT0 ha) (geT ha) (lyT5 hR ha)
theorem e56_42 (hcat : ip_cat s ≤ 8) : rf (d + 1) 56 42 ls (.ref a0 :: .ref 5 :: s) (SH n, I, L, R, nc, ns, nx) = rf_k (d + 1) 56 42 ls s (cf d 71 [.ref 5, .ref a0] (SH n, I, L, R, nc, ns, nx)) := g_cv (idx := 105) (t := 5) [.ref a0] (by decide +kernel) ow56 ms_4_105 mt_4_105 cy71_5 rfl rfl mL71 rfl rfl (by decide) hcat
theorem e56_45 : rf d 56 45 ls s h = rf d 56 46 ls (.int 1 :: s) h := rf_pure (i := .iconst (1)) (len := 1) (okD_ok (by decide +kernel)) rfl
theorem e56_46 (hx : x = 0 ∨ x = 1) : rf d 56 46 ls [.int x] h = some (.inl (some (.int x)), h) := g_rz (by decide +kernel) rt56 hx
theorem en57 : cf d 57 [.ref a, .int x0] h = rf d 57 0 [some (.ref a), some (.int x0), none] [] h := rfl
theorem e57_0 : rf d 57 0 [some (.ref a), l1, l2] s h = rf d 57 1 [some (.ref a), l1, l2] (.ref a :: s) h := rf_pure (i := .aload_n 0) (len := 1) (okD_ok (by decide +kernel)) rfl
theorem e57_1 : rf d 57 1 [l0, some (.int x), l2] s h = rf d 57 2 [l0, some (.int x), l2] (.int x :: s) h := rf_pure (i := .iload_n 1) (len := 1) (okD_ok (by decide +kernel)) rfl
theorem e57_2 (hcat : ip_cat s ≤ 8) : rf (d + 1) 57 2 ls (.int x0 :: .ref 4 :: s) (SH n, I, L, R, nc, ns, nx) = rf_k (d + 1) 57 2 ls s (cf d 58 [.ref 4, .int x0] (SH n, I, L, R, nc, ns, nx)) := g_cv (idx := 109) (t := 4) [.int x0] (by decide +kernel) ow57 ms_4_109 mt_4_109 cy58_4 rfl rfl mL58 rfl rfl (by decide) hcat
theorem e57_5 : rf d 57 5 ls (.int x :: s) h = if ¬ x = 0 then rf d 57 10 ls s h else rf d 57 8 ls s h := g_if (c := .ne) (off := 5) _ (by decide +kernel) rfl cmp_d
theorem e57_8 : rf d 57 8 ls s h = rf d 57 9 ls (.int 0 :: s) h := rf_pure (i := .iconst (0)) (len := 1) (okD_ok (by decide +kernel)) rfl
theorem e57_9 (hx : x = 0 ∨ x = 1) : rf d 57 9 ls [.int x] h = some (.inl (some (.int x)), h) := g_rz (by decide +kernel) rt57 hx
theorem e57_10 : rf d 57 10 ls s h = rf d 57 11 ls (.int 0 :: s) h := rf_pure (i := .iconst (0)) (len := 1) (okD_ok (by decide +kernel)) rfl
theorem e57_11 (hn : ip_nl l1 = true) : rf d 57 11 [l0, l1, l2] (.int x :: s) h = rf d 57 12 [l0, l1, some (.int x)] s h := g_sti (i := .istore_n 2) (len := 1) (q := 1) (p := 1) (by decide +kernel) rfl rfl hn
theorem e57_12 : rf d 57 12 [l0, l1, some (.int x)] s h = rf d 57 13 [l0, l1, some (.int x)] (.int x :: s) h := rf_pure (i := .iload_n 2) (len := 1) (okD_ok (by decide +kernel)) rfl
theorem e57_13 : rf d 57 13 ls s h = rf d 57 16 ls (.int 400 :: s) h := rf_pure (i := .sipush (400)) (len := 3) (okD_ok (by decide +kernel)) rfl
theorem e57_16 : rf d 57 16 ls (.int y :: .int x :: s) h = if y ≤ x then rf d 57 56 ls s h else rf d 57 19 ls s h := g_ic (c := .ge) (off := 40) _ (by decide +kernel) rfl cmp_d
theorem e57_19 : rf d 57 19 [some (.ref a), l1, l2] s h = rf d 57 20 [some (.ref a), l1, l2] (.ref a :: s) h := rf_pure (i := .aload_n 0) (len := 1) (okD_ok (by decide +kernel)) rfl
theorem e57_20 : rf d 57 20 ls (.ref 4 :: s) (SH n, I, L, R, nc, ns, nx) = rf d 57 23 ls (.int (I 4 6) :: s) (SH n, I, L, R, nc, ns, nx) := g_I (idx := 51) (by decide +kernel) ow57 f_4_51 rfl rfl (by decide)
theorem e57_23 : rf d 57 23 ls s h = rf d 57 25 ls (.int 9 :: s) h := rf_pure (i := .bipush (9)) (len := 2) (okD_ok (by decide +kernel)) rfl
theorem e57_25 : rf d 57 25 ls (.int y :: .int x :: s) h = if ¬ x = y then rf d 57 56 ls s h else rf d 57 28 ls s h := g_ic (c := .ne) (off := 31) _ (by decide +kernel) rfl cmp_d
theorem e57_28 : rf d 57 28 [some (.ref a), l1, l2] s h = rf d 57 29 [some (.ref a), l1, l2] (.ref a :: s) h := rf_pure (i := .aload_n 0) (len := 1) (okD_ok (by decide +kernel)) rfl
theorem e57_29 (hcat : ip_cat s ≤ 8) : rf (d + 1) 57 29 ls (.ref 4 :: s) (SH n, I, L, R, nc, ns, nx) = rf_k (d + 1) 57 29 ls s (cf d 40 [.ref 4] (SH n, I, L, R, nc, ns, nx)) := g_cv (idx := 48) (t := 4) [] (by decide +kernel) ow57 ms_4_48 mt_4_48 cy40_4 rfl rfl mL40 rfl rfl (by decide) hcat
theorem e57_32 : rf d 57 32 [some (.ref a), l1, l2] s h = rf d 57 33 [some (.ref a), l1, l2] (.ref a :: s) h := rf_pure (i := .aload_n 0) (len := 1) (okD_ok (by decide +kernel)) rfl
theorem e57_33 : rf d 57 33 [l0, some (.int x), l2] s h = rf d 57 34 [l0, some (.int x), l2] (.int x :: s) h := rf_pure (i := .iload_n 1) (len := 1) (okD_ok (by decide +kernel)) rfl
theorem e57_34 (hcat : ip_cat s ≤ 8) : rf (d + 1) 57 34 ls (.int x0 :: .ref 4 :: s) (SH n, I, L, R, nc, ns, nx) = rf_k (d + 1) 57 34 ls s (cf d 58 [.ref 4, .int x0] (SH n, I, L, R, nc, ns, nx)) := g_cv (idx := 109) (t := 4) [.int x0] (by decide +kernel) ow57 ms_4_109 mt_4_109 cy58_4 rfl rfl mL58 rfl rfl (by decide) hcat
theorem e57_37 : rf d 57 37 ls (.int x :: s) h = if ¬ x = 0 then rf d 57 42 ls s h else rf d 57 40 ls s h := g_if (c := .ne) (off := 5) _ (by decide +kernel) rfl cmp_d
theorem e57_40 : rf d 57 40 ls s h = rf d 57 41 ls (.int 0 :: s) h := rf_pure (i := .iconst (0)) (len := 1) (okD_ok (by decide +kernel)) rfl
theorem e57_41 (hx : x = 0 ∨ x = 1) : rf d 57 41 ls [.int x] h = some (.inl (some (.int x)), h) := g_rz (by decide +kernel) rt57 hx
theorem e57_42 : rf d 57 42 [some (.ref a), l1, l2] s h = rf d 57 43 [some (.ref a), l1, l2] (.ref a :: s) h := rf_pure (i := .aload_n 0) (len := 1) (okD_ok (by decide +kernel)) rfl
theorem e57_43 (hR : LYR R) : rf d 57 43 ls (.ref 4 :: s) (SH n, I, L, R, nc, ns, nx) = rf d 57 46 ls (.ref 5 :: s) (SH n, I, L, R, nc, ns, nx) := g_R (idx := 12) (by decide +kernel) ow57 f_4_12 rfl rfl (by decide) (ly_4_0 hR)
theorem e57_46 : rf d 57 46 ls s h = rf d 57 47 ls (.int 0 :: s) h := rf_pure (i := .iconst (0)) (len := 1) (okD_ok (by decide +kernel)) rfl
theorem e57_47 (hcat : ip_cat s ≤ 8) : rf (d + 1) 57 47 ls (.int x0 :: .ref 5 :: s) (SH n, I, L, R, nc, ns, nx) = rf_k (d + 1) 57 47 ls s (cf d 70 [.ref 5, .int x0] (SH n, I, L, R, nc, ns, nx)) := g_cv (idx := 112) (t := 5) [.int x0] (by decide +kernel) ow57 ms_4_112 mt_4_112 cy70_5 rfl rfl mL70 rfl rfl (by decide) hcat
theorem e57_50 (hn : ip_nl l1 = true) : rf d 57 50 [l0, l1, some (.int x)] s h = rf d 57 53 [l0, l1, some (.int (x + 1))] s h := g_inc (q := 1) (z := 1) (w := 1) (x := x) (by decide) (by decide +kernel) rfl rfl hn
theorem e57_53 : rf d 57 53 ls s h = rf d 57 12 ls s h := rf_goto ⟨okD_ok (i := .goto (-41)) (len := 3) (by decide +kernel), rfl⟩
theorem e57_56 : rf d 57 56 ls s h = rf d 57 57 ls (.int 1 :: s) h := rf_pure (i := .iconst (1)) (len := 1) (okD_ok (by decide +kernel)) rfl
theorem e57_57 (hx : x = 0 ∨ x = 1) : rf d 57 57 ls [.int x] h = some (.inl (some (.int x)), h) := g_rz (by decide +kernel) rt57 hx
theorem en58 : cf d 58 [.ref a, .int x0] h = rf d 58 0 [some (.ref a), some (.int x0), none] [] h := rfl
theorem e58_0 : rf d 58 0 [some (.ref a), l1, l2] s h = rf d 58 1 [some (.ref a), l1, l2] (.ref a :: s) h := rf_pure (i := .aload_n 0) (len := 1) (okD_ok (by decide +kernel)) rfl
theorem e58_1 : rf d 58 1 [l0, some (.int x), l2] s h = rf d 58 2 [l0, some (.int x), l2] (.int x :: s) h := rf_pure (i := .iload_n 1) (len := 1) (okD_ok (by decide +kernel)) rfl
theorem e58_2 (hcat : ip_cat s ≤ 8) : rf (d + 1) 58 2 ls (.int x0 :: .ref 4 :: s) (SH n, I, L, R, nc, ns, nx) = rf_k (d + 1) 58 2 ls s (cf d 59 [.ref 4, .int x0] (SH n, I, L, R, nc, ns, nx)) := g_cv (idx := 116) (t := 4) [.int x0] (by decide +kernel) ow58 ms_4_116 mt_4_116 cy59_4 rfl rfl mL59 rfl rfl (by decide) hcat
theorem e58_5 : rf d 58 5 ls (.int x :: s) h = if ¬ x = 0 then rf d 58 10 ls s h else rf d 58 8 ls s h := g_if (c := .ne) (off := 5) _ (by decide +kernel) rfl cmp_d
theorem e58_8 : rf d 58 8 ls s h = rf d 58 9 ls (.int 0 :: s) h := rf_pure (i := .iconst (0)) (len := 1) (okD_ok (by decide +kernel)) rfl
theorem e58_9 (hx : x = 0 ∨ x = 1) : rf d 58 9 ls [.int x] h = some (.inl (some (.int x)), h) := g_rz (by decide +kernel) rt58 hx
theorem e58_10 : rf d 58 10 ls s h = rf d 58 11 ls (.int 0 :: s) h := rf_pure (i := .iconst (0)) (len := 1) (okD_ok (by decide +kernel)) rfl
theorem e58_11 (hn : ip_nl l1 = true) : rf d 58 11 [l0, l1, l2] (.int x :: s) h = rf d 58 12 [l0, l1, some (.int x)] s h := g_sti (i := .istore_n 2) (len := 1) (q := 1) (p := 1) (by decide +kernel) rfl rfl hn
theorem e58_12 : rf d 58 12 [l0, l1, some (.int x)] s h = rf d 58 13 [l0, l1, some (.int x)] (.int x :: s) h := rf_pure (i := .iload_n 2) (len := 1) (okD_ok (by decide +kernel)) rfl
theorem e58_13 : rf d 58 13 ls s h = rf d 58 16 ls (.int 400 :: s) h := rf_pure (i := .sipush (400)) (len := 3) (okD_ok (by decide +kernel)) rfl
theorem e58_16 : rf d 58 16 ls (.int y :: .int x :: s) h = if y ≤ x then rf d 58 56 ls s h else rf d 58 19 ls s h := g_ic (c := .ge) (off := 40) _ (by decide +kernel) rfl cmp_d
theorem e58_19 : rf d 58 19 [some (.ref a), l1, l2] s h = rf d 58 20 [some (.ref a), l1, l2] (.ref a :: s) h := rf_pure (i := .aload_n 0) (len := 1) (okD_ok (by decide +kernel)) rfl
theorem e58_20 : rf d 58 20 ls (.ref 4 :: s) (SH n, I, L, R, nc, ns, nx) = rf d 58 23 ls (.int (I 4 6) :: s) (SH n, I, L, R, nc, ns, nx) := g_I (idx := 51) (by decide +kernel) ow58 f_4_51 rfl rfl (by decide)
theorem e58_23 : rf d 58 23 ls s h = rf d 58 25 ls (.int 10 :: s) h := rf_pure (i := .bipush (10)) (len := 2) (okD_ok (by decide +kernel)) rfl
theorem e58_25 : rf d 58 25 ls (.int y :: .int x :: s) h = if ¬ x = y then rf d 58 56 ls s h else rf d 58 28 ls s h := g_ic (c := .ne) (off := 31) _ (by decide +kernel) rfl cmp_d
theorem e58_28 : rf d 58 28 [some (.ref a), l1, l2] s h = rf d 58 29 [some (.ref a), l1, l2] (.ref a :: s) h := rf_pure (i := .aload_n 0) (len := 1) (okD_ok (by decide +kernel)) rfl
theorem e58_29 (hcat : ip_cat s ≤ 8) : rf (d + 1) 58 29 ls (.ref 4 :: s) (SH n, I, L, R, nc, ns, nx) = rf_k (d + 1) 58 29 ls s (cf d 40 [.ref 4] (SH n, I, L, R, nc, ns, nx)) := g_cv (idx := 48) (t := 4) [] (by decide +kernel) ow58 ms_4_48 mt_4_48 cy40_4 rfl rfl mL40 rfl rfl (by decide) hcat
theorem e58_32 : rf d 58 32 [some (.ref a), l1, l2] s h = rf d 58 33 [some (.ref a), l1, l2] (.ref a :: s) h := rf_pure (i := .aload_n 0) (len := 1) (okD_ok (by decide +kernel)) rfl
theorem e58_33 : rf d 58 33 [l0, some (.int x), l2] s h = rf d 58 34 [l0, some (.int x), l2] (.int x :: s) h := rf_pure (i := .iload_n 1) (len := 1) (okD_ok (by decide +kernel)) rfl
theorem e58_34 (hcat : ip_cat s ≤ 8) : rf (d + 1) 58 34 ls (.int x0 :: .ref 4 :: s) (SH n, I, L, R, nc, ns, nx) = rf_k (d + 1) 58 34 ls s (cf d 59 [.ref 4, .int x0] (SH n, I, L, R, nc, ns, nx)) := g_cv (idx := 116) (t := 4) [.int x0] (by decide +kernel) ow58 ms_4_116 mt_4_116 cy59_4 rfl rfl mL59 rfl rfl (by decide) hcat
theorem e58_37 : rf d 58 37 ls (.int x :: s) h = if ¬ x = 0 then rf d 58 42 ls s h else rf d 58 40 ls s h := g_if (c := .ne) (off := 5) _ (by decide +kernel) rfl cmp_d
theorem e58_40 : rf d 58 40 ls s h = rf d 58 41 ls (.int 0 :: s) h := rf_pure (i := .iconst (0)) (len := 1) (okD_ok (by decide +kernel)) rfl
theorem e58_41 (hx : x = 0 ∨ x = 1) : rf d 58 41 ls [.int x] h = some (.inl (some (.int x)), h) := g_rz (by decide +kernel) rt58 hx
theorem e58_42 : rf d 58 42 [some (.ref a), l1, l2] s h = rf d 58 43 [some (.ref a), l1, l2] (.ref a :: s) h := rf_pure (i := .aload_n 0) (len := 1) (okD_ok (by decide +kernel)) rfl
theorem e58_43 (hR : LYR R) : rf d 58 43 ls (.ref 4 :: s) (SH n, I, L, R, nc, ns, nx) = rf d 58 46 ls (.ref 5 :: s) (SH n, I, L, R, nc, ns, nx) := g_R (idx := 12) (by decide +kernel) ow58 f_4_12 rfl rfl (by decide) (ly_4_0 hR)
theorem e58_46 : rf d 58 46 ls s h = rf d 58 47 ls (.int 1 :: s) h := rf_pure (i := .iconst (1)) (len := 1) (okD_ok (by decide +kernel)) rfl
theorem e58_47 (hcat : ip_cat s ≤ 8) : rf (d + 1) 58 47 ls (.int x0 :: .ref 5 :: s) (SH n, I, L, R, nc, ns, nx) = rf_k (d + 1) 58 47 ls s (cf d 70 [.ref 5, .int x0] (SH n, I, L, R, nc, ns, nx)) := g_cv (idx := 112) (t := 5) [.int x0] (by decide +kernel) ow58 ms_4_112 mt_4_112 cy70_5 rfl rfl mL70 rfl rfl (by decide) hcat
theorem e58_50 (hn : ip_nl l1 = true) : rf d 58 50 [l0, l1, some (.int x)] s h = rf d 58 53 [l0, l1, some (.int (x + 1))] s h := g_inc (q := 1) (z := 1) (w := 1) (x := x) (by decide) (by decide +kernel) rfl rfl hn
theorem e58_53 : rf d 58 53 ls s h = rf d 58 12 ls s h := rf_goto ⟨okD_ok (i := .goto (-41)) (len := 3) (by decide +kernel), rfl⟩
theorem e58_56 : rf d 58 56 ls s h = rf d 58 57 ls (.int 1 :: s) h := rf_pure (i := .iconst (1)) (len := 1) (okD_ok (by decide +kernel)) rfl
theorem e58_57 (hx : x = 0 ∨ x = 1) : rf d 58 57 ls [.int x] h = some (.inl (some (.int x)), h) := g_rz (by decide +kernel) rt58 hx
theorem en59 : cf d 59 [.ref a, .int x0] h = rf d 59 0 [some (.ref a), some (.int x0)] [] h := rfl
theorem e59_0 : rf d 59 0 [some (.ref a), l1] s h = rf d 59 1 [some (.ref a), l1] (.ref a :: s) h := rf_pure (i := .aload_n 0) (len := 1) (okD_ok (by decide +kernel)) rfl
theorem e59_1 : rf d 59 1 ls (.ref 4 :: s) (SH n, I, L, R, nc, ns, nx) = rf d 59 4 ls (.int (I 4 6) :: s) (SH n, I, L, R, nc, ns, nx) := g_I (idx := 51) (by decide +kernel) ow59 f_4_51 rfl rfl (by decide)
theorem e59_48 : rf d 59 48 [l0, some (.int x)] s h = rf d 59 49 [l0, some (.int x)] (.int x :: s) h := rf_pure (i := .iload_n 1) (len := 1) (okD_ok (by decide +kernel)) rfl
theorem e59_49 : rf d 59 49 ls s h = rf d 59 51 ls (.int 6 :: s) h := rf_pure (i := .bipush (6)) (len := 2) (okD_ok (by decide +kernel)) rfl
theorem e59_51 : rf d 59 51 ls (.int y :: .int x :: s) h = if y ≤ x then rf d 59 66 ls s h else rf d 59 54 ls s h := g_ic (c := .ge) (off := 15) _ (by decide +kernel) rfl cmp_d
theorem e59_54 : rf d 59 54 [some (.ref a), l1] s h = rf d 59 55 [some (.ref a), l1] (.ref a :: s) h := rf_pure (i := .aload_n 0) (len := 1) (okD_ok (by decide +kernel)) rfl
theorem e59_55 : rf d 59 55 [l0, some (.int x)] s h = rf d 59 56 [l0, some (.int x)] (.int x :: s) h := rf_pure (i := .iload_n 1) (len := 1) (okD_ok (by decide +kernel)) rfl
theorem e59_56 (hcat : ip_cat s ≤ 8) : rf (d + 1) 59 56 ls (.int x0 :: .ref 4 :: s) (SH n, I, L, R, nc, ns, nx) = rf_k (d + 1) 59 56 ls s (cf d 60 [.ref 4, .int x0] (SH n, I, L, R, nc, ns, nx)) := g_cv (idx := 119) (t := 4) [.int x0] (by decide +kernel) ow59 ms_4_119 mt_4_119 cy60_4 rfl rfl mL60 rfl rfl (by decide) hcat
theorem e59_59 : rf d 59 59 ls (.int x :: s) h = if x = 0 then rf d 59 66 ls s h else rf d 59 62 ls s h := g_if (c := .eq) (off := 7) _ (by decide +kernel) rfl cmp_d
theorem e59_62 : rf d 59 62 ls s h = rf d 59 63 ls (.int 1 :: s) h := rf_pure (i := .iconst (1)) (len := 1) (okD_ok (by decide +kernel)) rfl
theorem e59_63 : rf d 59 63 ls s h = rf d 59 67 ls s h := rf_goto ⟨okD_ok (i := .goto (4)) (len := 3) (by decide +kernel), rfl⟩
theorem e59_66 : rf d 59 66 ls s h = rf d 59 67 ls (.int 0 :: s) h := rf_pure (i := .iconst (0)) (len := 1) (okD_ok (by decide +kernel)) rfl
theorem e59_67 (hx : x = 0 ∨ x = 1) : rf d 59 67 ls [.int x] h = some (.inl (some (.int x)), h) := g_rz (by decide +kernel) rt59 hx
theorem e59_68 : rf d 59 68 [some (.ref a), l1] s h = rf d 59 69 [some (.ref a), l1] (.ref a :: s) h := rf_pure (i := .aload_n 0) (len := 1) (okD_ok (by decide +kernel)) rfl
theorem e59_69 (hcat : ip_cat s ≤ 8) : rf (d + 1) 59 69 ls (.ref 4 :: s) (SH n, I, L, R, nc, ns, nx) = rf_k (d + 1) 59 69 ls s (cf d 62 [.ref 4] (SH n, I, L, R, nc, ns, nx)) := g_cv (idx := 122) (t := 4) [] (by decide +kernel) ow59 ms_4_122 mt_4_122 cy62_4 rfl rfl mL62 rfl rfl (by decide) hcat
theorem e59_72 (hx : x = 0 ∨ x = 1) : rf d 59 72 ls [.int x] h = some (.inl (some (.int x)), h) := g_rz (by decide +kernel) rt59 hx
theorem e59_73 : rf d 59 73 [l0, some (.int x)] s h = rf d 59 74 [l0, some (.int x)] (.int x :: s) h := rf_pure (i := .iload_n 1) (len := 1) (okD_ok (by decide +kernel)) rfl
theorem e59_74 : rf d 59 74 ls s h = rf d 59 76 ls (.int 6 :: s) h := rf_pure (i := .bipush (6)) (len := 2) (okD_ok (by decide +kernel)) rfl
theorem e59_76 : rf d 59 76 ls (.int y :: .int x :: s) h = if y ≤ x then rf d 59 91 ls s h else rf d 59 79 ls s h := g_ic (c := .ge) (off := 15) _ (by decide +kernel) rfl cmp_d
theorem e59_79 : rf d 59 79 [some (.ref a), l1] s h = rf d 59 80 [some (.ref a), l1] (.ref a :: s) h := rf_pure (i := .aload_n 0) (len := 1) (okD_ok (by decide +kernel)) rfl
theorem e59_80 : rf d 59 80 [l0, some (.int x)] s h = rf d 59 81 [l0, some (.int x)] (.int x :: s) h := rf_pure (i := .iload_n 1) (len := 1) (okD_ok (by decide +kernel)) rfl
theorem e59_81 (hcat : ip_cat s ≤ 8) : rf (d + 1) 59 81 ls (.int x0 :: .ref 4 :: s) (SH n, I, L, R, nc, ns, nx) = rf_k (d + 1) 59 81 ls s (cf d 65 [.ref 4, .int x0] (SH n, I, L, R, nc, ns, nx)) := g_cv (idx := 125) (t := 4) [.int x0] (by decide +kernel) ow59 ms_4_125 mt_4_125 cy65_4 rfl rfl mL65 rfl rfl (by decide) hcat
theorem e59_84 : rf d 59 84 ls (.int x :: s) h = if x = 0 then rf d 59 91 ls s h else rf d 59 87 ls s h := g_if (c := .eq) (off := 7) _ (by decide +kernel) rfl cmp_d
theorem e59_87 : rf d 59 87 ls s h = rf d 59 88 ls (.int 1 :: s) h := rf_pure (i := .iconst (1)) (len := 1) (okD_ok (by decide +kernel)) rfl
theorem e59_88 : rf d 59 88 ls s h = rf d 59 92 ls s h := rf_goto ⟨okD_ok (i := .goto (4)) (len := 3) (by decide +kernel), rfl⟩
theorem e59_91 : rf d 59 91 ls s h = rf d 59 92 ls (.int 0 :: s) h := rf_pure (i := .iconst (0)) (len := 1) (okD_ok (by decide +kernel)) rfl
theorem e59_92 (hx : x = 0 ∨ x = 1) : rf d 59 92 ls [.int x] h = some (.inl (some (.int x)), h) := g_rz (by decide +kernel) rt59 hx
theorem e59_93 : rf d 59 93 [some (.ref a), l1] s h = rf d 59 94 [some (.ref a), l1] (.ref a :: s) h := rf_pure (i := .aload_n 0) (len := 1) (okD_ok (by decide +kernel)) rfl
theorem e59_94 : rf d 59 94 [l0, some (.int x)] s h = rf d 59 95 [l0, some (.int x)] (.int x :: s) h := rf_pure (i := .iload_n 1) (len := 1) (okD_ok (by decide +kernel)) rfl
theorem e59_95 (hcat : ip_cat s ≤ 8) : rf (d + 1) 59 95 ls (.int x0 :: .ref 4 :: s) (SH n, I, L, R, nc, ns, nx) = rf_k (d + 1) 59 95 ls s (cf d 66 [.ref 4, .int x0] (SH n, I, L, R, nc, ns, nx)) := g_cv (idx := 128) (t := 4) [.int x0] (by decide +kernel) ow59 ms_4_128 mt_4_128 cy66_4 rfl rfl mL66 rfl rfl (by decide) hcat
theorem e59_98 (hx : x = 0 ∨ x = 1) : rf d 59 98 ls [.int x] h = some (.inl (some (.int x)), h) := g_rz (by decide +kernel) rt59 hx
theorem e59_99 : rf d 59 99 ls s h = rf d 59 100 ls (.int 0 :: s) h := rf_pure (i := .iconst (0)) (len := 1) (okD_ok (by decide +kernel)) rfl
theorem e59_100 (hx : x = 0 ∨ x = 1) : rf d 59 100 ls [.int x] h = some (.inl (some (.int x)), h) := g_rz (by decide +kernel) rt59 hx
theorem en60 : cf d 60 [.ref a, .int x0] h = rf d 60 0 [some (.ref a), some (.int x0)] [] h := rfl
theorem e60_0 : rf d 60 0 [some (.ref a), l1] s h = rf d 60 1 [some (.ref a), l1] (.ref a :: s) h := rf_pure (i := .aload_n 0) (len := 1) (okD_ok (by decide +kernel)) rfl
theorem e60_1 (hcat : ip_cat s ≤ 8) : rf (d + 1) 60 1 ls (.ref 4 :: s) (SH n, I, L, R, nc, ns, nx) = rf_k (d + 1) 60 1 ls s (cf d 40 [.ref 4] (SH n, I, L, R, nc, ns, nx)) := g_cv (idx := 48) (t := 4) [] (by decide +kernel) ow60 ms_4_48 mt_4_48 cy40_4 rfl rfl mL40 rfl rfl (by decide) hcat
theorem e60_4 : rf d 60 4 [some (.ref a), l1] s h = rf d 60 5 [some (.ref a), l1] (.ref a :: s) h := rf_pure (i := .aload_n 0) (len := 1) (okD_ok (by decide +kernel)) rfl
theorem e60_5 : rf d 60 5 [l0, some (.int x)] s h = rf d 60 6 [l0, some (.int x)] (.int x :: s) h := rf_pure (i := .iload_n 1) (len := 1) (okD_ok (by decide +kernel)) rfl
theorem e60_6 : rf d 60 6 ls s h = rf d 60 7 ls (.int 1 :: s) h := rf_pure (i := .iconst (1)) (len := 1) (okD_ok (by decide +kernel)) rfl
theorem e60_7 : rf d 60 7 ls (.int y :: .int x :: s) h = rf d 60 8 ls (.int (x + y) :: s) h := rf_pure (i := .iadd) (len := 1) (okD_ok (by decide +kernel)) rfl
theorem e60_8 (hcat : ip_cat s ≤ 8) : rf (d + 1) 60 8 ls (.int x0 :: .ref 4 :: s) (SH n, I, L, R, nc, ns, nx) = rf_k (d + 1) 60 8 ls s (cf d 59 [.ref 4, .int x0] (SH n, I, L, R, nc, ns, nx)) := g_cv (idx := 116) (t := 4) [.int x0] (by decide +kernel) ow60 ms_4_116 mt_4_116 cy59_4 rfl rfl mL59 rfl rfl (by decide) hcat
theorem e60_11 : rf d 60 11 ls (.int x :: s) h = if ¬ x = 0 then rf d 60 16 ls s h else rf d 60 14 ls s h := g_if (c := .ne) (off := 5) _ (by decide +kernel) rfl cmp_d
theorem e60_14 : rf d 60 14 ls s h = rf d 60 15 ls (.int 0 :: s) h := rf_pure (i := .iconst (0)) (len := 1) (okD_ok (by decide +kernel)) rfl
theorem e60_15 (hx : x = 0 ∨ x = 1) : rf d 60 15 ls [.int x] h = some (.inl (some (.int x)), h) := g_rz (by decide +kernel) rt60 hx
theorem e60_16 : rf d 60 16 [some (.ref a), l1] s h = rf d 60 17 [some (.ref a), l1] (.ref a :: s) h := rf_pure (i := .aload_n 0) (len := 1) (okD_ok (by decide +kernel)) rfl
theorem e60_17 (hR : LYR R) : rf d 60 17 ls (.ref 4 :: s) (SH n, I, L, R, nc, ns, nx) = rf d 60 20 ls (.ref 5 :: s) (SH n, I, L, R, nc, ns, nx) := g_R (idx := 12) (by decide +kernel) ow60 f_4_12 rfl rfl (by decide) (ly_4_0 hR)
theorem e60_20 (hcat : ip_cat s ≤ 8) : rf (d + 1) 60 20 ls (.ref 5 :: s) (SH n, I, L, R, nc, ns, nx) = rf_k (d + 1) 60 20 ls s (cf d 61 [.ref 5] (SH n, I, L, R, nc, ns, nx)) := g_cv (idx := 131) (t := 5) [] (by decide +kernel) ow60 ms_4_131 mt_4_131 cy61_5 rfl rfl mL61 rfl rfl (by decide) hcat
theorem e60_23 : rf d 60 23 ls s h = rf d 60 24 ls (.int 1 :: s) h := rf_pure (i := .iconst (1)) (len := 1) (okD_ok (by decide +kernel)) rfl
theorem e60_24 (hx : x = 0 ∨ x = 1) : rf d 60 24 ls [.int x] h = some (.inl (some (.int x)), h) := g_rz (by decide +kernel) rt60 hx
theorem en61 : cf d 61 [.ref a] h = rf d 61 0 [some (.ref a), none, none] [] h := rfl
theorem e61_0 : rf d 61 0 ls s h = rf d 61 1 ls (.int 0 :: s) h := rf_pure (i := .iconst (0)) (len := 1) (okD_ok (by decide +kernel)) rfl
theorem e61_1 (hn : ip_nl l0 = true) : rf d 61 1 [l0, l1, l2] (.int x :: s) h = rf d 61 2 [l0, some (.int x), l2] s h := g_sti (i := .istore_n 1) (len := 1) (q := 0) (p := 1) (by decide +kernel) rfl rfl hn
theorem e61_2 : rf d 61 2 [l0, some (.int x), l2] s h = rf d 61 3 [l0, some (.int x), l2] (.int x :: s) h := rf_pure (i := .iload_n 1) (len := 1) (okD_ok (by decide +kernel)) rfl
theorem e61_3 : rf d 61 3 ls s h = rf d 61 4 ls (.int 4 :: s) h := rf_pure (i := .iconst (4)) (len := 1) (okD_ok (by decide +kernel)) rfl
theorem e61_4 : rf d 61 4 ls (.int y :: .int x :: s) h = if y ≤ x then rf d 61 47 ls s h else rf d 61 7 ls s h := g_ic (c := .ge) (off := 43) _ (by decide +kernel) rfl cmp_d
theorem e61_7 : rf d 61 7 [some (.ref a), l1, l2] s h = rf d 61 8 [some (.ref a), l1, l2] (.ref a :: s) h := rf_pure (i := .aload_n 0) (len := 1) (okD_ok (by decide +kernel)) rfl
theorem e61_8 : rf d 61 8 ls (.ref 5 :: s) (SH n, I, L, R, nc, ns, nx) = rf d 61 11 ls (.int (I 5 2) :: s) (SH n, I, L, R, nc, ns, nx) := g_I (idx := 16) (by decide +kernel) ow61 f_5_16 rfl rfl (by decide)
theorem e61_11 : rf d 61 11 ls (.int x :: s) h = if x ≤ 0 then rf d 61 47 ls s h else rf d 61 14 ls s h := g_if (c := .le) (off := 36) _ (by decide +kernel) rfl cmp_d
theorem e61_14 : rf d 61 14 [some (.ref a), l1, l2] s h = rf d 61 15 [some (.ref a), l1, l2] (.ref a :: s) h := rf_pure (i := .aload_n 0) (len := 1) (okD_ok (by decide +kernel)) rfl
theorem e61_15 : rf d 61 15 ls (.ref 5 :: s) (SH n, I, L, R, nc, ns, nx) = rf d 61 18 ls (.int (I 5 2) :: s) (SH n, I, L, R, nc, ns, nx) := g_I (idx := 16) (by decide +kernel) ow61 f_5_16 rfl rfl (by decide)
theorem e61_18 : rf d 61 18 ls s h = rf d 61 19 ls (.int 1 :: s) h := rf_pure (i := .iconst (1)) (len := 1) (okD_ok (by decide +kernel)) rfl
theorem e61_19 : rf d 61 19 ls (.int y :: .int x :: s) h = rf d 61 20 ls (.int (x - y) :: s) h := rf_pure (i := .isub) (len := 1) (okD_ok (by decide +kernel)) rfl
theorem e61_20 : rf d 61 20 ls s h = rf d 61 21 ls (.int 4 :: s) h := rf_pure (i := .iconst (4)) (len := 1) (okD_ok (by decide +kernel)) rfl
theorem e61_21 : rf d 61 21 ls (.int y :: .int x :: s) h = rf d 61 22 ls (.int (x * y) :: s) h := rf_pure (i := .imul) (len := 1) (okD_ok (by decide +kernel)) rfl
theorem e61_22 : rf d 61 22 [l0, some (.int x), l2] s h = rf d 61 23 [l0, some (.int x), l2] (.int x :: s) h := rf_pure (i := .iload_n 1) (len := 1) (okD_ok (by decide +kernel)) rfl
theorem e61_23 : rf d 61 23 ls (.int y :: .int x :: s) h = rf d 61 24 ls (.int (x + y) :: s) h := rf_pure (i := .iadd) (len := 1) (okD_ok (by decide +kernel)) rfl
theorem e61_24 (hn : ip_nl l1 = true) : rf d 61 24 [l0, l1, l2] (.int x :: s) h = rf d 61 25 [l0, l1, some (.int x)] s h := g_sti (i := .istore_n 2) (len := 1) (q := 1) (p := 1) (by decide +kernel) rfl rfl hn
theorem e61_25 : rf d 61 25 [some (.ref a), l1, l2] s h = rf d 61 26 [some (.ref a), l1, l2] (.ref a :: s) h := rf_pure (i := .aload_n 0) (len := 1) (okD_ok (by decide +kernel)) rfl
theorem e61_26 (hR : LYR R) : rf d 61 26 ls (.ref 5 :: s) (SH n, I, L, R, nc, ns, nx) = rf d 61 29 ls (.ref 6 :: s) (SH n, I, L, R, nc, ns, nx) := g_R (idx := 9) (by decide +kernel) ow61 f_5_9 rfl rfl (by decide) (ly_5_0 hR)
theorem e61_29 : rf d 61 29 [l0, l1, some (.int x)] s h = rf d 61 30 [l0, l1, some (.int x)] (.int x :: s) h := rf_pure (i := .iload_n 2) (len := 1) (okD_ok (by decide +kernel)) rfl
theorem e61_30 : rf d 61 30 [some (.ref a), l1, l2] s h = rf d 61 31 [some (.ref a), l1, l2] (.ref a :: s) h := rf_pure (i := .aload_n 0) (len := 1) (okD_ok (by decide +kernel)) rfl
theorem e61_31 (hR : LYR R) : rf d 61 31 ls (.ref 5 :: s) (SH n, I, L, R, nc, ns, nx) = rf d 61 34 ls (.ref 6 :: s) (SH n, I, L, R, nc, ns, nx) := g_R (idx := 9) (by decide +kernel) ow61 f_5_9 rfl rfl (by decide) (ly_5_0 hR)
theorem e61_34 : rf d 61 34 [l0, l1, some (.int x)] s h = rf d 61 35 [l0, l1, some (.int x)] (.int x :: s) h := rf_pure (i := .iload_n 2) (len := 1) (okD_ok (by decide +kernel)) rfl
theorem e61_35 (q : la n a j) : rf d 61 35 ls (.int j :: .ref a :: s) (SH n, I, L, R, nc, ns, nx) = rf d 61 36 ls (.long (L a j.toNatClampNeg) :: s) (SH n, I, L, R, nc, ns, nx) := g_lal (by decide +kernel) q
theorem e61_36 : rf d 61 36 ls s h = rf d 61 39 ls (.long (-1) :: s) h := g_kl (idx := 27) (by decide +kernel) ow61 kl_5_27
theorem e61_39 : rf d 61 39 ls (.long v :: .long u :: s) h = rf d 61 40 ls (.long (u ^^^ v) :: s) h := rf_pure (i := .lxor) (len := 1) (okD_ok (by decide +kernel)) rfl
theorem e61_40 (q : la n a j) : rf d 61 40 ls (.long u :: .int j :: .ref a :: s) (SH n, I, L, R, nc, ns, nx) = rf d 61 41 ls s (SH n, I, ip_up L a j.toNatClampNeg u, R, nc, ns, nx) := g_las (by decide +kernel) q
theorem e61_41 (hn : ip_nl l0 = true) : rf d 61 41 [l0, some (.int x), l2] s h = rf d 61 44 [l0, some (.int (x + 1)), l2] s h := g_inc (q := 0) (z := 1) (w := 1) (x := x) (by decide) (by decide +kernel) rfl rfl hn
theorem e61_44 : rf d 61 44 ls s h = rf d 61 2 ls s h := rf_goto ⟨okD_ok (i := .goto (-42)) (len := 3) (by decide +kernel), rfl⟩
theorem e61_47 : rf d 61 47 ls [] h = some (.inl none, h) := g_rv (by decide +kernel) rt61
theorem en62 : cf d 62 [.ref a] h = rf d 62 0 [some (.ref a), none] [] h := rfl
theorem e62_0 : rf d 62 0 [some (.ref a), l1] s h = rf d 62 1 [some (.ref a), l1] (.ref a :: s) h := rf_pure (i := .aload_n 0) (len := 1) (okD_ok (by decide +kernel)) rfl
theorem e62_1 (hcat : ip_cat s ≤ 8) : rf (d + 1) 62 1 ls (.ref 4 :: s) (SH n, I, L, R, nc, ns, nx) = rf_k (d + 1) 62 1 ls s (cf d 48 [.ref 4] (SH n, I, L, R, nc, ns, nx)) := g_cv (idx := 74) (t := 4) [] (by decide +kernel) ow62 ms_4_74 mt_4_74 cy48_4 rfl rfl mL48 rfl rfl (by decide) hcat
theorem e62_4 (hn : ip_nl l0 = true) : rf d 62 4 [l0, l1] (.int x :: s) h = rf d 62 5 [l0, some (.int x)] s h := g_sti (i := .istore_n 1) (len := 1) (q := 0) (p := 1) (by decide +kernel) rfl rfl hn
theorem e62_5 : rf d 62 5 [l0, some (.int x)] s h = rf d 62 6 [l0, some (.int x)] (.int x :: s) h := rf_pure (i := .iload_n 1) (len := 1) (okD_ok (by decide +kernel)) rfl
theorem e62_6 : rf d 62 6 ls s h = rf d 62 7 ls (.int (-1) :: s) h := rf_pure (i := .iconst (-1)) (len := 1) (okD_ok (by decide +kernel)) rfl
theorem e62_7 : rf d 62 7 ls (.int y :: .int x :: s) h = if x = y then rf d 62 22 ls s h else rf d 62 10 ls s h := g_ic (c := .eq) (off := 15) _ (by decide +kernel) rfl cmp_d
theorem e62_10 : rf d 62 10 [some (.ref a), l1] s h = rf d 62 11 [some (.ref a), l1] (.ref a :: s) h := rf_pure (i := .aload_n 0) (len := 1) (okD_ok (by decide +kernel)) rfl
theorem e62_11 : rf d 62 11 ls (.ref 4 :: s) (SH n, I, L, R, nc, ns, nx) = rf d 62 14 ls (ip_rf (R 4 2) :: s) (SH n, I, L, R, nc, ns, nx) := g_R (idx := 25) (by decide +kernel) ow62 f_4_25 rfl rfl (by decide) rfl
theorem e62_14 (ha : isT a) : rf d 62 14 ls (.ref a :: s) (SH n, I, L, R, nc, ns, nx) = rf d 62 17 ls (.int (I a 7) :: s) (SH n, I, L, R, nc, ns, nx) := g_I (idx := 134) (by decide +kernel) ow62 f_4_134 rfl (kdT0 ha) (geT ha)
theorem e62_17 : rf d 62 17 ls s h = rf d 62 19 ls (.int 40 :: s) h := rf_pure (i := .bipush (40)) (len := 2) (okD_ok (by decide +kernel)) rfl
theorem e62_19 : rf d 62 19 ls (.int y :: .int x :: s) h = if x < y then rf d 62 24 ls s h else rf d 62 22 ls s h := g_ic (c := .lt) (off := 5) _ (by decide +kernel) rfl cmp_d
theorem e62_22 : rf d 62 22 ls s h = rf d 62 23 ls (.int 0 :: s) h := rf_pure (i := .iconst (0)) (len := 1) (okD_ok (by decide +kernel)) rfl
theorem e62_23 (hx : x = 0 ∨ x = 1) : rf d 62 23 ls [.int x] h = some (.inl (some (.int x)), h) := g_rz (by decide +kernel) rt62 hx
theorem e62_24 : rf d 62 24 [some (.ref a), l1] s h = rf d 62 25 [some (.ref a), l1] (.ref a :: s) h := rf_pure (i := .aload_n 0) (len := 1) (okD_ok (by decide +kernel)) rfl
theorem e62_25 : rf d 62 25 ls (.ref 4 :: s) (SH n, I, L, R, nc, ns, nx) = rf d 62 28 ls (ip_rf (R 4 2) :: s) (SH n, I, L, R, nc, ns, nx) := g_R (idx := 25) (by decide +kernel) ow62 f_4_25 rfl rfl (by decide) rfl
theorem e62_28 : rf d 62 28 ls (.int x :: s) h = rf d 62 29 ls (.int x :: .int x :: s) h := rf_pure (i := .dup) (len := 1) (okD_ok (by decide +kernel)) rfl
theorem e62_28r : rf d 62 28 ls (.ref a :: s) h = rf d 62 29 ls (.ref a :: .ref a :: s) h := rf_pure (i := .dup) (len := 1) (okD_ok (by decide +kernel)) rfl
theorem e62_29 (ha : isT a) : rf d 62 29 ls (.ref a :: s) (SH n, I, L, R, nc, ns, nx) = rf d 62 32 ls (.int (I a 7) :: s) (SH n, I, L, R, nc, ns, nx) := g_I (idx := 134) (by decide +kernel) ow62 f_4_134 rfl (kdT0 ha) (geT ha)
theorem e62_32 : rf d 62 32 ls s h = rf d 62 33 ls (.int 1 :: s) h := rf_pure (i := .iconst (1)) (len := 1) (okD_ok (by decide +kernel)) rfl
theorem e62_33 : rf d 62 33 ls (.int y :: .int x :: s) h = rf d 62 34 ls (.int (x + y) :: s) h := rf_pure (i := .iadd) (len := 1) (okD_ok (by decide +kernel)) rfl
theorem e62_34 (ha : isT a) : rf d 62 34 ls (.int x :: .ref a :: s) (SH n, I, L, R, nc, ns, nx) = rf d 62 37 ls s (SH n, ip_up I a 7 x, L, R, nc, ns, nx) := g_pI (idx := 134) (by decide +kernel) ow62 f_4_134 rfl (by decide +kernel) (kdT0 ha) (geT ha)
theorem e62_37 : rf d 62 37 [some (.ref a), l1] s h = rf d 62 38 [some (.ref a), l1] (.ref a :: s) h := rf_pure (i := .aload_n 0) (len := 1) (okD_ok (by decide +kernel)) rfl
theorem e62_38 (hR : LYR R) : rf d 62 38 ls (.ref 4 :: s) (SH n, I, L, R, nc, ns, nx) = rf d 62 41 ls (.ref 5 :: s) (SH n, I, L, R, nc, ns, nx) := g_R (idx := 12) (by decide +kernel) ow62 f_4_12 rfl rfl (by decide) (ly_4_0 hR)
theorem e62_41 : rf d 62 41 [l0, some (.int x)] s h = rf d 62 42 [l0, some (.int x)] (.int x :: s) h := rf_pure (i := .iload_n 1) (len := 1) (okD_ok (by decide +kernel)) rfl
theorem e62_42 (hcat : ip_cat s ≤ 8) : rf (d + 1) 62 42 ls (.int x0 :: .ref 5 :: s) (SH n, I, L, R, nc, ns, nx) = rf_k (d + 1) 62 42 ls s (cf d 63 [.ref 5, .int x0] (SH n, I, L, R, nc, ns, nx)) := g_cv (idx := 137) (t := 5) [.int x0] (by decide +kernel) ow62 ms_4_137 mt_4_137 cy63_5 rfl rfl mL63 rfl rfl (by decide) hcat
theorem e62_45 : rf d 62 45 [some (.ref a), l1] s h = rf d 62 46 [some (.ref a), l1] (.ref a :: s) h := rf_pure (i := .aload_n 0) (len := 1) (okD_ok (by decide +kernel)) rfl
theorem e62_46 (hcat : ip_cat s ≤ 8) : rf (d + 1) 62 46 ls (.ref 4 :: s) (SH n, I, L, R, nc, ns, nx) = rf_k (d + 1) 62 46 ls s (cf d 40 [.ref 4] (SH n, I, L, R, nc, ns, nx)) := g_cv (idx := 48) (t := 4) [] (by decide +kernel) ow62 ms_4_48 mt_4_48 cy40_4 rfl rfl mL40 rfl rfl (by decide) hcat
theorem e62_49 : rf d 62 49 ls s h = rf d 62 50 ls (.int 1 :: s) h := rf_pure (i := .iconst (1)) (len := 1) (okD_ok (by decide +kernel)) rfl
theorem e62_50 (hx : x = 0 ∨ x = 1) : rf d 62 50 ls [.int x] h = some (.inl (some (.int x)), h) := g_rz (by decide +kernel) rt62 hx
theorem en63 : cf d 63 [.ref a, .int x0] h = rf d 63 0 [some (.ref a), some (.int x0), none] [] h := rfl
theorem e63_0 : rf d 63 0 [some (.ref a), l1, l2] s h = rf d 63 1 [some (.ref a), l1, l2] (.ref a :: s) h := rf_pure (i := .aload_n 0) (len := 1) (okD_ok (by decide +kernel)) rfl
theorem e63_1 : rf d 63 1 ls (.ref 5 :: s) (SH n, I, L, R, nc, ns, nx) = rf d 63 4 ls (.int (I 5 2) :: s) (SH n, I, L, R, nc, ns, nx) := g_I (idx := 16) (by decide +kernel) ow63 f_5_16 rfl rfl (by decide)
theorem e63_4 : rf d 63 4 ls s h = rf d 63 6 ls (.int 40 :: s) h := rf_pure (i := .bipush (40)) (len := 2) (okD_ok (by decide +kernel)) rfl
theorem e63_6 : rf d 63 6 ls (.int y :: .int x :: s) h = if x < y then rf d 63 10 ls s h else rf d 63 9 ls s h := g_ic (c := .lt) (off := 4) _ (by decide +kernel) rfl cmp_d
theorem e63_9 : rf d 63 9 ls [] h = some (.inl none, h) := g_rv (by decide +kernel) rt63
theorem e63_10 : rf d 63 10 ls s h = rf d 63 11 ls (.int 0 :: s) h := rf_pure (i := .iconst (0)) (len := 1) (okD_ok (by decide +kernel)) rfl
theorem e63_11 (hn : ip_nl l1 = true) : rf d 63 11 [l0, l1, l2] (.int x :: s) h = rf d 63 12 [l0, l1, some (.int x)] s h := g_sti (i := .istore_n 2) (len := 1) (q := 1) (p := 1) (by decide +kernel) rfl rfl hn
theorem e63_12 : rf d 63 12 [l0, l1, some (.int x)] s h = rf d 63 13 [l0, l1, some (.int x)] (.int x :: s) h := rf_pure (i := .iload_n 2) (len := 1) (okD_ok (by decide +kernel)) rfl
theorem e63_13 : rf d 63 13 ls s h = rf d 63 14 ls (.int 4 :: s) h := rf_pure (i := .iconst (4)) (len := 1) (okD_ok (by decide +kernel)) rfl
theorem e63_14 : rf d 63 14 ls (.int y :: .int x :: s) h = if y ≤ x then rf d 63 41 ls s h else rf d 63 17 ls s h := g_ic (c := .ge) (off := 27) _ (by decide +kernel) rfl cmp_d
theorem e63_17 : rf d 63 17 [some (.ref a), l1, l2] s h = rf d 63 18 [some (.ref a), l1, l2] (.ref a :: s) h := rf_pure (i := .aload_n 0) (len := 1) (okD_ok (by decide +kernel)) rfl
theorem e63_18 (hR : LYR R) : rf d 63 18 ls (.ref 5 :: s) (SH n, I, L, R, nc, ns, nx) = rf d 63 21 ls (.ref 6 :: s) (SH n, I, L, R, nc, ns, nx) := g_R (idx := 9) (by decide +kernel) ow63 f_5_9 rfl rfl (by decide) (ly_5_0 hR)
theorem e63_21 : rf d 63 21 [some (.ref a), l1, l2] s h = rf d 63 22 [some (.ref a), l1, l2] (.ref a :: s) h := rf_pure (i := .aload_n 0) (len := 1) (okD_ok (by decide +kernel)) rfl
theorem e63_22 : rf d 63 22 ls (.ref 5 :: s) (SH n, I, L, R, nc, ns, nx) = rf d 63 25 ls (.int (I 5 2) :: s) (SH n, I, L, R, nc, ns, nx) := g_I (idx := 16) (by decide +kernel) ow63 f_5_16 rfl rfl (by decide)
theorem e63_25 : rf d 63 25 ls s h = rf d 63 26 ls (.int 4 :: s) h := rf_pure (i := .iconst (4)) (len := 1) (okD_ok (by decide +kernel)) rfl
theorem e63_26 : rf d 63 26 ls (.int y :: .int x :: s) h = rf d 63 27 ls (.int (x * y) :: s) h := rf_pure (i := .imul) (len := 1) (okD_ok (by decide +kernel)) rfl
theorem e63_27 : rf d 63 27 [l0, l1, some (.int x)] s h = rf d 63 28 [l0, l1, some (.int x)] (.int x :: s) h := rf_pure (i := .iload_n 2) (len := 1) (okD_ok (by decide +kernel)) rfl
theorem e63_28 : rf d 63 28 ls (.int y :: .int x :: s) h = rf d 63 29 ls (.int (x + y) :: s) h := rf_pure (i := .iadd) (len := 1) (okD_ok (by decide +kernel)) rfl
theorem e63_29 : rf d 63 29 [l0, some (.int x), l2] s h = rf d 63 30 [l0, some (.int x), l2] (.int x :: s) h := rf_pure (i := .iload_n 1) (len := 1) (okD_ok (by decide +kernel)) rfl
theorem e63_30 : rf d 63 30 [l0, l1, some (.int x)] s h = rf d 63 31 [l0, l1, some (.int x)] (.int x :: s) h := rf_pure (i := .iload_n 2) (len := 1) (okD_ok (by decide +kernel)) rfl
theorem e63_31 (hcat : ip_cat s ≤ 8) : rf (d + 1) 63 31 ls (.int x1 :: .int x0 :: s) h = rf_k (d + 1) 63 31 ls s (cf d 64 [.int x0, .int x1] h) := g_cs (idx := 20) [.int x1, .int x0] (by decide +kernel) ow63 ms_5_20 mt_5_20 (by decide) rfl mL64 rfl hcat
theorem e63_34 (q : la n a j) : rf d 63 34 ls (.long u :: .int j :: .ref a :: s) (SH n, I, L, R, nc, ns, nx) = rf d 63 35 ls s (SH n, I, ip_up L a j.toNatClampNeg u, R, nc, ns, nx) := g_las (by decide +kernel) q
theorem e63_35 (hn : ip_nl l1 = true) : rf d 63 35 [l0, l1, some (.int x)] s h = rf d 63 38 [l0, l1, some (.int (x + 1))] s h := g_inc (q := 1) (z := 1) (w := 1) (x := x) (by decide) (by decide +kernel) rfl rfl hn
theorem e63_38 : rf d 63 38 ls s h = rf d 63 12 ls s h := rf_goto ⟨okD_ok (i := .goto (-26)) (len := 3) (by decide +kernel), rfl⟩
theorem e63_41 : rf d 63 41 [some (.ref a), l1, l2] s h = rf d 63 42 [some (.ref a), l1, l2] (.ref a :: s) h := rf_pure (i := .aload_n 0) (len := 1) (okD_ok (by decide +kernel)) rfl
theorem e63_42 : rf d 63 42 ls (.int x :: s) h = rf d 63 43 ls (.int x :: .int x :: s) h := rf_pure (i := .dup) (len := 1) (okD_ok (by decide +kernel)) rfl
theorem e63_42r : rf d 63 42 ls (.ref a :: s) h = rf d 63 43 ls (.ref a :: .ref a :: s) h := rf_pure (i := .dup) (len := 1) (okD_ok (by decide +kernel)) rfl
theorem e63_43 : rf d 63 43 ls (.ref 5 :: s) (SH n, I, L, R, nc, ns, nx) = rf d 63 46 ls (.int (I 5 2) :: s) (SH n, I, L, R, nc, ns, nx) := g_I (idx := 16) (by decide +kernel) ow63 f_5_16 rfl rfl (by decide)
theorem e63_46 : rf d 63 46 ls s h = rf d 63 47 ls (.int 1 :: s) h := rf_pure (i := .iconst (1)) (len := 1) (okD_ok (by decide +kernel)) rfl
theorem e63_47 : rf d 63 47 ls (.int y :: .int x :: s) h = rf d 63 48 ls (.int (x + y) :: s) h := rf_pure (i := .iadd) (len := 1) (okD_ok (by decide +kernel)) rfl
theorem e63_48 : rf d 63 48 ls (.int x :: .ref 5 :: s) (SH n, I, L, R, nc, ns, nx) = rf d 63 51 ls s (SH n, ip_up I 5 2 x, L, R, nc, ns, nx) := g_pI (idx := 16) (by decide +kernel) ow63 f_5_16 rfl (by decide +kernel) rfl (by decide)
theorem e63_51 : rf d 63 51 ls [] h = some (.inl none, h) := g_rv (by decide +kernel) rt63
theorem en64 : cf d 64 [.int x0, .int x1] h = rf d 64 0 [some (.int x0), some (.int x1)] [] h := rfl
theorem e64_0 : rf d 64 0 [some (.int x), l1] s h = rf d 64 1 [some (.int x), l1] (.int x :: s) h := rf_pure (i := .iload_n 0) (len := 1) (okD_ok (by decide +kernel)) rfl
theorem e64_1 : rf d 64 1 ls (.int x :: s) h = if x < 0 then rf d 64 16 ls s h else rf d 64 4 ls s h := g_if (c := .lt) (off := 15) _ (by decide +kernel) rfl cmp_d
theorem e64_4 : rf d 64 4 [some (.int x), l1] s h = rf d 64 5 [some (.int x), l1] (.int x :: s) h := rf_pure (i := .iload_n 0) (len := 1) (okD_ok (by decide +kernel)) rfl
theorem e64_5 : rf d 64 5 ls s h = rf d 64 7 ls (.int 6 :: s) h := rf_pure (i := .bipush (6)) (len := 2) (okD_ok (by decide +kernel)) rfl
theorem e64_7 : rf d 64 7 ls (.int y :: .int x :: s) h = if y ≤ x then rf d 64 16 ls s h else rf d 64 10 ls s h := g_ic (c := .ge) (off := 9) _ (by decide +kernel) rfl cmp_d
theorem e64_10 : rf d 64 10 ls s h = rf d 64 13 ls (.ref 1 :: s) h := g_gs (by decide +kernel) ow64
theorem e64_13 : rf d 64 13 [some (.int x), l1] s h = rf d 64 14 [some (.int x), l1] (.int x :: s) h := rf_pure (i := .iload_n 0) (len := 1) (okD_ok (by decide +kernel)) rfl
theorem e64_14 (q : inb j 6) : rf d 64 14 ls (.int j :: .ref 1 :: s) (SH n, I, L, R, nc, ns, nx) = rf d 64 15 ls (.long (L 1 j.toNatClampNeg) :: s) (SH n, I, L, R, nc, ns, nx) := g_nal (by decide +kernel) q
theorem e64_15 : rf d 64 15 ls [.long u] h = some (.inl (some (.long u)), h) := g_rl (by decide +kernel) rt64
theorem e64_16 : rf d 64 16 [l0, some (.int x)] s h = rf d 64 17 [l0, some (.int x)] (.int x :: s) h := rf_pure (i := .iload_n 1) (len := 1) (okD_ok (by decide +kernel)) rfl
theorem e64_17 : rf d 64 17 [some (.int x), l1] s h = rf d 64 18 [some (.int x), l1] (.int x :: s) h := rf_pure (i := .iload_n 0) (len := 1) (okD_ok (by decide +kernel)) rfl
theorem e64_18 : rf d 64 18 ls s h = rf d 64 20 ls (.int 6 :: s) h := rf_pure (i := .bipush (6)) (len := 2) (okD_ok (by decide +kernel)) rfl
theorem e64_20 : rf d 64 20 ls (.int y :: .int x :: s) h = rf d 64 21 ls (.int (x - y) :: s) h := rf_pure (i := .isub) (len := 1) (okD_ok (by decide +kernel)) rfl
theorem e64_21 : rf d 64 21 ls (.int y :: .int x :: s) h = rf d 64 22 ls (.int (x >>> (y &&& 31)) :: s) h := rf_pure (i := .ishr) (len := 1) (okD_ok (by decide +kernel)) rfl
theorem e64_22 : rf d 64 22 ls s h = rf d 64 23 ls (.int 1 :: s) h := rf_pure (i := .iconst (1)) (len := 1) (okD_ok (by decide +kernel)) rfl
theorem e64_23 : rf d 64 23 ls (.int y :: .int x :: s) h = rf d 64 24 ls (.int (x &&& y) :: s) h := rf_pure (i := .iand) (len := 1) (okD_ok (by decide +kernel)) rfl
theorem e64_24 : rf d 64 24 ls (.int x :: s) h = if x = 0 then rf d 64 33 ls s h else rf d 64 27 ls s h := g_if (c := .eq) (off := 9) _ (by decide +kernel) rfl cmp_d
theorem e64_27 : rf d 64 27 ls s h = rf d 64 30 ls (.long (-1) :: s) h := g_kl (idx := 27) (by decide +kernel) ow64 kl_5_27
theorem e64_30 : rf d 64 30 ls s h = rf d 64 34 ls s h := rf_goto ⟨okD_ok (i := .goto (4)) (len := 3) (by decide +kernel), rfl⟩
theorem e64_33 : rf d 64 33 ls s h = rf d 64 34 ls (.long 0 :: s) h := rf_pure (i := .lconst 0) (len := 1) (okD_ok (by decide +kernel)) rfl
theorem e64_34 : rf d 64 34 ls [.long u] h = some (.inl (some (.long u)), h) := g_rl (by decide +kernel) rt64
theorem en65 : cf d 65 [.ref a, .int x0] h = rf d 65 0 [some (.ref a), some (.int x0)] [] h := rfl
theorem e65_0 : rf d 65 0 [some (.ref a), l1] s h = rf d 65 1 [some (.ref a), l1] (.ref a :: s) h := rf_pure (i := .aload_n 0) (len := 1) (okD_ok (by decide +kernel)) rfl
theorem e65_1 (hcat : ip_cat s ≤ 8) : rf (d + 1) 65 1 ls (.ref 4 :: s) (SH n, I, L, R, nc, ns, nx) = rf_k (d + 1) 65 1 ls s (cf d 40 [.ref 4] (SH n, I, L, R, nc, ns, nx)) := g_cv (idx := 48) (t := 4) [] (by decide +kernel) ow65 ms_4_48 mt_4_48 cy40_4 rfl rfl mL40 rfl rfl (by decide) hcat
theorem e65_4 : rf d 65 4 [some (.ref a), l1] s h = rf d 65 5 [some (.ref a), l1] (.ref a :: s) h := rf_pure (i := .aload_n 0) (len := 1) (okD_ok (by decide +kernel)) rfl
theorem e65_5 : rf d 65 5 [l0, some (.int x)] s h = rf d 65 6 [l0, some (.int x)] (.int x :: s) h := rf_pure (i := .iload_n 1) (len := 1) (okD_ok (by decide +kernel)) rfl
theorem e65_6 : rf d 65 6 ls s h = rf d 65 7 ls (.int 1 :: s) h := rf_pure (i := .iconst (1)) (len := 1) (okD_ok (by decide +kernel)) rfl
theorem e65_7 : rf d 65 7 ls (.int y :: .int x :: s) h = rf d 65 8 ls (.int (x + y) :: s) h := rf_pure (i := .iadd) (len := 1) (okD_ok (by decide +kernel)) rfl
theorem e65_8 (hcat : ip_cat s ≤ 8) : rf (d + 1) 65 8 ls (.int x0 :: .ref 4 :: s) (SH n, I, L, R, nc, ns, nx) = rf_k (d + 1) 65 8 ls s (cf d 57 [.ref 4, .int x0] (SH n, I, L, R, nc, ns, nx)) := g_cv (idx := 98) (t := 4) [.int x0] (by decide +kernel) ow65 ms_4_98 mt_4_98 cy57_4 rfl rfl mL57 rfl rfl (by decide) hcat
theorem e65_11 : rf d 65 11 ls (.int x :: s) h = if x = 0 then rf d 65 27 ls s h else rf d 65 14 ls s h := g_if (c := .eq) (off := 16) _ (by decide +kernel) rfl cmp_d
theorem e65_14 : rf d 65 14 [some (.ref a), l1] s h = rf d 65 15 [some (.ref a), l1] (.ref a :: s) h := rf_pure (i := .aload_n 0) (len := 1) (okD_ok (by decide +kernel)) rfl
theorem e65_15 : rf d 65 15 ls s h = rf d 65 17 ls (.int 41 :: s) h := rf_pure (i := .bipush (41)) (len := 2) (okD_ok (by decide +kernel)) rfl
theorem e65_17 (hcat : ip_cat s ≤ 8) : rf (d + 1) 65 17 ls (.int x0 :: .ref 4 :: s) (SH n, I, L, R, nc, ns, nx) = rf_k (d + 1) 65 17 ls s (cf d 53 [.ref 4, .int x0] (SH n, I, L, R, nc, ns, nx)) := g_cv (idx := 84) (t := 4) [.int x0] (by decide +kernel) ow65 ms_4_84 mt_4_84 cy53_4 rfl rfl mL53 rfl rfl (by decide) hcat
theorem e65_20 : rf d 65 20 ls (.int x :: s) h = if x = 0 then rf d 65 27 ls s h else rf d 65 23 ls s h := g_if (c := .eq) (off := 7) _ (by decide +kernel) rfl cmp_d
theorem e65_23 : rf d 65 23 ls s h = rf d 65 24 ls (.int 1 :: s) h := rf_pure (i := .iconst (1)) (len := 1) (okD_ok (by decide +kernel)) rfl
theorem e65_24 : rf d 65 24 ls s h = rf d 65 28 ls s h := rf_goto ⟨okD_ok (i := .goto (4)) (len := 3) (by decide +kernel), rfl⟩
theorem e65_27 : rf d 65 27 ls s h = rf d 65 28 ls (.int 0 :: s) h := rf_pure (i := .iconst (0)) (len := 1) (okD_ok (by decide +kernel)) rfl
theorem e65_28 (hx : x = 0 ∨ x = 1) : rf d 65 28 ls [.int x] h = some (.inl (some (.int x)), h) := g_rz (by decide +kernel) rt65 hx
theorem en66 : cf d 66 [.ref a, .int x0] h = rf d 66 0 [some (.ref a), some (.int x0), none, none] [] h := rfl
theorem e66_0 : rf d 66 0 [some (.ref a), l1, l2, l3] s h = rf d 66 1 [some (.ref a), l1, l2, l3] (.ref a :: s) h := rf_pure (i := .aload_n 0) (len := 1) (okD_ok (by decide +kernel)) rfl
theorem e66_1 : rf d 66 1 ls (.ref 4 :: s) (SH n, I, L, R, nc, ns, nx) = rf d 66 4 ls (ip_rf (R 4 1) :: s) (SH n, I, L, R, nc, ns, nx) := g_R (idx := 18) (by decide +kernel) ow66 f_4_18 rfl rfl (by decide) rfl
theorem e66_4 : rf d 66 4 [some (.ref a), l1, l2, l3] s h = rf d 66 5 [some (.ref a), l1, l2, l3] (.ref a :: s) h := rf_pure (i := .aload_n 0) (len := 1) (okD_ok (by decide +kernel)) rfl
theorem e66_5 : rf d 66 5 ls (.ref 4 :: s) (SH n, I, L, R, nc, ns, nx) = rf d 66 8 ls (.int (I 4 5) :: s) (SH n, I, L, R, nc, ns, nx) := g_I (idx := 71) (by decide +kernel) ow66 f_4_71 rfl rfl (by decide)
theorem e66_8 (q : ia n a j) : rf d 66 8 ls (.int j :: .ref a :: s) (SH n, I, L, R, nc, ns, nx) = rf d 66 9 ls (.int (I a j.toNatClampNeg) :: s) (SH n, I, L, R, nc, ns, nx) := g_ial (by decide +kernel) q
theorem e66_9 : rf d 66 9 ls s h = rf d 66 11 ls (.int 48 :: s) h := rf_pure (i := .bipush (48)) (len := 2) (okD_ok (by decide +kernel)) rfl
theorem e66_11 : rf d 66 11 ls (.int y :: .int x :: s) h = rf d 66 12 ls (.int (x - y) :: s) h := rf_pure (i := .isub) (len := 1) (okD_ok (by decide +kernel)) rfl
theorem e66_12 (hn : ip_nl l1 = true) : rf d 66 12 [l0, l1, l2, l3] (.int x :: s) h = rf d 66 13 [l0, l1, some (.int x), l3] s h := g_sti (i := .istore_n 2) (len := 1) (q := 1) (p := 1) (by decide +kernel) rfl rfl hn
theorem e66_13 : rf d 66 13 [some (.ref a), l1, l2, l3] s h = rf d 66 14 [some (.ref a), l1, l2, l3] (.ref a :: s) h := rf_pure (i := .aload_n 0) (len := 1) (okD_ok (by decide +kernel)) rfl
theorem e66_14 (hcat : ip_cat s ≤ 8) : rf (d + 1) 66 14 ls (.ref 4 :: s) (SH n, I, L, R, nc, ns, nx) = rf_k (d + 1) 66 14 ls s (cf d 40 [.ref 4] (SH n, I, L, R, nc, ns, nx)) := g_cv (idx := 48) (t := 4) [] (by decide +kernel) ow66 ms_4_48 mt_4_48 cy40_4 rfl rfl mL40 rfl rfl (by decide) hcat
theorem e66_17 : rf d 66 17 [some (.ref a), l1, l2, l3] s h = rf d 66 18 [some (.ref a), l1, l2, l3] (.ref a :: s) h := rf_pure (i := .aload_n 0) (len := 1) (okD_ok (by decide +kernel)) rfl
theorem e66_18 : rf d 66 18 ls s h = rf d 66 20 ls (.int 12 :: s) h := rf_pure (i := .bipush (12)) (len := 2) (okD_ok (by decide +kernel)) rfl
theorem e66_20 (hcat : ip_cat s ≤ 8) : rf (d + 1) 66 20 ls (.int x0 :: .ref 4 :: s) (SH n, I, L, R, nc, ns, nx) = rf_k (d + 1) 66 20 ls s (cf d 53 [.ref 4, .int x0] (SH n, I, L, R, nc, ns, nx)) := g_cv (idx := 84) (t := 4) [.int x0] (by decide +kernel) ow66 ms_4_84 mt_4_84 cy53_4 rfl rfl mL53 rfl rfl (by decide) hcat
theorem e66_23 : rf d 66 23 ls (.int x :: s) h = if x = 0 then rf d 66 41 ls s h else rf d 66 26 ls s h := g_if (c := .eq) (off := 18) _ (by decide +kernel) rfl cmp_d
theorem e66_26 : rf d 66 26 [some (.ref a), l1, l2, l3] s h = rf d 66 27 [some (.ref a), l1, l2, l3] (.ref a :: s) h := rf_pure (i := .aload_n 0) (len := 1) (okD_ok (by decide +kernel)) rfl
theorem e66_27 : rf d 66 27 ls (.ref 4 :: s) (SH n, I, L, R, nc, ns, nx) = rf d 66 30 ls (.int (I 4 6) :: s) (SH n, I, L, R, nc, ns, nx) := g_I (idx := 51) (by decide +kernel) ow66 f_4_51 rfl rfl (by decide)
theorem e66_30 : rf d 66 30 ls s h = rf d 66 32 ls (.int 40 :: s) h := rf_pure (i := .bipush (40)) (len := 2) (okD_ok (by decide +kernel)) rfl
theorem e66_32 : rf d 66 32 ls (.int y :: .int x :: s) h = if ¬ x = y then rf d 66 41 ls s h else rf d 66 35 ls s h := g_ic (c := .ne) (off := 9) _ (by decide +kernel) rfl cmp_d
theorem e66_35 : rf d 66 35 [l0, some (.int x), l2, l3] s h = rf d 66 36 [l0, some (.int x), l2, l3] (.int x :: s) h := rf_pure (i := .iload_n 1) (len := 1) (okD_ok (by decide +kernel)) rfl
theorem e66_36 : rf d 66 36 ls s h = rf d 66 38 ls (.int 6 :: s) h := rf_pure (i := .bipush (6)) (len := 2) (okD_ok (by decide +kernel)) rfl
theorem e66_38 : rf d 66 38 ls (.int y :: .int x :: s) h = if x < y then rf d 66 43 ls s h else rf d 66 41 ls s h := g_ic (c := .lt) (off := 5) _ (by decide +kernel) rfl cmp_d
theorem e66_41 : rf d 66 41 ls s h = rf d 66 42 ls (.int 0 :: s) h := rf_pure (i := .iconst (0)) (len := 1) (okD_ok (by decide +kernel)) rfl
theorem e66_42 (hx : x = 0 ∨ x = 1) : rf d 66 42 ls [.int x] h = some (.inl (some (.int x)), h) := g_rz (by decide +kernel) rt66 hx
theorem e66_43 : rf d 66 43 ls s h = rf d 66 44 ls (.int 0 :: s) h := rf_pure (i := .iconst (0)) (len := 1) (okD_ok (by decide +kernel)) rfl
theorem e66_44 (hn : ip_nl l2 = true) : rf d 66 44 [l0, l1, l2, l3] (.int x :: s) h = rf d 66 45 [l0, l1, l2, some (.int x)] s h := g_sti (i := .istore_n 3) (len := 1) (q := 2) (p := 1) (by decide +kernel) rfl rfl hn
theorem e66_45 : rf d 66 45 [some (.ref a), l1, l2, l3] s h = rf d 66 46 [some (.ref a), l1, l2, l3] (.ref a :: s) h := rf_pure (i := .aload_n 0) (len := 1) (okD_ok (by decide +kernel)) rfl
theorem e66_46 (hcat : ip_cat s ≤ 8) : rf (d + 1) 66 46 ls (.ref 4 :: s) (SH n, I, L, R, nc, ns, nx) = rf_k (d + 1) 66 46 ls s (cf d 40 [.ref 4] (SH n, I, L, R, nc, ns, nx)) := g_cv (idx := 48) (t := 4) [] (by decide +kernel) ow66 ms_4_48 mt_4_48 cy40_4 rfl rfl mL40 rfl rfl (by decide) hcat
theorem e66_49 : rf d 66 49 [some (.ref a), l1, l2, l3] s h = rf d 66 50 [some (.ref a), l1, l2, l3] (.ref a :: s) h := rf_pure (i := .aload_n 0) (len := 1) (okD_ok (by decide +kernel)) rfl
theorem e66_50 : rf d 66 50 [l0, some (.int x), l2, l3] s h = rf d 66 51 [l0, some (.int x), l2, l3] (.int x :: s) h := rf_pure (i := .iload_n 1) (len := 1) (okD_ok (by decide +kernel)) rfl
theorem e66_51 : rf d 66 51 ls s h = rf d 66 52 ls (.int 1 :: s) h := rf_pure (i := .iconst (1)) (len := 1) (okD_ok (by decide +kernel)) rfl
theorem e66_52 : rf d 66 52 ls (.int y :: .int x :: s) h = rf d 66 53 ls (.int (x + y) :: s) h := rf_pure (i := .iadd) (len := 1) (okD_ok (by decide +kernel)) rfl
theorem e66_53 (hcat : ip_cat s ≤ 8) : rf (d + 1) 66 53 ls (.int x0 :: .ref 4 :: s) (SH n, I, L, R, nc, ns, nx) = rf_k (d + 1) 66 53 ls s (cf d 57 [.ref 4, .int x0] (SH n, I, L, R, nc, ns, nx)) := g_cv (idx := 98) (t := 4) [.int x0] (by decide +kernel) ow66 ms_4_98 mt_4_98 cy57_4 rfl rfl mL57 rfl rfl (by decide) hcat
theorem e66_56 : rf d 66 56 ls (.int x :: s) h = if ¬ x = 0 then rf d 66 61 ls s h else rf d 66 59 ls s h := g_if (c := .ne) (off := 5) _ (by decide +kernel) rfl cmp_d
theorem e66_59 : rf d 66 59 ls s h = rf d 66 60 ls (.int 0 :: s) h := rf_pure (i := .iconst (0)) (len := 1) (okD_ok (by decide +kernel)) rfl
theorem e66_60 (hx : x = 0 ∨ x = 1) : rf d 66 60 ls [.int x] h = some (.inl (some (.int x)), h) := g_rz (by decide +kernel) rt66 hx
theorem e66_61 (hn : ip_nl l2 = true) : rf d 66 61 [l0, l1, l2, some (.int x)] s h = rf d 66 64 [l0, l1, l2, some (.int (x + 1))] s h := g_inc (q := 2) (z := 1) (w := 1) (x := x) (by decide) (by decide +kernel) rfl rfl hn
theorem e66_64 : rf d 66 64 [some (.ref a), l1, l2, l3] s h = rf d 66 65 [some (.ref a), l1, l2, l3] (.ref a :: s) h := rf_pure (i := .aload_n 0) (len := 1) (okD_ok (by decide +kernel)) rfl
theorem e66_65 : rf d 66 65 ls (.ref 4 :: s) (SH n, I, L, R, nc, ns, nx) = rf d 66 68 ls (.int (I 4 6) :: s) (SH n, I, L, R, nc, ns, nx) := g_I (idx := 51) (by decide +kernel) ow66 f_4_51 rfl rfl (by decide)
theorem e66_68 : rf d 66 68 ls s h = rf d 66 70 ls (.int 44 :: s) h := rf_pure (i := .bipush (44)) (len := 2) (okD_ok (by decide +kernel)) rfl
theorem e66_70 : rf d 66 70 ls (.int y :: .int x :: s) h = if ¬ x = y then rf d 66 80 ls s h else rf d 66 73 ls s h := g_ic (c := .ne) (off := 10) _ (by decide +kernel) rfl cmp_d
theorem e66_73 : rf d 66 73 [l0, l1, l2, some (.int x)] s h = rf d 66 74 [l0, l1, l2, some (.int x)] (.int x :: s) h := rf_pure (i := .iload_n 3) (len := 1) (okD_ok (by decide +kernel)) rfl
theorem e66_74 : rf d 66 74 ls s h = rf d 66 77 ls (.int 400 :: s) h := rf_pure (i := .sipush (400)) (len := 3) (okD_ok (by decide +kernel)) rfl
theorem e66_77 : rf d 66 77 ls (.int y :: .int x :: s) h = if x < y then rf d 66 45 ls s h else rf d 66 80 ls s h := g_ic (c := .lt) (off := -32) _ (by decide +kernel) rfl cmp_d
theorem e66_80 : rf d 66 80 [some (.ref a), l1, l2, l3] s h = rf d 66 81 [some (.ref a), l1, l2, l3] (.ref a :: s) h := rf_pure (i := .aload_n 0) (len := 1) (okD_ok (by decide +kernel)) rfl
theorem e66_81 : rf d 66 81 ls s h = rf d 66 83 ls (.int 41 :: s) h := rf_pure (i := .bipush (41)) (len := 2) (okD_ok (by decide +kernel)) rfl
theorem e66_83 (hcat : ip_cat s ≤ 8) : rf (d + 1) 66 83 ls (.int x0 :: .ref 4 :: s) (SH n, I, L, R, nc, ns, nx) = rf_k (d + 1) 66 83 ls s (cf d 53 [.ref 4, .int x0] (SH n, I, L, R, nc, ns, nx)) := g_cv (idx := 84) (t := 4) [.int x0] (by decide +kernel) ow66 ms_4_84 mt_4_84 cy53_4 rfl rfl mL53 rfl rfl (by decide) hcat
theorem e66_86 : rf d 66 86 ls (.int x :: s) h = if ¬ x = 0 then rf d 66 91 ls s h else rf d 66 89 ls s h := g_if (c := .ne) (off := 5) _ (by decide +kernel) rfl cmp_d
theorem e66_89 : rf d 66 89 ls s h = rf d 66 90 ls (.int 0 :: s) h := rf_pure (i := .iconst (0)) (len := 1) (okD_ok (by decide +kernel)) rfl
theorem e66_90 (hx : x = 0 ∨ x = 1) : rf d 66 90 ls [.int x] h = some (.inl (some (.int x)), h) := g_rz (by decide +kernel) rt66 hx
theorem e66_91 : rf d 66 91 [some (.ref a), l1, l2, l3] s h = rf d 66 92 [some (.ref a), l1, l2, l3] (.ref a :: s) h := rf_pure (i := .aload_n 0) (len := 1) (okD_ok (by decide +kernel)) rfl
theorem e66_92 (hR : LYR R) : rf d 66 92 ls (.ref 4 :: s) (SH n, I, L, R, nc, ns, nx) = rf d 66 95 ls (.ref 5 :: s) (SH n, I, L, R, nc, ns, nx) := g_R (idx := 12) (by decide +kernel) ow66 f_4_12 rfl rfl (by decide) (ly_4_0 hR)
theorem e66_95 : rf d 66 95 [l0, l1, some (.int x), l3] s h = rf d 66 96 [l0, l1, some (.int x), l3] (.int x :: s) h := rf_pure (i := .iload_n 2) (len := 1) (okD_ok (by decide +kernel)) rfl
theorem e66_96 : rf d 66 96 [l0, l1, l2, some (.int x)] s h = rf d 66 97 [l0, l1, l2, some (.int x)] (.int x :: s) h := rf_pure (i := .iload_n 3) (len := 1) (okD_ok (by decide +kernel)) rfl
theorem e66_97 (hcat : ip_cat s ≤ 8) : rf (d + 1) 66 97 ls (.int x1 :: .int x0 :: .ref 5 :: s) (SH n, I, L, R, nc, ns, nx) = rf_k (d + 1) 66 97 ls s (cf d 67 [.ref 5, .int x0, .int x1] (SH n, I, L, R, nc, ns, nx)) := g_cv (idx := 141) (t := 5) [.int x1, .int x0] (by decide +kernel) ow66 ms_4_141 mt_4_141 cy67_5 rfl rfl mL67 rfl rfl (by decide) hcat
theorem e66_100 : rf d 66 100 ls s h = rf d 66 101 ls (.int 1 :: s) h := rf_pure (i := .iconst (1)) (len := 1) (okD_ok (by decide +kernel)) rfl
theorem e66_101 (hx : x = 0 ∨ x = 1) : rf d 66 101 ls [.int x] h = some (.inl (some (.int x)), h) := g_rz (by decide +kernel) rt66 hx
end S01
