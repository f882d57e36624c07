/-! STEPS, 6 (printed by wip/whole/gen_steps.py) -/
section S06
variable {n d a b t : Nat} {l0 l1 l2 l3 l4 l5 l6 l7 l8 l9 l10 l11 l12 l13 : Option Value} {ls : List (Option Value)} {s : List Value} {h : ip_H} {I : Nat → Nat → Int32} {L : Nat → Nat → Int64} {R : Nat → Nat → Option Nat} {nc ns : Nat} {nx : Bool} {x y j z sp dp x0 x1 x2 x3 x4 x5 : Int32} {u v u0 u1 u2 u3 : Int64} {a0 a1 a2 a3 a4 : Nat}
theorem en197 : cf d 197 [.ref a] h = rf d 197 0 [some (.ref a)] [] h := rfl
theorem e197_0 : rf d 197 0 [some (.ref a)] s h = rf d 197 1 [some (.ref a)] (.ref a :: s) h := rf_pure (i := .aload_n 0) (len := 1) (okD_ok (by decide +kernel)) rfl
theorem e197_1 : rf d 197 1 ls (.ref 265 :: s) (SH n, I, L, R, nc, ns, nx) = rf d 197 4 ls (.int (I 265 5) :: s) (SH n, I, L, R, nc, ns, nx) := g_I (idx := 13) (by decide +kernel) ow197 f_8_13 rfl rfl (by decide)
theorem e197_4 : rf d 197 4 ls s h = rf d 197 5 ls (.int (-1) :: s) h := rf_pure (i := .iconst (-1)) (len := 1) (okD_ok (by decide +kernel)) rfl
theorem e197_5 : rf d 197 5 ls (.int y :: .int x :: s) h = if ¬ x = y then rf d 197 16 ls s h else rf d 197 8 ls s h := g_ic (c := .ne) (off := 11) _ (by decide +kernel) rfl cmp_d
theorem e197_8 : rf d 197 8 [some (.ref a)] s h = rf d 197 9 [some (.ref a)] (.ref a :: s) h := rf_pure (i := .aload_n 0) (len := 1) (okD_ok (by decide +kernel)) rfl
theorem e197_9 : rf d 197 9 [some (.ref a)] s h = rf d 197 10 [some (.ref a)] (.ref a :: s) h := rf_pure (i := .aload_n 0) (len := 1) (okD_ok (by decide +kernel)) rfl
theorem e197_10 : rf d 197 10 ls (.ref 265 :: s) (SH n, I, L, R, nc, ns, nx) = rf d 197 13 ls (.int (I 265 4) :: s) (SH n, I, L, R, nc, ns, nx) := g_I (idx := 148) (by decide +kernel) ow197 f_8_148 rfl rfl (by decide)
theorem e197_13 : rf d 197 13 ls (.int x :: .ref 265 :: s) (SH n, I, L, R, nc, ns, nx) = rf d 197 16 ls s (SH n, ip_up I 265 5 x, L, R, nc, ns, nx) := g_pI (idx := 13) (by decide +kernel) ow197 f_8_13 rfl (by decide +kernel) rfl (by decide)
theorem e197_16 : rf d 197 16 ls [] h = some (.inl none, h) := g_rv (by decide +kernel) rt197
theorem en198 : cf d 198 [.ref a] h = rf d 198 0 [some (.ref a), none] [] h := rfl
theorem e198_0 : rf d 198 0 [some (.ref a), l1] s h = rf d 198 1 [some (.ref a), l1] (.ref a :: s) h := rf_pure (i := .aload_n 0) (len := 1) (okD_ok (by decide +kernel)) rfl
theorem e198_1 (hcat : ip_cat s ≤ 8) : rf (d + 1) 198 1 ls (.ref 265 :: s) (SH n, I, L, R, nc, ns, nx) = rf_k (d + 1) 198 1 ls s (cf d 195 [.ref 265] (SH n, I, L, R, nc, ns, nx)) := g_cv (idx := 158) (t := 8) [] (by decide +kernel) ow198 ms_8_158 mt_8_158 cy195_8 rfl rfl mL195 rfl rfl (by decide) hcat
theorem e198_4 (hn : ip_nl l0 = true) : rf d 198 4 [l0, l1] (.int x :: s) h = rf d 198 5 [l0, some (.int x)] s h := g_sti (i := .istore_n 1) (len := 1) (q := 0) (p := 1) (by decide +kernel) rfl rfl hn
theorem e198_5 : rf d 198 5 [l0, some (.int x)] s h = rf d 198 6 [l0, some (.int x)] (.int x :: s) h := rf_pure (i := .iload_n 1) (len := 1) (okD_ok (by decide +kernel)) rfl
theorem e198_6 : rf d 198 6 ls (.int x :: s) h = if x ≤ 0 then rf d 198 26 ls s h else rf d 198 9 ls s h := g_if (c := .le) (off := 20) _ (by decide +kernel) rfl cmp_d
theorem e198_9 : rf d 198 9 [l0, some (.int x)] s h = rf d 198 10 [l0, some (.int x)] (.int x :: s) h := rf_pure (i := .iload_n 1) (len := 1) (okD_ok (by decide +kernel)) rfl
theorem e198_10 : rf d 198 10 ls s h = rf d 198 12 ls (.int 6 :: s) h := rf_pure (i := .bipush (6)) (len := 2) (okD_ok (by decide +kernel)) rfl
theorem e198_12 : rf d 198 12 ls (.int y :: .int x :: s) h = if y < x then rf d 198 26 ls s h else rf d 198 15 ls s h := g_ic (c := .gt) (off := 14) _ (by decide +kernel) rfl cmp_d
theorem e198_15 : rf d 198 15 [some (.ref a), l1] s h = rf d 198 16 [some (.ref a), l1] (.ref a :: s) h := rf_pure (i := .aload_n 0) (len := 1) (okD_ok (by decide +kernel)) rfl
theorem e198_16 (hcat : ip_cat s ≤ 8) : rf (d + 1) 198 16 ls (.ref 265 :: s) (SH n, I, L, R, nc, ns, nx) = rf_k (d + 1) 198 16 ls s (cf d 199 [.ref 265] (SH n, I, L, R, nc, ns, nx)) := g_cv (idx := 202) (t := 8) [] (by decide +kernel) ow198 ms_8_202 mt_8_202 cy199_8 rfl rfl mL199 rfl rfl (by decide) hcat
theorem e198_19 : rf d 198 19 ls (.int x :: s) h = if ¬ x = 0 then rf d 198 26 ls s h else rf d 198 22 ls s h := g_if (c := .ne) (off := 7) _ (by decide +kernel) rfl cmp_d
theorem e198_22 : rf d 198 22 ls s h = rf d 198 23 ls (.int 1 :: s) h := rf_pure (i := .iconst (1)) (len := 1) (okD_ok (by decide +kernel)) rfl
theorem e198_23 : rf d 198 23 ls s h = rf d 198 27 ls s h := rf_goto ⟨okD_ok (i := .goto (4)) (len := 3) (by decide +kernel), rfl⟩
theorem e198_26 : rf d 198 26 ls s h = rf d 198 27 ls (.int 0 :: s) h := rf_pure (i := .iconst (0)) (len := 1) (okD_ok (by decide +kernel)) rfl
theorem e198_27 (hx : x = 0 ∨ x = 1) : rf d 198 27 ls [.int x] h = some (.inl (some (.int x)), h) := g_rz (by decide +kernel) rt198 hx
theorem en199 : cf d 199 [.ref a] h = rf d 199 0 [some (.ref a)] [] h := rfl
theorem e199_0 : rf d 199 0 [some (.ref a)] s h = rf d 199 1 [some (.ref a)] (.ref a :: s) h := rf_pure (i := .aload_n 0) (len := 1) (okD_ok (by decide +kernel)) rfl
theorem e199_1 : rf d 199 1 ls s h = rf d 199 3 ls (.ref (tx 28) :: s) h := g_ks (idx := 177) (i := .ldc 177) (len := 2) (by decide +kernel) rfl rfl ow199 kn_8_177 ks_8_177
theorem e199_3 (hcat : ip_cat s ≤ 8) : rf (d + 1) 199 3 ls (.ref a0 :: .ref 265 :: s) (SH n, I, L, R, nc, ns, nx) = rf_k (d + 1) 199 3 ls s (cf d 194 [.ref 265, .ref a0] (SH n, I, L, R, nc, ns, nx)) := g_cv (idx := 170) (t := 8) [.ref a0] (by decide +kernel) ow199 ms_8_170 mt_8_170 cy194_8 rfl rfl mL194 rfl rfl (by decide) hcat
theorem e199_6 : rf d 199 6 ls (.int x :: s) h = if ¬ x = 0 then rf d 199 63 ls s h else rf d 199 9 ls s h := g_if (c := .ne) (off := 57) _ (by decide +kernel) rfl cmp_d
theorem e199_9 : rf d 199 9 [some (.ref a)] s h = rf d 199 10 [some (.ref a)] (.ref a :: s) h := rf_pure (i := .aload_n 0) (len := 1) (okD_ok (by decide +kernel)) rfl
theorem e199_10 : rf d 199 10 ls s h = rf d 199 12 ls (.ref (tx 29) :: s) h := g_ks (idx := 179) (i := .ldc 179) (len := 2) (by decide +kernel) rfl rfl ow199 kn_8_179 ks_8_179
theorem e199_12 (hcat : ip_cat s ≤ 8) : rf (d + 1) 199 12 ls (.ref a0 :: .ref 265 :: s) (SH n, I, L, R, nc, ns, nx) = rf_k (d + 1) 199 12 ls s (cf d 194 [.ref 265, .ref a0] (SH n, I, L, R, nc, ns, nx)) := g_cv (idx := 170) (t := 8) [.ref a0] (by decide +kernel) ow199 ms_8_170 mt_8_170 cy194_8 rfl rfl mL194 rfl rfl (by decide) hcat
theorem e199_15 : rf d 199 15 ls (.int x :: s) h = if ¬ x = 0 then rf d 199 63 ls s h else rf d 199 18 ls s h := g_if (c := .ne) (off := 48) _ (by decide +kernel) rfl cmp_d
theorem e199_18 : rf d 199 18 [some (.ref a)] s h = rf d 199 19 [some (.ref a)] (.ref a :: s) h := rf_pure (i := .aload_n 0) (len := 1) (okD_ok (by decide +kernel)) rfl
theorem e199_19 : rf d 199 19 ls s h = rf d 199 21 ls (.ref (tx 30) :: s) h := g_ks (idx := 181) (i := .ldc 181) (len := 2) (by decide +kernel) rfl rfl ow199 kn_8_181 ks_8_181
theorem e199_21 (hcat : ip_cat s ≤ 8) : rf (d + 1) 199 21 ls (.ref a0 :: .ref 265 :: s) (SH n, I, L, R, nc, ns, nx) = rf_k (d + 1) 199 21 ls s (cf d 194 [.ref 265, .ref a0] (SH n, I, L, R, nc, ns, nx)) := g_cv (idx := 170) (t := 8) [.ref a0] (by decide +kernel) ow199 ms_8_170 mt_8_170 cy194_8 rfl rfl mL194 rfl rfl (by decide) hcat
theorem e199_24 : rf d 199 24 ls (.int x :: s) h = if ¬ x = 0 then rf d 199 63 ls s h else rf d 199 27 ls s h := g_if (c := .ne) (off := 39) _ (by decide +kernel) rfl cmp_d
theorem e199_27 : rf d 199 27 [some (.ref a)] s h = rf d 199 28 [some (.ref a)] (.ref a :: s) h := rf_pure (i := .aload_n 0) (len := 1) (okD_ok (by decide +kernel)) rfl
theorem e199_28 : rf d 199 28 ls s h = rf d 199 30 ls (.ref (tx 31) :: s) h := g_ks (idx := 183) (i := .ldc 183) (len := 2) (by decide +kernel) rfl rfl ow199 kn_8_183 ks_8_183
theorem e199_30 (hcat : ip_cat s ≤ 8) : rf (d + 1) 199 30 ls (.ref a0 :: .ref 265 :: s) (SH n, I, L, R, nc, ns, nx) = rf_k (d + 1) 199 30 ls s (cf d 194 [.ref 265, .ref a0] (SH n, I, L, R, nc, ns, nx)) := g_cv (idx := 170) (t := 8) [.ref a0] (by decide +kernel) ow199 ms_8_170 mt_8_170 cy194_8 rfl rfl mL194 rfl rfl (by decide) hcat
theorem e199_33 : rf d 199 33 ls (.int x :: s) h = if ¬ x = 0 then rf d 199 63 ls s h else rf d 199 36 ls s h := g_if (c := .ne) (off := 30) _ (by decide +kernel) rfl cmp_d
theorem e199_36 : rf d 199 36 [some (.ref a)] s h = rf d 199 37 [some (.ref a)] (.ref a :: s) h := rf_pure (i := .aload_n 0) (len := 1) (okD_ok (by decide +kernel)) rfl
theorem e199_37 : rf d 199 37 ls s h = rf d 199 39 ls (.ref (tx 32) :: s) h := g_ks (idx := 185) (i := .ldc 185) (len := 2) (by decide +kernel) rfl rfl ow199 kn_8_185 ks_8_185
theorem e199_39 (hcat : ip_cat s ≤ 8) : rf (d + 1) 199 39 ls (.ref a0 :: .ref 265 :: s) (SH n, I, L, R, nc, ns, nx) = rf_k (d + 1) 199 39 ls s (cf d 194 [.ref 265, .ref a0] (SH n, I, L, R, nc, ns, nx)) := g_cv (idx := 170) (t := 8) [.ref a0] (by decide +kernel) ow199 ms_8_170 mt_8_170 cy194_8 rfl rfl mL194 rfl rfl (by decide) hcat
theorem e199_42 : rf d 199 42 ls (.int x :: s) h = if ¬ x = 0 then rf d 199 63 ls s h else rf d 199 45 ls s h := g_if (c := .ne) (off := 21) _ (by decide +kernel) rfl cmp_d
theorem e199_45 : rf d 199 45 [some (.ref a)] s h = rf d 199 46 [some (.ref a)] (.ref a :: s) h := rf_pure (i := .aload_n 0) (len := 1) (okD_ok (by decide +kernel)) rfl
theorem e199_46 : rf d 199 46 ls s h = rf d 199 48 ls (.ref (tx 33) :: s) h := g_ks (idx := 186) (i := .ldc 186) (len := 2) (by decide +kernel) rfl rfl ow199 kn_8_186 ks_8_186
theorem e199_48 (hcat : ip_cat s ≤ 8) : rf (d + 1) 199 48 ls (.ref a0 :: .ref 265 :: s) (SH n, I, L, R, nc, ns, nx) = rf_k (d + 1) 199 48 ls s (cf d 194 [.ref 265, .ref a0] (SH n, I, L, R, nc, ns, nx)) := g_cv (idx := 170) (t := 8) [.ref a0] (by decide +kernel) ow199 ms_8_170 mt_8_170 cy194_8 rfl rfl mL194 rfl rfl (by decide) hcat
theorem e199_51 : rf d 199 51 ls (.int x :: s) h = if ¬ x = 0 then rf d 199 63 ls s h else rf d 199 54 ls s h := g_if (c := .ne) (off := 12) _ (by decide +kernel) rfl cmp_d
theorem e199_54 : rf d 199 54 [some (.ref a)] s h = rf d 199 55 [some (.ref a)] (.ref a :: s) h := rf_pure (i := .aload_n 0) (len := 1) (okD_ok (by decide +kernel)) rfl
theorem e199_55 : rf d 199 55 ls s h = rf d 199 57 ls (.ref (tx 21) :: s) h := g_ks (idx := 188) (i := .ldc 188) (len := 2) (by decide +kernel) rfl rfl ow199 kn_8_188 ks_8_188
theorem e199_57 (hcat : ip_cat s ≤ 8) : rf (d + 1) 199 57 ls (.ref a0 :: .ref 265 :: s) (SH n, I, L, R, nc, ns, nx) = rf_k (d + 1) 199 57 ls s (cf d 194 [.ref 265, .ref a0] (SH n, I, L, R, nc, ns, nx)) := g_cv (idx := 170) (t := 8) [.ref a0] (by decide +kernel) ow199 ms_8_170 mt_8_170 cy194_8 rfl rfl mL194 rfl rfl (by decide) hcat
theorem e199_60 : rf d 199 60 ls (.int x :: s) h = if x = 0 then rf d 199 65 ls s h else rf d 199 63 ls s h := g_if (c := .eq) (off := 5) _ (by decide +kernel) rfl cmp_d
theorem e199_63 : rf d 199 63 ls s h = rf d 199 64 ls (.int 1 :: s) h := rf_pure (i := .iconst (1)) (len := 1) (okD_ok (by decide +kernel)) rfl
theorem e199_64 (hx : x = 0 ∨ x = 1) : rf d 199 64 ls [.int x] h = some (.inl (some (.int x)), h) := g_rz (by decide +kernel) rt199 hx
theorem e199_65 : rf d 199 65 [some (.ref a)] s h = rf d 199 66 [some (.ref a)] (.ref a :: s) h := rf_pure (i := .aload_n 0) (len := 1) (okD_ok (by decide +kernel)) rfl
theorem e199_66 : rf d 199 66 ls s h = rf d 199 68 ls (.ref (tx 22) :: s) h := g_ks (idx := 190) (i := .ldc 190) (len := 2) (by decide +kernel) rfl rfl ow199 kn_8_190 ks_8_190
theorem e199_68 (hcat : ip_cat s ≤ 8) : rf (d + 1) 199 68 ls (.ref a0 :: .ref 265 :: s) (SH n, I, L, R, nc, ns, nx) = rf_k (d + 1) 199 68 ls s (cf d 194 [.ref 265, .ref a0] (SH n, I, L, R, nc, ns, nx)) := g_cv (idx := 170) (t := 8) [.ref a0] (by decide +kernel) ow199 ms_8_170 mt_8_170 cy194_8 rfl rfl mL194 rfl rfl (by decide) hcat
theorem e199_71 : rf d 199 71 ls (.int x :: s) h = if ¬ x = 0 then rf d 199 119 ls s h else rf d 199 74 ls s h := g_if (c := .ne) (off := 48) _ (by decide +kernel) rfl cmp_d
theorem e199_74 : rf d 199 74 [some (.ref a)] s h = rf d 199 75 [some (.ref a)] (.ref a :: s) h := rf_pure (i := .aload_n 0) (len := 1) (okD_ok (by decide +kernel)) rfl
theorem e199_75 : rf d 199 75 ls s h = rf d 199 77 ls (.ref (tx 34) :: s) h := g_ks (idx := 192) (i := .ldc 192) (len := 2) (by decide +kernel) rfl rfl ow199 kn_8_192 ks_8_192
theorem e199_77 (hcat : ip_cat s ≤ 8) : rf (d + 1) 199 77 ls (.ref a0 :: .ref 265 :: s) (SH n, I, L, R, nc, ns, nx) = rf_k (d + 1) 199 77 ls s (cf d 194 [.ref 265, .ref a0] (SH n, I, L, R, nc, ns, nx)) := g_cv (idx := 170) (t := 8) [.ref a0] (by decide +kernel) ow199 ms_8_170 mt_8_170 cy194_8 rfl rfl mL194 rfl rfl (by decide) hcat
theorem e199_80 : rf d 199 80 ls (.int x :: s) h = if ¬ x = 0 then rf d 199 119 ls s h else rf d 199 83 ls s h := g_if (c := .ne) (off := 39) _ (by decide +kernel) rfl cmp_d
theorem e199_83 : rf d 199 83 [some (.ref a)] s h = rf d 199 84 [some (.ref a)] (.ref a :: s) h := rf_pure (i := .aload_n 0) (len := 1) (okD_ok (by decide +kernel)) rfl
theorem e199_84 : rf d 199 84 ls s h = rf d 199 86 ls (.ref (tx 35) :: s) h := g_ks (idx := 194) (i := .ldc 194) (len := 2) (by decide +kernel) rfl rfl ow199 kn_8_194 ks_8_194
theorem e199_86 (hcat : ip_cat s ≤ 8) : rf (d + 1) 199 86 ls (.ref a0 :: .ref 265 :: s) (SH n, I, L, R, nc, ns, nx) = rf_k (d + 1) 199 86 ls s (cf d 194 [.ref 265, .ref a0] (SH n, I, L, R, nc, ns, nx)) := g_cv (idx := 170) (t := 8) [.ref a0] (by decide +kernel) ow199 ms_8_170 mt_8_170 cy194_8 rfl rfl mL194 rfl rfl (by decide) hcat
theorem e199_89 : rf d 199 89 ls (.int x :: s) h = if ¬ x = 0 then rf d 199 119 ls s h else rf d 199 92 ls s h := g_if (c := .ne) (off := 30) _ (by decide +kernel) rfl cmp_d
theorem e199_92 : rf d 199 92 [some (.ref a)] s h = rf d 199 93 [some (.ref a)] (.ref a :: s) h := rf_pure (i := .aload_n 0) (len := 1) (okD_ok (by decide +kernel)) rfl
theorem e199_93 : rf d 199 93 ls s h = rf d 199 95 ls (.ref (tx 36) :: s) h := g_ks (idx := 196) (i := .ldc 196) (len := 2) (by decide +kernel) rfl rfl ow199 kn_8_196 ks_8_196
theorem e199_95 (hcat : ip_cat s ≤ 8) : rf (d + 1) 199 95 ls (.ref a0 :: .ref 265 :: s) (SH n, I, L, R, nc, ns, nx) = rf_k (d + 1) 199 95 ls s (cf d 194 [.ref 265, .ref a0] (SH n, I, L, R, nc, ns, nx)) := g_cv (idx := 170) (t := 8) [.ref a0] (by decide +kernel) ow199 ms_8_170 mt_8_170 cy194_8 rfl rfl mL194 rfl rfl (by decide) hcat
theorem e199_98 : rf d 199 98 ls (.int x :: s) h = if ¬ x = 0 then rf d 199 119 ls s h else rf d 199 101 ls s h := g_if (c := .ne) (off := 21) _ (by decide +kernel) rfl cmp_d
theorem e199_101 : rf d 199 101 [some (.ref a)] s h = rf d 199 102 [some (.ref a)] (.ref a :: s) h := rf_pure (i := .aload_n 0) (len := 1) (okD_ok (by decide +kernel)) rfl
theorem e199_102 : rf d 199 102 ls s h = rf d 199 104 ls (.ref (tx 37) :: s) h := g_ks (idx := 198) (i := .ldc 198) (len := 2) (by decide +kernel) rfl rfl ow199 kn_8_198 ks_8_198
theorem e199_104 (hcat : ip_cat s ≤ 8) : rf (d + 1) 199 104 ls (.ref a0 :: .ref 265 :: s) (SH n, I, L, R, nc, ns, nx) = rf_k (d + 1) 199 104 ls s (cf d 194 [.ref 265, .ref a0] (SH n, I, L, R, nc, ns, nx)) := g_cv (idx := 170) (t := 8) [.ref a0] (by decide +kernel) ow199 ms_8_170 mt_8_170 cy194_8 rfl rfl mL194 rfl rfl (by decide) hcat
theorem e199_107 : rf d 199 107 ls (.int x :: s) h = if ¬ x = 0 then rf d 199 119 ls s h else rf d 199 110 ls s h := g_if (c := .ne) (off := 12) _ (by decide +kernel) rfl cmp_d
theorem e199_110 : rf d 199 110 [some (.ref a)] s h = rf d 199 111 [some (.ref a)] (.ref a :: s) h := rf_pure (i := .aload_n 0) (len := 1) (okD_ok (by decide +kernel)) rfl
theorem e199_111 : rf d 199 111 ls s h = rf d 199 113 ls (.ref (tx 38) :: s) h := g_ks (idx := 200) (i := .ldc 200) (len := 2) (by decide +kernel) rfl rfl ow199 kn_8_200 ks_8_200
theorem e199_113 (hcat : ip_cat s ≤ 8) : rf (d + 1) 199 113 ls (.ref a0 :: .ref 265 :: s) (SH n, I, L, R, nc, ns, nx) = rf_k (d + 1) 199 113 ls s (cf d 194 [.ref 265, .ref a0] (SH n, I, L, R, nc, ns, nx)) := g_cv (idx := 170) (t := 8) [.ref a0] (by decide +kernel) ow199 ms_8_170 mt_8_170 cy194_8 rfl rfl mL194 rfl rfl (by decide) hcat
theorem e199_116 : rf d 199 116 ls (.int x :: s) h = if x = 0 then rf d 199 123 ls s h else rf d 199 119 ls s h := g_if (c := .eq) (off := 7) _ (by decide +kernel) rfl cmp_d
theorem e199_119 : rf d 199 119 ls s h = rf d 199 120 ls (.int 1 :: s) h := rf_pure (i := .iconst (1)) (len := 1) (okD_ok (by decide +kernel)) rfl
theorem e199_120 : rf d 199 120 ls s h = rf d 199 124 ls s h := rf_goto ⟨okD_ok (i := .goto (4)) (len := 3) (by decide +kernel), rfl⟩
theorem e199_123 : rf d 199 123 ls s h = rf d 199 124 ls (.int 0 :: s) h := rf_pure (i := .iconst (0)) (len := 1) (okD_ok (by decide +kernel)) rfl
theorem e199_124 (hx : x = 0 ∨ x = 1) : rf d 199 124 ls [.int x] h = some (.inl (some (.int x)), h) := g_rz (by decide +kernel) rt199 hx
theorem en200 : cf d 200 [.ref a] h = rf d 200 0 [some (.ref a), none, none, none] [] h := rfl
theorem e200_0 : rf d 200 0 [some (.ref a), l1, l2, l3] s h = rf d 200 1 [some (.ref a), l1, l2, l3] (.ref a :: s) h := rf_pure (i := .aload_n 0) (len := 1) (okD_ok (by decide +kernel)) rfl
theorem e200_1 (hcat : ip_cat s ≤ 8) : rf (d + 1) 200 1 ls (.ref 265 :: s) (SH n, I, L, R, nc, ns, nx) = rf_k (d + 1) 200 1 ls s (cf d 201 [.ref 265] (SH n, I, L, R, nc, ns, nx)) := g_cv (idx := 214) (t := 8) [] (by decide +kernel) ow200 ms_8_214 mt_8_214 cy201_8 rfl rfl mL201 rfl rfl (by decide) hcat
theorem e200_4 (hn : ip_nl l0 = true) : rf d 200 4 [l0, l1, l2, l3] (.long u :: s) h = rf d 200 5 [l0, some (.long u), none, l3] s h := g_stl (i := .lstore_n 1) (len := 1) (q := 0) (p := 1) (by decide +kernel) rfl rfl hn
theorem e200_5 : rf d 200 5 ls s h = rf d 200 6 ls (.int 0 :: s) h := rf_pure (i := .iconst (0)) (len := 1) (okD_ok (by decide +kernel)) rfl
theorem e200_6 (hn : ip_nl l2 = true) : rf d 200 6 [l0, l1, l2, l3] (.int x :: s) h = rf d 200 7 [l0, l1, l2, some (.int x)] s h := g_sti (i := .istore_n 3) (len := 1) (q := 2) (p := 1) (by decide +kernel) rfl rfl hn
theorem e200_7 : rf d 200 7 [l0, l1, l2, some (.int x)] s h = rf d 200 8 [l0, l1, l2, some (.int x)] (.int x :: s) h := rf_pure (i := .iload_n 3) (len := 1) (okD_ok (by decide +kernel)) rfl
theorem e200_8 : rf d 200 8 [some (.ref a), l1, l2, l3] s h = rf d 200 9 [some (.ref a), l1, l2, l3] (.ref a :: s) h := rf_pure (i := .aload_n 0) (len := 1) (okD_ok (by decide +kernel)) rfl
theorem e200_9 : rf d 200 9 ls (.ref 265 :: s) (SH n, I, L, R, nc, ns, nx) = rf d 200 12 ls (.int (I 265 6) :: s) (SH n, I, L, R, nc, ns, nx) := g_I (idx := 218) (by decide +kernel) ow200 f_8_218 rfl rfl (by decide)
theorem e200_12 : rf d 200 12 ls (.int y :: .int x :: s) h = if y ≤ x then rf d 200 34 ls s h else rf d 200 15 ls s h := g_ic (c := .ge) (off := 22) _ (by decide +kernel) rfl cmp_d
theorem e200_15 : rf d 200 15 [some (.ref a), l1, l2, l3] s h = rf d 200 16 [some (.ref a), l1, l2, l3] (.ref a :: s) h := rf_pure (i := .aload_n 0) (len := 1) (okD_ok (by decide +kernel)) rfl
theorem e200_16 (hR : LYR R) : rf d 200 16 ls (.ref 265 :: s) (SH n, I, L, R, nc, ns, nx) = rf d 200 19 ls (.ref 267 :: s) (SH n, I, L, R, nc, ns, nx) := g_R (idx := 17) (by decide +kernel) ow200 f_8_17 rfl rfl (by decide) (ly_265_10 hR)
theorem e200_19 : rf d 200 19 [l0, l1, l2, some (.int x)] s h = rf d 200 20 [l0, l1, l2, some (.int x)] (.int x :: s) h := rf_pure (i := .iload_n 3) (len := 1) (okD_ok (by decide +kernel)) rfl
theorem e200_20 (q : la n a j) : rf d 200 20 ls (.int j :: .ref a :: s) (SH n, I, L, R, nc, ns, nx) = rf d 200 21 ls (.long (L a j.toNatClampNeg) :: s) (SH n, I, L, R, nc, ns, nx) := g_lal (by decide +kernel) q
theorem e200_21 : rf d 200 21 [l0, some (.long u), l2, l3] s h = rf d 200 22 [l0, some (.long u), l2, l3] (.long u :: s) h := rf_pure (i := .lload_n 1) (len := 1) (okD_ok (by decide +kernel)) rfl
theorem e200_22 : rf d 200 22 ls (.long v :: .long u :: s) h = rf d 200 23 ls (.int (lg_cmp u v) :: s) h := rf_pure (i := .lcmp) (len := 1) (okD_ok (by decide +kernel)) rfl
theorem e200_23 : rf d 200 23 ls (.int x :: s) h = if ¬ x = 0 then rf d 200 28 ls s h else rf d 200 26 ls s h := g_if (c := .ne) (off := 5) _ (by decide +kernel) rfl cmp_d
theorem e200_26 : rf d 200 26 [l0, l1, l2, some (.int x)] s h = rf d 200 27 [l0, l1, l2, some (.int x)] (.int x :: s) h := rf_pure (i := .iload_n 3) (len := 1) (okD_ok (by decide +kernel)) rfl
theorem e200_27 : rf d 200 27 ls [.int x] h = some (.inl (some (.int x)), h) := g_ri (by decide +kernel) rt200
theorem e200_28 (hn : ip_nl l2 = true) : rf d 200 28 [l0, l1, l2, some (.int x)] s h = rf d 200 31 [l0, l1, l2, some (.int (x + 1))] s h := g_inc (q := 2) (z := 1) (w := 1) (x := x) (by decide) (by decide +kernel) rfl rfl hn
theorem e200_31 : rf d 200 31 ls s h = rf d 200 7 ls s h := rf_goto ⟨okD_ok (i := .goto (-24)) (len := 3) (by decide +kernel), rfl⟩
theorem e200_34 : rf d 200 34 ls s h = rf d 200 35 ls (.int (-1) :: s) h := rf_pure (i := .iconst (-1)) (len := 1) (okD_ok (by decide +kernel)) rfl
theorem e200_35 : rf d 200 35 ls [.int x] h = some (.inl (some (.int x)), h) := g_ri (by decide +kernel) rt200
theorem en201 : cf d 201 [.ref a] h = rf d 201 0 [some (.ref a), none, none, none, none] [] h := rfl
theorem e201_0 : rf d 201 0 ls s h = rf d 201 1 ls (.long 0 :: s) h := rf_pure (i := .lconst 0) (len := 1) (okD_ok (by decide +kernel)) rfl
theorem e201_1 (hn : ip_nl l0 = true) : rf d 201 1 [l0, l1, l2, l3, l4] (.long u :: s) h = rf d 201 2 [l0, some (.long u), none, l3, l4] s h := g_stl (i := .lstore_n 1) (len := 1) (q := 0) (p := 1) (by decide +kernel) rfl rfl hn
theorem e201_2 : rf d 201 2 [some (.ref a), l1, l2, l3, l4] s h = rf d 201 3 [some (.ref a), l1, l2, l3, l4] (.ref a :: s) h := rf_pure (i := .aload_n 0) (len := 1) (okD_ok (by decide +kernel)) rfl
theorem e201_3 (hcat : ip_cat s ≤ 8) : rf (d + 1) 201 3 ls (.ref 265 :: s) (SH n, I, L, R, nc, ns, nx) = rf_k (d + 1) 201 3 ls s (cf d 195 [.ref 265] (SH n, I, L, R, nc, ns, nx)) := g_cv (idx := 158) (t := 8) [] (by decide +kernel) ow201 ms_8_158 mt_8_158 cy195_8 rfl rfl mL195 rfl rfl (by decide) hcat
theorem e201_6 (hn : ip_nl l2 = true) : rf d 201 6 [l0, l1, l2, l3, l4] (.int x :: s) h = rf d 201 7 [l0, l1, l2, some (.int x), l4] s h := g_sti (i := .istore_n 3) (len := 1) (q := 2) (p := 1) (by decide +kernel) rfl rfl hn
theorem e201_7 : rf d 201 7 ls s h = rf d 201 8 ls (.int 0 :: s) h := rf_pure (i := .iconst (0)) (len := 1) (okD_ok (by decide +kernel)) rfl
theorem e201_8 (hn : ip_nl l3 = true) : rf d 201 8 [l0, l1, l2, l3, l4] (.int x :: s) h = rf d 201 10 [l0, l1, l2, l3, some (.int x)] s h := g_sti (i := .istore 4) (len := 2) (q := 3) (p := 2) (by decide +kernel) rfl rfl hn
theorem e201_10 : rf d 201 10 [l0, l1, l2, l3, some (.int x)] s h = rf d 201 12 [l0, l1, l2, l3, some (.int x)] (.int x :: s) h := rf_pure (i := .iload 4) (len := 2) (okD_ok (by decide +kernel)) rfl
theorem e201_12 : rf d 201 12 [l0, l1, l2, some (.int x), l4] s h = rf d 201 13 [l0, l1, l2, some (.int x), l4] (.int x :: s) h := rf_pure (i := .iload_n 3) (len := 1) (okD_ok (by decide +kernel)) rfl
theorem e201_13 : rf d 201 13 ls (.int y :: .int x :: s) h = if y ≤ x then rf d 201 48 ls s h else rf d 201 16 ls s h := g_ic (c := .ge) (off := 35) _ (by decide +kernel) rfl cmp_d
theorem e201_16 : rf d 201 16 ls s h = rf d 201 19 ls (.long 32 :: s) h := g_kl (idx := 206) (by decide +kernel) ow201 kl_8_206
theorem e201_19 : rf d 201 19 [l0, some (.long u), l2, l3, l4] s h = rf d 201 20 [l0, some (.long u), l2, l3, l4] (.long u :: s) h := rf_pure (i := .lload_n 1) (len := 1) (okD_ok (by decide +kernel)) rfl
theorem e201_20 : rf d 201 20 ls (.long v :: .long u :: s) h = rf d 201 21 ls (.long (u * v) :: s) h := rf_pure (i := .lmul) (len := 1) (okD_ok (by decide +kernel)) rfl
theorem e201_21 : rf d 201 21 [some (.ref a), l1, l2, l3, l4] s h = rf d 201 22 [some (.ref a), l1, l2, l3, l4] (.ref a :: s) h := rf_pure (i := .aload_n 0) (len := 1) (okD_ok (by decide +kernel)) rfl
theorem e201_22 (hR : LYR R) : rf d 201 22 ls (.ref 265 :: s) (SH n, I, L, R, nc, ns, nx) = rf d 201 25 ls (.ref 266 :: s) (SH n, I, L, R, nc, ns, nx) := g_R (idx := 7) (by decide +kernel) ow201 f_8_7 rfl rfl (by decide) (ly_265_1 hR)
theorem e201_25 : rf d 201 25 [some (.ref a), l1, l2, l3, l4] s h = rf d 201 26 [some (.ref a), l1, l2, l3, l4] (.ref a :: s) h := rf_pure (i := .aload_n 0) (len := 1) (okD_ok (by decide +kernel)) rfl
theorem e201_26 : rf d 201 26 ls (.ref 265 :: s) (SH n, I, L, R, nc, ns, nx) = rf d 201 29 ls (.int (I 265 4) :: s) (SH n, I, L, R, nc, ns, nx) := g_I (idx := 148) (by decide +kernel) ow201 f_8_148 rfl rfl (by decide)
theorem e201_29 : rf d 201 29 [l0, l1, l2, l3, some (.int x)] s h = rf d 201 31 [l0, l1, l2, l3, some (.int x)] (.int x :: s) h := rf_pure (i := .iload 4) (len := 2) (okD_ok (by decide +kernel)) rfl
theorem e201_31 : rf d 201 31 ls (.int y :: .int x :: s) h = rf d 201 32 ls (.int (x + y) :: s) h := rf_pure (i := .iadd) (len := 1) (okD_ok (by decide +kernel)) rfl
theorem e201_32 (q : ia n a j) : rf d 201 32 ls (.int j :: .ref a :: s) (SH n, I, L, R, nc, ns, nx) = rf d 201 33 ls (.int (I a j.toNatClampNeg) :: s) (SH n, I, L, R, nc, ns, nx) := g_ial (by decide +kernel) q
theorem e201_33 : rf d 201 33 ls (.int x :: s) h = rf d 201 34 ls (.long x.toInt64 :: s) h := rf_pure (i := .i2l) (len := 1) (okD_ok (by decide +kernel)) rfl
theorem e201_34 : rf d 201 34 ls (.long v :: .long u :: s) h = rf d 201 35 ls (.long (u + v) :: s) h := rf_pure (i := .ladd) (len := 1) (okD_ok (by decide +kernel)) rfl
theorem e201_35 : rf d 201 35 ls s h = rf d 201 38 ls (.long 97 :: s) h := g_kl (idx := 208) (by decide +kernel) ow201 kl_8_208
theorem e201_38 : rf d 201 38 ls (.long v :: .long u :: s) h = rf d 201 39 ls (.long (u - v) :: s) h := rf_pure (i := .lsub) (len := 1) (okD_ok (by decide +kernel)) rfl
theorem e201_39 : rf d 201 39 ls s h = rf d 201 40 ls (.long 1 :: s) h := rf_pure (i := .lconst 1) (len := 1) (okD_ok (by decide +kernel)) rfl
theorem e201_40 : rf d 201 40 ls (.long v :: .long u :: s) h = rf d 201 41 ls (.long (u + v) :: s) h := rf_pure (i := .ladd) (len := 1) (okD_ok (by decide +kernel)) rfl
theorem e201_41 (hn : ip_nl l0 = true) : rf d 201 41 [l0, l1, l2, l3, l4] (.long u :: s) h = rf d 201 42 [l0, some (.long u), none, l3, l4] s h := g_stl (i := .lstore_n 1) (len := 1) (q := 0) (p := 1) (by decide +kernel) rfl rfl hn
theorem e201_42 (hn : ip_nl l3 = true) : rf d 201 42 [l0, l1, l2, l3, some (.int x)] s h = rf d 201 45 [l0, l1, l2, l3, some (.int (x + 1))] s h := g_inc (q := 3) (z := 1) (w := 1) (x := x) (by decide) (by decide +kernel) rfl rfl hn
theorem e201_45 : rf d 201 45 ls s h = rf d 201 10 ls s h := rf_goto ⟨okD_ok (i := .goto (-35)) (len := 3) (by decide +kernel), rfl⟩
theorem e201_48 : rf d 201 48 [l0, some (.long u), l2, l3, l4] s h = rf d 201 49 [l0, some (.long u), l2, l3, l4] (.long u :: s) h := rf_pure (i := .lload_n 1) (len := 1) (okD_ok (by decide +kernel)) rfl
theorem e201_49 : rf d 201 49 ls [.long u] h = some (.inl (some (.long u)), h) := g_rl (by decide +kernel) rt201
theorem en202 : cf d 202 [.ref a, .ref a0] h = rf d 202 0 [some (.ref a), some (.ref a0)] [] h := rfl
theorem e202_0 : rf d 202 0 [some (.ref a), l1] s h = rf d 202 1 [some (.ref a), l1] (.ref a :: s) h := rf_pure (i := .aload_n 0) (len := 1) (okD_ok (by decide +kernel)) rfl
theorem e202_1 : rf d 202 1 ls (.ref 265 :: s) (SH n, I, L, R, nc, ns, nx) = rf d 202 4 ls (.int (I 265 5) :: s) (SH n, I, L, R, nc, ns, nx) := g_I (idx := 13) (by decide +kernel) ow202 f_8_13 rfl rfl (by decide)
theorem e202_4 : rf d 202 4 ls s h = rf d 202 5 ls (.int (-1) :: s) h := rf_pure (i := .iconst (-1)) (len := 1) (okD_ok (by decide +kernel)) rfl
theorem e202_5 : rf d 202 5 ls (.int y :: .int x :: s) h = if ¬ x = y then rf d 202 16 ls s h else rf d 202 8 ls s h := g_ic (c := .ne) (off := 11) _ (by decide +kernel) rfl cmp_d
theorem e202_8 : rf d 202 8 [some (.ref a), l1] s h = rf d 202 9 [some (.ref a), l1] (.ref a :: s) h := rf_pure (i := .aload_n 0) (len := 1) (okD_ok (by decide +kernel)) rfl
theorem e202_9 : rf d 202 9 [l0, some (.ref a)] s h = rf d 202 10 [l0, some (.ref a)] (.ref a :: s) h := rf_pure (i := .aload_n 1) (len := 1) (okD_ok (by decide +kernel)) rfl
theorem e202_10 (hcat : ip_cat s ≤ 8) : rf (d + 1) 202 10 ls (.ref a0 :: .ref 265 :: s) (SH n, I, L, R, nc, ns, nx) = rf_k (d + 1) 202 10 ls s (cf d 194 [.ref 265, .ref a0] (SH n, I, L, R, nc, ns, nx)) := g_cv (idx := 170) (t := 8) [.ref a0] (by decide +kernel) ow202 ms_8_170 mt_8_170 cy194_8 rfl rfl mL194 rfl rfl (by decide) hcat
theorem e202_13 : rf d 202 13 ls (.int x :: s) h = if ¬ x = 0 then rf d 202 18 ls s h else rf d 202 16 ls s h := g_if (c := .ne) (off := 5) _ (by decide +kernel) rfl cmp_d
theorem e202_16 : rf d 202 16 ls s h = rf d 202 17 ls (.int 0 :: s) h := rf_pure (i := .iconst (0)) (len := 1) (okD_ok (by decide +kernel)) rfl
theorem e202_17 (hx : x = 0 ∨ x = 1) : rf d 202 17 ls [.int x] h = some (.inl (some (.int x)), h) := g_rz (by decide +kernel) rt202 hx
theorem e202_18 : rf d 202 18 [some (.ref a), l1] s h = rf d 202 19 [some (.ref a), l1] (.ref a :: s) h := rf_pure (i := .aload_n 0) (len := 1) (okD_ok (by decide +kernel)) rfl
theorem e202_19 : rf d 202 19 ls (.int x :: s) h = rf d 202 20 ls (.int x :: .int x :: s) h := rf_pure (i := .dup) (len := 1) (okD_ok (by decide +kernel)) rfl
theorem e202_19r : rf d 202 19 ls (.ref a :: s) h = rf d 202 20 ls (.ref a :: .ref a :: s) h := rf_pure (i := .dup) (len := 1) (okD_ok (by decide +kernel)) rfl
theorem e202_20 : rf d 202 20 ls (.ref 265 :: s) (SH n, I, L, R, nc, ns, nx) = rf d 202 23 ls (.int (I 265 4) :: s) (SH n, I, L, R, nc, ns, nx) := g_I (idx := 148) (by decide +kernel) ow202 f_8_148 rfl rfl (by decide)
theorem e202_23 : rf d 202 23 [l0, some (.ref a)] s h = rf d 202 24 [l0, some (.ref a)] (.ref a :: s) h := rf_pure (i := .aload_n 1) (len := 1) (okD_ok (by decide +kernel)) rfl
theorem e202_24 (ht : t < 39) (hcat : ip_cat s ≤ 8) : rf d 202 24 ls (.ref (tx t) :: s) h = rf d 202 27 ls (.int (Int32.ofNat (ip_tb.getD t []).length) :: s) h := g_sl (idx := 161) (by decide +kernel) ow202 (by decide +kernel) ht hcat
theorem e202_27 : rf d 202 27 ls (.int y :: .int x :: s) h = rf d 202 28 ls (.int (x + y) :: s) h := rf_pure (i := .iadd) (len := 1) (okD_ok (by decide +kernel)) rfl
theorem e202_28 : rf d 202 28 ls (.int x :: .ref 265 :: s) (SH n, I, L, R, nc, ns, nx) = rf d 202 31 ls s (SH n, ip_up I 265 4 x, L, R, nc, ns, nx) := g_pI (idx := 148) (by decide +kernel) ow202 f_8_148 rfl (by decide +kernel) rfl (by decide)
theorem e202_31 : rf d 202 31 ls s h = rf d 202 32 ls (.int 1 :: s) h := rf_pure (i := .iconst (1)) (len := 1) (okD_ok (by decide +kernel)) rfl
theorem e202_32 (hx : x = 0 ∨ x = 1) : rf d 202 32 ls [.int x] h = some (.inl (some (.int x)), h) := g_rz (by decide +kernel) rt202 hx
theorem en203 : cf d 203 [.ref a] h = rf d 203 0 [some (.ref a), none, none] [] h := rfl
theorem e203_0 : rf d 203 0 [some (.ref a), l1, l2] s h = rf d 203 1 [some (.ref a), l1, l2] (.ref a :: s) h := rf_pure (i := .aload_n 0) (len := 1) (okD_ok (by decide +kernel)) rfl
theorem e203_1 : rf d 203 1 ls (.int x :: s) h = rf d 203 2 ls (.int x :: .int x :: s) h := rf_pure (i := .dup) (len := 1) (okD_ok (by decide +kernel)) rfl
theorem e203_1r : rf d 203 1 ls (.ref a :: s) h = rf d 203 2 ls (.ref a :: .ref a :: s) h := rf_pure (i := .dup) (len := 1) (okD_ok (by decide +kernel)) rfl
theorem e203_2 : rf d 203 2 ls (.ref 265 :: s) (SH n, I, L, R, nc, ns, nx) = rf d 203 5 ls (.int (I 265 4) :: s) (SH n, I, L, R, nc, ns, nx) := g_I (idx := 148) (by decide +kernel) ow203 f_8_148 rfl rfl (by decide)
theorem e203_5 : rf d 203 5 ls s h = rf d 203 6 ls (.int 4 :: s) h := rf_pure (i := .iconst (4)) (len := 1) (okD_ok (by decide +kernel)) rfl
theorem e203_6 : rf d 203 6 ls (.int y :: .int x :: s) h = rf d 203 7 ls (.int (x + y) :: s) h := rf_pure (i := .iadd) (len := 1) (okD_ok (by decide +kernel)) rfl
theorem e203_7 : rf d 203 7 ls (.int x :: .ref 265 :: s) (SH n, I, L, R, nc, ns, nx) = rf d 203 10 ls s (SH n, ip_up I 265 4 x, L, R, nc, ns, nx) := g_pI (idx := 148) (by decide +kernel) ow203 f_8_148 rfl (by decide +kernel) rfl (by decide)
theorem e203_10 : rf d 203 10 [some (.ref a), l1, l2] s h = rf d 203 11 [some (.ref a), l1, l2] (.ref a :: s) h := rf_pure (i := .aload_n 0) (len := 1) (okD_ok (by decide +kernel)) rfl
theorem e203_11 : rf d 203 11 ls s h = rf d 203 13 ls (.ref (tx 21) :: s) h := g_ks (idx := 188) (i := .ldc 188) (len := 2) (by decide +kernel) rfl rfl ow203 kn_8_188 ks_8_188
theorem e203_13 (hcat : ip_cat s ≤ 8) : rf (d + 1) 203 13 ls (.ref a0 :: .ref 265 :: s) (SH n, I, L, R, nc, ns, nx) = rf_k (d + 1) 203 13 ls s (cf d 202 [.ref 265, .ref a0] (SH n, I, L, R, nc, ns, nx)) := g_cv (idx := 231) (t := 8) [.ref a0] (by decide +kernel) ow203 ms_8_231 mt_8_231 cy202_8 rfl rfl mL202 rfl rfl (by decide) hcat
theorem e203_16 : rf d 203 16 ls (.int x :: s) h = if x = 0 then rf d 203 23 ls s h else rf d 203 19 ls s h := g_if (c := .eq) (off := 7) _ (by decide +kernel) rfl cmp_d
theorem e203_19 : rf d 203 19 ls s h = rf d 203 20 ls (.int 0 :: s) h := rf_pure (i := .iconst (0)) (len := 1) (okD_ok (by decide +kernel)) rfl
theorem e203_20 : rf d 203 20 ls s h = rf d 203 24 ls s h := rf_goto ⟨okD_ok (i := .goto (4)) (len := 3) (by decide +kernel), rfl⟩
theorem e203_23 : rf d 203 23 ls s h = rf d 203 24 ls (.int 1 :: s) h := rf_pure (i := .iconst (1)) (len := 1) (okD_ok (by decide +kernel)) rfl
theorem e203_24 (hn : ip_nl l0 = true) : rf d 203 24 [l0, l1, l2] (.int x :: s) h = rf d 203 25 [l0, some (.int x), l2] s h := g_sti (i := .istore_n 1) (len := 1) (q := 0) (p := 1) (by decide +kernel) rfl rfl hn
theorem e203_25 : rf d 203 25 [l0, some (.int x), l2] s h = rf d 203 26 [l0, some (.int x), l2] (.int x :: s) h := rf_pure (i := .iload_n 1) (len := 1) (okD_ok (by decide +kernel)) rfl
theorem e203_26 : rf d 203 26 ls s h = rf d 203 27 ls (.int 1 :: s) h := rf_pure (i := .iconst (1)) (len := 1) (okD_ok (by decide +kernel)) rfl
theorem e203_27 : rf d 203 27 ls (.int y :: .int x :: s) h = if ¬ x = y then rf d 203 43 ls s h else rf d 203 30 ls s h := g_ic (c := .ne) (off := 16) _ (by decide +kernel) rfl cmp_d
theorem e203_30 : rf d 203 30 [some (.ref a), l1, l2] s h = rf d 203 31 [some (.ref a), l1, l2] (.ref a :: s) h := rf_pure (i := .aload_n 0) (len := 1) (okD_ok (by decide +kernel)) rfl
theorem e203_31 : rf d 203 31 ls s h = rf d 203 33 ls (.ref (tx 22) :: s) h := g_ks (idx := 190) (i := .ldc 190) (len := 2) (by decide +kernel) rfl rfl ow203 kn_8_190 ks_8_190
theorem e203_33 (hcat : ip_cat s ≤ 8) : rf (d + 1) 203 33 ls (.ref a0 :: .ref 265 :: s) (SH n, I, L, R, nc, ns, nx) = rf_k (d + 1) 203 33 ls s (cf d 202 [.ref 265, .ref a0] (SH n, I, L, R, nc, ns, nx)) := g_cv (idx := 231) (t := 8) [.ref a0] (by decide +kernel) ow203 ms_8_231 mt_8_231 cy202_8 rfl rfl mL202 rfl rfl (by decide) hcat
theorem e203_36 : rf d 203 36 ls (.int x :: s) h = if ¬ x = 0 then rf d 203 43 ls s h else rf d 203 39 ls s h := g_if (c := .ne) (off := 7) _ (by decide +kernel) rfl cmp_d
theorem e203_39 : rf d 203 39 [some (.ref a), l1, l2] s h = rf d 203 40 [some (.ref a), l1, l2] (.ref a :: s) h := rf_pure (i := .aload_n 0) (len := 1) (okD_ok (by decide +kernel)) rfl
theorem e203_40 (hcat : ip_cat s ≤ 8) : rf (d + 1) 203 40 ls (.ref 265 :: s) (SH n, I, L, R, nc, ns, nx) = rf_k (d + 1) 203 40 ls s (cf d 197 [.ref 265] (SH n, I, L, R, nc, ns, nx)) := g_cv (idx := 174) (t := 8) [] (by decide +kernel) ow203 ms_8_174 mt_8_174 cy197_8 rfl rfl mL197 rfl rfl (by decide) hcat
theorem e203_43 : rf d 203 43 ls s h = rf d 203 44 ls (.int 0 :: s) h := rf_pure (i := .iconst (0)) (len := 1) (okD_ok (by decide +kernel)) rfl
theorem e203_44 (hn : ip_nl l1 = true) : rf d 203 44 [l0, l1, l2] (.int x :: s) h = rf d 203 45 [l0, l1, some (.int x)] s h := g_sti (i := .istore_n 2) (len := 1) (q := 1) (p := 1) (by decide +kernel) rfl rfl hn
theorem e203_45 : rf d 203 45 [l0, l1, some (.int x)] s h = rf d 203 46 [l0, l1, some (.int x)] (.int x :: s) h := rf_pure (i := .iload_n 2) (len := 1) (okD_ok (by decide +kernel)) rfl
theorem e203_46 : rf d 203 46 ls s h = rf d 203 47 ls (.int 3 :: s) h := rf_pure (i := .iconst (3)) (len := 1) (okD_ok (by decide +kernel)) rfl
theorem e203_47 : rf d 203 47 ls (.int y :: .int x :: s) h = if y ≤ x then rf d 203 70 ls s h else rf d 203 50 ls s h := g_ic (c := .ge) (off := 23) _ (by decide +kernel) rfl cmp_d
theorem e203_50 : rf d 203 50 [some (.ref a), l1, l2] s h = rf d 203 51 [some (.ref a), l1, l2] (.ref a :: s) h := rf_pure (i := .aload_n 0) (len := 1) (okD_ok (by decide +kernel)) rfl
theorem e203_51 (hR : LYR R) : rf d 203 51 ls (.ref 265 :: s) (SH n, I, L, R, nc, ns, nx) = rf d 203 54 ls (.ref 270 :: s) (SH n, I, L, R, nc, ns, nx) := g_R (idx := 27) (by decide +kernel) ow203 f_8_27 rfl rfl (by decide) (ly_265_13 hR)
theorem e203_54 : rf d 203 54 ls s h = rf d 203 55 ls (.int 3 :: s) h := rf_pure (i := .iconst (3)) (len := 1) (okD_ok (by decide +kernel)) rfl
theorem e203_55 : rf d 203 55 [l0, some (.int x), l2] s h = rf d 203 56 [l0, some (.int x), l2] (.int x :: s) h := rf_pure (i := .iload_n 1) (len := 1) (okD_ok (by decide +kernel)) rfl
theorem e203_56 : rf d 203 56 ls (.int y :: .int x :: s) h = rf d 203 57 ls (.int (x * y) :: s) h := rf_pure (i := .imul) (len := 1) (okD_ok (by decide +kernel)) rfl
theorem e203_57 : rf d 203 57 [l0, l1, some (.int x)] s h = rf d 203 58 [l0, l1, some (.int x)] (.int x :: s) h := rf_pure (i := .iload_n 2) (len := 1) (okD_ok (by decide +kernel)) rfl
theorem e203_58 : rf d 203 58 ls (.int y :: .int x :: s) h = rf d 203 59 ls (.int (x + y) :: s) h := rf_pure (i := .iadd) (len := 1) (okD_ok (by decide +kernel)) rfl
theorem e203_59 : rf d 203 59 [some (.ref a), l1, l2] s h = rf d 203 60 [some (.ref a), l1, l2] (.ref a :: s) h := rf_pure (i := .aload_n 0) (len := 1) (okD_ok (by decide +kernel)) rfl
theorem e203_60 (hcat : ip_cat s ≤ 8) : rf (d + 1) 203 60 ls (.ref 265 :: s) (SH n, I, L, R, nc, ns, nx) = rf_k (d + 1) 203 60 ls s (cf d 204 [.ref 265] (SH n, I, L, R, nc, ns, nx)) := g_cv (idx := 238) (t := 8) [] (by decide +kernel) ow203 ms_8_238 mt_8_238 cy204_8 rfl rfl mL204 rfl rfl (by decide) hcat
theorem e203_63 (q : ia n a j) : rf d 203 63 ls (.int x :: .int j :: .ref a :: s) (SH n, I, L, R, nc, ns, nx) = rf d 203 64 ls s (SH n, ip_up I a j.toNatClampNeg x, L, R, nc, ns, nx) := g_ias (by decide +kernel) q
theorem e203_64 (hn : ip_nl l1 = true) : rf d 203 64 [l0, l1, some (.int x)] s h = rf d 203 67 [l0, l1, some (.int (x + 1))] s h := g_inc (q := 1) (z := 1) (w := 1) (x := x) (by decide) (by decide +kernel) rfl rfl hn
theorem e203_67 : rf d 203 67 ls s h = rf d 203 45 ls s h := rf_goto ⟨okD_ok (i := .goto (-22)) (len := 3) (by decide +kernel), rfl⟩
theorem e203_70 : rf d 203 70 ls [] h = some (.inl none, h) := g_rv (by decide +kernel) rt203
theorem en204 : cf d 204 [.ref a] h = rf d 204 0 [some (.ref a), none] [] h := rfl
theorem e204_0 : rf d 204 0 [some (.ref a), l1] s h = rf d 204 1 [some (.ref a), l1] (.ref a :: s) h := rf_pure (i := .aload_n 0) (len := 1) (okD_ok (by decide +kernel)) rfl
theorem e204_1 : rf d 204 1 ls (.ref 265 :: s) (SH n, I, L, R, nc, ns, nx) = rf d 204 4 ls (.int (I 265 5) :: s) (SH n, I, L, R, nc, ns, nx) := g_I (idx := 13) (by decide +kernel) ow204 f_8_13 rfl rfl (by decide)
theorem e204_4 : rf d 204 4 ls s h = rf d 204 5 ls (.int (-1) :: s) h := rf_pure (i := .iconst (-1)) (len := 1) (okD_ok (by decide +kernel)) rfl
theorem e204_5 : rf d 204 5 ls (.int y :: .int x :: s) h = if x = y then rf d 204 10 ls s h else rf d 204 8 ls s h := g_ic (c := .eq) (off := 5) _ (by decide +kernel) rfl cmp_d
theorem e204_8 : rf d 204 8 ls s h = rf d 204 9 ls (.int 0 :: s) h := rf_pure (i := .iconst (0)) (len := 1) (okD_ok (by decide +kernel)) rfl
theorem e204_9 : rf d 204 9 ls [.int x] h = some (.inl (some (.int x)), h) := g_ri (by decide +kernel) rt204
theorem e204_10 : rf d 204 10 [some (.ref a), l1] s h = rf d 204 11 [some (.ref a), l1] (.ref a :: s) h := rf_pure (i := .aload_n 0) (len := 1) (okD_ok (by decide +kernel)) rfl
theorem e204_11 (hcat : ip_cat s ≤ 8) : rf (d + 1) 204 11 ls (.ref 265 :: s) (SH n, I, L, R, nc, ns, nx) = rf_k (d + 1) 204 11 ls s (cf d 193 [.ref 265] (SH n, I, L, R, nc, ns, nx)) := g_cv (idx := 154) (t := 8) [] (by decide +kernel) ow204 ms_8_154 mt_8_154 cy193_8 rfl rfl mL193 rfl rfl (by decide) hcat
theorem e204_14 (hn : ip_nl l0 = true) : rf d 204 14 [l0, l1] (.int x :: s) h = rf d 204 15 [l0, some (.int x)] s h := g_sti (i := .istore_n 1) (len := 1) (q := 0) (p := 1) (by decide +kernel) rfl rfl hn
theorem e204_15 : rf d 204 15 [l0, some (.int x)] s h = rf d 204 16 [l0, some (.int x)] (.int x :: s) h := rf_pure (i := .iload_n 1) (len := 1) (okD_ok (by decide +kernel)) rfl
theorem e204_16 : rf d 204 16 ls s h = rf d 204 17 ls (.int (-1) :: s) h := rf_pure (i := .iconst (-1)) (len := 1) (okD_ok (by decide +kernel)) rfl
theorem e204_17 : rf d 204 17 ls (.int y :: .int x :: s) h = if x = y then rf d 204 44 ls s h else rf d 204 20 ls s h := g_ic (c := .eq) (off := 27) _ (by decide +kernel) rfl cmp_d
theorem e204_20 : rf d 204 20 [some (.ref a), l1] s h = rf d 204 21 [some (.ref a), l1] (.ref a :: s) h := rf_pure (i := .aload_n 0) (len := 1) (okD_ok (by decide +kernel)) rfl
theorem e204_21 : rf d 204 21 [some (.ref a), l1] s h = rf d 204 22 [some (.ref a), l1] (.ref a :: s) h := rf_pure (i := .aload_n 0) (len := 1) (okD_ok (by decide +kernel)) rfl
theorem e204_22 : rf d 204 22 ls (.ref 265 :: s) (SH n, I, L, R, nc, ns, nx) = rf d 204 25 ls (.int (I 265 4) :: s) (SH n, I, L, R, nc, ns, nx) := g_I (idx := 148) (by decide +kernel) ow204 f_8_148 rfl rfl (by decide)
theorem e204_25 (hcat : ip_cat s ≤ 8) : rf (d + 1) 204 25 ls (.int x0 :: .ref 265 :: s) (SH n, I, L, R, nc, ns, nx) = rf_k (d + 1) 204 25 ls s (cf d 205 [.ref 265, .int x0] (SH n, I, L, R, nc, ns, nx)) := g_cv (idx := 221) (t := 8) [.int x0] (by decide +kernel) ow204 ms_8_221 mt_8_221 cy205_8 rfl rfl mL205 rfl rfl (by decide) hcat
theorem e204_28 : rf d 204 28 ls (.int x :: s) h = if x = 0 then rf d 204 44 ls s h else rf d 204 31 ls s h := g_if (c := .eq) (off := 16) _ (by decide +kernel) rfl cmp_d
theorem e204_31 : rf d 204 31 [some (.ref a), l1] s h = rf d 204 32 [some (.ref a), l1] (.ref a :: s) h := rf_pure (i := .aload_n 0) (len := 1) (okD_ok (by decide +kernel)) rfl
theorem e204_32 : rf d 204 32 [some (.ref a), l1] s h = rf d 204 33 [some (.ref a), l1] (.ref a :: s) h := rf_pure (i := .aload_n 0) (len := 1) (okD_ok (by decide +kernel)) rfl
theorem e204_33 : rf d 204 33 ls (.ref 265 :: s) (SH n, I, L, R, nc, ns, nx) = rf d 204 36 ls (.int (I 265 4) :: s) (SH n, I, L, R, nc, ns, nx) := g_I (idx := 148) (by decide +kernel) ow204 f_8_148 rfl rfl (by decide)
theorem e204_36 : rf d 204 36 ls s h = rf d 204 37 ls (.int 1 :: s) h := rf_pure (i := .iconst (1)) (len := 1) (okD_ok (by decide +kernel)) rfl
theorem e204_37 : rf d 204 37 ls (.int y :: .int x :: s) h = rf d 204 38 ls (.int (x + y) :: s) h := rf_pure (i := .iadd) (len := 1) (okD_ok (by decide +kernel)) rfl
theorem e204_38 (hcat : ip_cat s ≤ 8) : rf (d + 1) 204 38 ls (.int x0 :: .ref 265 :: s) (SH n, I, L, R, nc, ns, nx) = rf_k (d + 1) 204 38 ls s (cf d 205 [.ref 265, .int x0] (SH n, I, L, R, nc, ns, nx)) := g_cv (idx := 221) (t := 8) [.int x0] (by decide +kernel) ow204 ms_8_221 mt_8_221 cy205_8 rfl rfl mL205 rfl rfl (by decide) hcat
theorem e204_41 : rf d 204 41 ls (.int x :: s) h = if x = 0 then rf d 204 48 ls s h else rf d 204 44 ls s h := g_if (c := .eq) (off := 7) _ (by decide +kernel) rfl cmp_d
theorem e204_44 : rf d 204 44 [some (.ref a), l1] s h = rf d 204 45 [some (.ref a), l1] (.ref a :: s) h := rf_pure (i := .aload_n 0) (len := 1) (okD_ok (by decide +kernel)) rfl
theorem e204_45 (hcat : ip_cat s ≤ 8) : rf (d + 1) 204 45 ls (.ref 265 :: s) (SH n, I, L, R, nc, ns, nx) = rf_k (d + 1) 204 45 ls s (cf d 197 [.ref 265] (SH n, I, L, R, nc, ns, nx)) := g_cv (idx := 174) (t := 8) [] (by decide +kernel) ow204 ms_8_174 mt_8_174 cy197_8 rfl rfl mL197 rfl rfl (by decide) hcat
theorem e204_48 : rf d 204 48 [some (.ref a), l1] s h = rf d 204 49 [some (.ref a), l1] (.ref a :: s) h := rf_pure (i := .aload_n 0) (len := 1) (okD_ok (by decide +kernel)) rfl
theorem e204_49 : rf d 204 49 ls (.ref 265 :: s) (SH n, I, L, R, nc, ns, nx) = rf d 204 52 ls (.int (I 265 5) :: s) (SH n, I, L, R, nc, ns, nx) := g_I (idx := 13) (by decide +kernel) ow204 f_8_13 rfl rfl (by decide)
theorem e204_52 : rf d 204 52 ls s h = rf d 204 53 ls (.int (-1) :: s) h := rf_pure (i := .iconst (-1)) (len := 1) (okD_ok (by decide +kernel)) rfl
theorem e204_53 : rf d 204 53 ls (.int y :: .int x :: s) h = if x = y then rf d 204 58 ls s h else rf d 204 56 ls s h := g_ic (c := .eq) (off := 5) _ (by decide +kernel) rfl cmp_d
theorem e204_56 : rf d 204 56 ls s h = rf d 204 57 ls (.int 0 :: s) h := rf_pure (i := .iconst (0)) (len := 1) (okD_ok (by decide +kernel)) rfl
theorem e204_57 : rf d 204 57 ls [.int x] h = some (.inl (some (.int x)), h) := g_ri (by decide +kernel) rt204
theorem e204_58 : rf d 204 58 [some (.ref a), l1] s h = rf d 204 59 [some (.ref a), l1] (.ref a :: s) h := rf_pure (i := .aload_n 0) (len := 1) (okD_ok (by decide +kernel)) rfl
theorem e204_59 : rf d 204 59 ls (.int x :: s) h = rf d 204 60 ls (.int x :: .int x :: s) h := rf_pure (i := .dup) (len := 1) (okD_ok (by decide +kernel)) rfl
theorem e204_59r : rf d 204 59 ls (.ref a :: s) h = rf d 204 60 ls (.ref a :: .ref a :: s) h := rf_pure (i := .dup) (len := 1) (okD_ok (by decide +kernel)) rfl
theorem e204_60 : rf d 204 60 ls (.ref 265 :: s) (SH n, I, L, R, nc, ns, nx) = rf d 204 63 ls (.int (I 265 4) :: s) (SH n, I, L, R, nc, ns, nx) := g_I (idx := 148) (by decide +kernel) ow204 f_8_148 rfl rfl (by decide)
theorem e204_63 : rf d 204 63 ls s h = rf d 204 64 ls (.int 1 :: s) h := rf_pure (i := .iconst (1)) (len := 1) (okD_ok (by decide +kernel)) rfl
theorem e204_64 : rf d 204 64 ls (.int y :: .int x :: s) h = rf d 204 65 ls (.int (x + y) :: s) h := rf_pure (i := .iadd) (len := 1) (okD_ok (by decide +kernel)) rfl
theorem e204_65 : rf d 204 65 ls (.int x :: .ref 265 :: s) (SH n, I, L, R, nc, ns, nx) = rf d 204 68 ls s (SH n, ip_up I 265 4 x, L, R, nc, ns, nx) := g_pI (idx := 148) (by decide +kernel) ow204 f_8_148 rfl (by decide +kernel) rfl (by decide)
theorem e204_68 : rf d 204 68 [l0, some (.int x)] s h = rf d 204 69 [l0, some (.int x)] (.int x :: s) h := rf_pure (i := .iload_n 1) (len := 1) (okD_ok (by decide +kernel)) rfl
theorem e204_69 : rf d 204 69 ls s h = rf d 204 71 ls (.int 48 :: s) h := rf_pure (i := .bipush (48)) (len := 2) (okD_ok (by decide +kernel)) rfl
theorem e204_71 : rf d 204 71 ls (.int y :: .int x :: s) h = rf d 204 72 ls (.int (x - y) :: s) h := rf_pure (i := .isub) (len := 1) (okD_ok (by decide +kernel)) rfl
theorem e204_72 : rf d 204 72 ls [.int x] h = some (.inl (some (.int x)), h) := g_ri (by decide +kernel) rt204
theorem en205 : cf d 205 [.ref a, .int x0] h = rf d 205 0 [some (.ref a), some (.int x0)] [] h := rfl
theorem e205_0 : rf d 205 0 [l0, some (.int x)] s h = rf d 205 1 [l0, some (.int x)] (.int x :: s) h := rf_pure (i := .iload_n 1) (len := 1) (okD_ok (by decide +kernel)) rfl
theorem e205_1 : rf d 205 1 [some (.ref a), l1] s h = rf d 205 2 [some (.ref a), l1] (.ref a :: s) h := rf_pure (i := .aload_n 0) (len := 1) (okD_ok (by decide +kernel)) rfl
theorem e205_2 : rf d 205 2 ls (.ref 265 :: s) (SH n, I, L, R, nc, ns, nx) = rf d 205 5 ls (.int (I 265 3) :: s) (SH n, I, L, R, nc, ns, nx) := g_I (idx := 151) (by decide +kernel) ow205 f_8_151 rfl rfl (by decide)
theorem e205_5 : rf d 205 5 ls (.int y :: .int x :: s) h = if y ≤ x then rf d 205 34 ls s h else rf d 205 8 ls s h := g_ic (c := .ge) (off := 29) _ (by decide +kernel) rfl cmp_d
theorem e205_8 : rf d 205 8 [some (.ref a), l1] s h = rf d 205 9 [some (.ref a), l1] (.ref a :: s) h := rf_pure (i := .aload_n 0) (len := 1) (okD_ok (by decide +kernel)) rfl
theorem e205_9 (hR : LYR R) : rf d 205 9 ls (.ref 265 :: s) (SH n, I, L, R, nc, ns, nx) = rf d 205 12 ls (.ref 266 :: s) (SH n, I, L, R, nc, ns, nx) := g_R (idx := 7) (by decide +kernel) ow205 f_8_7 rfl rfl (by decide) (ly_265_1 hR)
theorem e205_12 : rf d 205 12 [l0, some (.int x)] s h = rf d 205 13 [l0, some (.int x)] (.int x :: s) h := rf_pure (i := .iload_n 1) (len := 1) (okD_ok (by decide +kernel)) rfl
theorem e205_13 (q : ia n a j) : rf d 205 13 ls (.int j :: .ref a :: s) (SH n, I, L, R, nc, ns, nx) = rf d 205 14 ls (.int (I a j.toNatClampNeg) :: s) (SH n, I, L, R, nc, ns, nx) := g_ial (by decide +kernel) q
theorem e205_14 : rf d 205 14 ls s h = rf d 205 16 ls (.int 48 :: s) h := rf_pure (i := .bipush (48)) (len := 2) (okD_ok (by decide +kernel)) rfl
theorem e205_16 : rf d 205 16 ls (.int y :: .int x :: s) h = if x < y then rf d 205 34 ls s h else rf d 205 19 ls s h := g_ic (c := .lt) (off := 18) _ (by decide +kernel) rfl cmp_d
theorem e205_19 : rf d 205 19 [some (.ref a), l1] s h = rf d 205 20 [some (.ref a), l1] (.ref a :: s) h := rf_pure (i := .aload_n 0) (len := 1) (okD_ok (by decide +kernel)) rfl
theorem e205_20 (hR : LYR R) : rf d 205 20 ls (.ref 265 :: s) (SH n, I, L, R, nc, ns, nx) = rf d 205 23 ls (.ref 266 :: s) (SH n, I, L, R, nc, ns, nx) := g_R (idx := 7) (by decide +kernel) ow205 f_8_7 rfl rfl (by decide) (ly_265_1 hR)
theorem e205_23 : rf d 205 23 [l0, some (.int x)] s h = rf d 205 24 [l0, some (.int x)] (.int x :: s) h := rf_pure (i := .iload_n 1) (len := 1) (okD_ok (by decide +kernel)) rfl
theorem e205_24 (q : ia n a j) : rf d 205 24 ls (.int j :: .ref a :: s) (SH n, I, L, R, nc, ns, nx) = rf d 205 25 ls (.int (I a j.toNatClampNeg) :: s) (SH n, I, L, R, nc, ns, nx) := g_ial (by decide +kernel) q
theorem e205_25 : rf d 205 25 ls s h = rf d 205 27 ls (.int 57 :: s) h := rf_pure (i := .bipush (57)) (len := 2) (okD_ok (by decide +kernel)) rfl
theorem e205_27 : rf d 205 27 ls (.int y :: .int x :: s) h = if y < x then rf d 205 34 ls s h else rf d 205 30 ls s h := g_ic (c := .gt) (off := 7) _ (by decide +kernel) rfl cmp_d
theorem e205_30 : rf d 205 30 ls s h = rf d 205 31 ls (.int 1 :: s) h := rf_pure (i := .iconst (1)) (len := 1) (okD_ok (by decide +kernel)) rfl
theorem e205_31 : rf d 205 31 ls s h = rf d 205 35 ls s h := rf_goto ⟨okD_ok (i := .goto (4)) (len := 3) (by decide +kernel), rfl⟩
theorem e205_34 : rf d 205 34 ls s h = rf d 205 35 ls (.int 0 :: s) h := rf_pure (i := .iconst (0)) (len := 1) (okD_ok (by decide +kernel)) rfl
theorem e205_35 (hx : x = 0 ∨ x = 1) : rf d 205 35 ls [.int x] h = some (.inl (some (.int x)), h) := g_rz (by decide +kernel) rt205 hx
theorem en206 : cf d 206 [.ref a] h = rf d 206 0 [some (.ref a), none, none] [] h := rfl
theorem e206_0 : rf d 206 0 [some (.ref a), l1, l2] s h = rf d 206 1 [some (.ref a), l1, l2] (.ref a :: s) h := rf_pure (i := .aload_n 0) (len := 1) (okD_ok (by decide +kernel)) rfl
theorem e206_1 : rf d 206 1 ls (.ref 265 :: s) (SH n, I, L, R, nc, ns, nx) = rf d 206 4 ls (.int (I 265 7) :: s) (SH n, I, L, R, nc, ns, nx) := g_I (idx := 267) (by decide +kernel) ow206 f_8_267 rfl rfl (by decide)
theorem e206_4 : rf d 206 4 ls (.int x :: s) h = if x = 0 then rf d 206 11 ls s h else rf d 206 7 ls s h := g_if (c := .eq) (off := 7) _ (by decide +kernel) rfl cmp_d
theorem e206_7 : rf d 206 7 [some (.ref a), l1, l2] s h = rf d 206 8 [some (.ref a), l1, l2] (.ref a :: s) h := rf_pure (i := .aload_n 0) (len := 1) (okD_ok (by decide +kernel)) rfl
theorem e206_8 (hcat : ip_cat s ≤ 8) : rf (d + 1) 206 8 ls (.ref 265 :: s) (SH n, I, L, R, nc, ns, nx) = rf_k (d + 1) 206 8 ls s (cf d 197 [.ref 265] (SH n, I, L, R, nc, ns, nx)) := g_cv (idx := 174) (t := 8) [] (by decide +kernel) ow206 ms_8_174 mt_8_174 cy197_8 rfl rfl mL197 rfl rfl (by decide) hcat
theorem e206_11 : rf d 206 11 [some (.ref a), l1, l2] s h = rf d 206 12 [some (.ref a), l1, l2] (.ref a :: s) h := rf_pure (i := .aload_n 0) (len := 1) (okD_ok (by decide +kernel)) rfl
theorem e206_12 : rf d 206 12 ls (.ref 265 :: s) (SH n, I, L, R, nc, ns, nx) = rf d 206 15 ls (.int (I 265 5) :: s) (SH n, I, L, R, nc, ns, nx) := g_I (idx := 13) (by decide +kernel) ow206 f_8_13 rfl rfl (by decide)
theorem e206_15 : rf d 206 15 ls s h = rf d 206 16 ls (.int (-1) :: s) h := rf_pure (i := .iconst (-1)) (len := 1) (okD_ok (by decide +kernel)) rfl
theorem e206_16 : rf d 206 16 ls (.int y :: .int x :: s) h = if x = y then rf d 206 20 ls s h else rf d 206 19 ls s h := g_ic (c := .eq) (off := 4) _ (by decide +kernel) rfl cmp_d
theorem e206_19 : rf d 206 19 ls [] h = some (.inl none, h) := g_rv (by decide +kernel) rt206
theorem e206_20 : rf d 206 20 [some (.ref a), l1, l2] s h = rf d 206 21 [some (.ref a), l1, l2] (.ref a :: s) h := rf_pure (i := .aload_n 0) (len := 1) (okD_ok (by decide +kernel)) rfl
theorem e206_21 : rf d 206 21 ls s h = rf d 206 22 ls (.int 1 :: s) h := rf_pure (i := .iconst (1)) (len := 1) (okD_ok (by decide +kernel)) rfl
theorem e206_22 (hx : x = 0 ∨ x = 1) : rf d 206 22 ls (.int x :: .ref 265 :: s) (SH n, I, L, R, nc, ns, nx) = rf d 206 25 ls s (SH n, ip_up I 265 7 x, L, R, nc, ns, nx) := g_pZ (idx := 267) (by decide +kernel) ow206 f_8_267 rfl (by decide +kernel) rfl (by decide) hx
theorem e206_25 : rf d 206 25 [some (.ref a), l1, l2] s h = rf d 206 26 [some (.ref a), l1, l2] (.ref a :: s) h := rf_pure (i := .aload_n 0) (len := 1) (okD_ok (by decide +kernel)) rfl
theorem e206_26 : rf d 206 26 ls (.int x :: s) h = rf d 206 27 ls (.int x :: .int x :: s) h := rf_pure (i := .dup) (len := 1) (okD_ok (by decide +kernel)) rfl
theorem e206_26r : rf d 206 26 ls (.ref a :: s) h = rf d 206 27 ls (.ref a :: .ref a :: s) h := rf_pure (i := .dup) (len := 1) (okD_ok (by decide +kernel)) rfl
theorem e206_27 : rf d 206 27 ls (.ref 265 :: s) (SH n, I, L, R, nc, ns, nx) = rf d 206 30 ls (.int (I 265 4) :: s) (SH n, I, L, R, nc, ns, nx) := g_I (idx := 148) (by decide +kernel) ow206 f_8_148 rfl rfl (by decide)
theorem e206_30 : rf d 206 30 ls s h = rf d 206 31 ls (.int 5 :: s) h := rf_pure (i := .iconst (5)) (len := 1) (okD_ok (by decide +kernel)) rfl
theorem e206_31 : rf d 206 31 ls (.int y :: .int x :: s) h = rf d 206 32 ls (.int (x + y) :: s) h := rf_pure (i := .iadd) (len := 1) (okD_ok (by decide +kernel)) rfl
theorem e206_32 : rf d 206 32 ls (.int x :: .ref 265 :: s) (SH n, I, L, R, nc, ns, nx) = rf d 206 35 ls s (SH n, ip_up I 265 4 x, L, R, nc, ns, nx) := g_pI (idx := 148) (by decide +kernel) ow206 f_8_148 rfl (by decide +kernel) rfl (by decide)
theorem e206_35 : rf d 206 35 [some (.ref a), l1, l2] s h = rf d 206 36 [some (.ref a), l1, l2] (.ref a :: s) h := rf_pure (i := .aload_n 0) (len := 1) (okD_ok (by decide +kernel)) rfl
theorem e206_36 : rf d 206 36 ls s h = rf d 206 37 ls (.int (-1) :: s) h := rf_pure (i := .iconst (-1)) (len := 1) (okD_ok (by decide +kernel)) rfl
theorem e206_37 : rf d 206 37 ls (.int x :: .ref 265 :: s) (SH n, I, L, R, nc, ns, nx) = rf d 206 40 ls s (SH n, ip_up I 265 33 x, L, R, nc, ns, nx) := g_pI (idx := 244) (by decide +kernel) ow206 f_8_244 rfl (by decide +kernel) rfl (by decide)
theorem e206_40 : rf d 206 40 [some (.ref a), l1, l2] s h = rf d 206 41 [some (.ref a), l1, l2] (.ref a :: s) h := rf_pure (i := .aload_n 0) (len := 1) (okD_ok (by decide +kernel)) rfl
theorem e206_41 : rf d 206 41 ls s h = rf d 206 42 ls (.int 0 :: s) h := rf_pure (i := .iconst (0)) (len := 1) (okD_ok (by decide +kernel)) rfl
theorem e206_42 : rf d 206 42 ls (.int x :: .ref 265 :: s) (SH n, I, L, R, nc, ns, nx) = rf d 206 45 ls s (SH n, ip_up I 265 34 x, L, R, nc, ns, nx) := g_pI (idx := 251) (by decide +kernel) ow206 f_8_251 rfl (by decide +kernel) rfl (by decide)
theorem e206_45 : rf d 206 45 [some (.ref a), l1, l2] s h = rf d 206 46 [some (.ref a), l1, l2] (.ref a :: s) h := rf_pure (i := .aload_n 0) (len := 1) (okD_ok (by decide +kernel)) rfl
theorem e206_46 : rf d 206 46 ls s h = rf d 206 47 ls (.int 0 :: s) h := rf_pure (i := .iconst (0)) (len := 1) (okD_ok (by decide +kernel)) rfl
theorem e206_47 : rf d 206 47 ls s h = rf d 206 48 ls (.int 0 :: s) h := rf_pure (i := .iconst (0)) (len := 1) (okD_ok (by decide +kernel)) rfl
theorem e206_48 (hcat : ip_cat s ≤ 8) : rf (d + 1) 206 48 ls (.int x1 :: .int x0 :: .ref 265 :: s) (SH n, I, L, R, nc, ns, nx) = rf_k (d + 1) 206 48 ls s (cf d 207 [.ref 265, .int x0, .int x1] (SH n, I, L, R, nc, ns, nx)) := g_cv (idx := 257) (t := 8) [.int x1, .int x0] (by decide +kernel) ow206 ms_8_257 mt_8_257 cy207_8 rfl rfl mL207 rfl rfl (by decide) hcat
theorem e206_51 : rf d 206 51 ls s h = rf d 206 52 ls (.int 1 :: s) h := rf_pure (i := .iconst (1)) (len := 1) (okD_ok (by decide +kernel)) rfl
theorem e206_52 (hn : ip_nl l0 = true) : rf d 206 52 [l0, l1, l2] (.int x :: s) h = rf d 206 53 [l0, some (.int x), l2] s h := g_sti (i := .istore_n 1) (len := 1) (q := 0) (p := 1) (by decide +kernel) rfl rfl hn
theorem e206_53 : rf d 206 53 [some (.ref a), l1, l2] s h = rf d 206 54 [some (.ref a), l1, l2] (.ref a :: s) h := rf_pure (i := .aload_n 0) (len := 1) (okD_ok (by decide +kernel)) rfl
theorem e206_54 : rf d 206 54 ls (.ref 265 :: s) (SH n, I, L, R, nc, ns, nx) = rf d 206 57 ls (.int (I 265 5) :: s) (SH n, I, L, R, nc, ns, nx) := g_I (idx := 13) (by decide +kernel) ow206 f_8_13 rfl rfl (by decide)
theorem e206_57 : rf d 206 57 ls s h = rf d 206 58 ls (.int (-1) :: s) h := rf_pure (i := .iconst (-1)) (len := 1) (okD_ok (by decide +kernel)) rfl
theorem e206_58 : rf d 206 58 ls (.int y :: .int x :: s) h = if ¬ x = y then rf d 206 282 ls s h else rf d 206 61 ls s h := g_ic (c := .ne) (off := 224) _ (by decide +kernel) rfl cmp_d
theorem e206_61 : rf d 206 61 [l0, some (.int x), l2] s h = rf d 206 62 [l0, some (.int x), l2] (.int x :: s) h := rf_pure (i := .iload_n 1) (len := 1) (okD_ok (by decide +kernel)) rfl
theorem e206_62 : rf d 206 62 ls (.int x :: s) h = if x = 0 then rf d 206 81 ls s h else rf d 206 65 ls s h := g_if (c := .eq) (off := 19) _ (by decide +kernel) rfl cmp_d
theorem e206_65 : rf d 206 65 [some (.ref a), l1, l2] s h = rf d 206 66 [some (.ref a), l1, l2] (.ref a :: s) h := rf_pure (i := .aload_n 0) (len := 1) (okD_ok (by decide +kernel)) rfl
theorem e206_66 (hcat : ip_cat s ≤ 8) : rf (d + 1) 206 66 ls (.ref 265 :: s) (SH n, I, L, R, nc, ns, nx) = rf_k (d + 1) 206 66 ls s (cf d 208 [.ref 265] (SH n, I, L, R, nc, ns, nx)) := g_cv (idx := 271) (t := 8) [] (by decide +kernel) ow206 ms_8_271 mt_8_271 cy208_8 rfl rfl mL208 rfl rfl (by decide) hcat
theorem e206_69 : rf d 206 69 ls (.int x :: s) h = if ¬ x = 0 then rf d 206 76 ls s h else rf d 206 72 ls s h := g_if (c := .ne) (off := 7) _ (by decide +kernel) rfl cmp_d
theorem e206_72 : rf d 206 72 ls s h = rf d 206 73 ls (.int 1 :: s) h := rf_pure (i := .iconst (1)) (len := 1) (okD_ok (by decide +kernel)) rfl
theorem e206_73 : rf d 206 73 ls s h = rf d 206 77 ls s h := rf_goto ⟨okD_ok (i := .goto (4)) (len := 3) (by decide +kernel), rfl⟩
theorem e206_76 : rf d 206 76 ls s h = rf d 206 77 ls (.int 0 :: s) h := rf_pure (i := .iconst (0)) (len := 1) (okD_ok (by decide +kernel)) rfl
theorem e206_77 (hn : ip_nl l0 = true) : rf d 206 77 [l0, l1, l2] (.int x :: s) h = rf d 206 78 [l0, some (.int x), l2] s h := g_sti (i := .istore_n 1) (len := 1) (q := 0) (p := 1) (by decide +kernel) rfl rfl hn
theorem e206_78 : rf d 206 78 ls s h = rf d 206 53 ls s h := rf_goto ⟨okD_ok (i := .goto (-25)) (len := 3) (by decide +kernel), rfl⟩
theorem e206_81 : rf d 206 81 [some (.ref a), l1, l2] s h = rf d 206 82 [some (.ref a), l1, l2] (.ref a :: s) h := rf_pure (i := .aload_n 0) (len := 1) (okD_ok (by decide +kernel)) rfl
theorem e206_82 (hcat : ip_cat s ≤ 8) : rf (d + 1) 206 82 ls (.ref 265 :: s) (SH n, I, L, R, nc, ns, nx) = rf_k (d + 1) 206 82 ls s (cf d 193 [.ref 265] (SH n, I, L, R, nc, ns, nx)) := g_cv (idx := 154) (t := 8) [] (by decide +kernel) ow206 ms_8_154 mt_8_154 cy193_8 rfl rfl mL193 rfl rfl (by decide) hcat
theorem e206_85 (hn : ip_nl l1 = true) : rf d 206 85 [l0, l1, l2] (.int x :: s) h = rf d 206 86 [l0, l1, some (.int x)] s h := g_sti (i := .istore_n 2) (len := 1) (q := 1) (p := 1) (by decide +kernel) rfl rfl hn
theorem e206_86 : rf d 206 86 [some (.ref a), l1, l2] s h = rf d 206 87 [some (.ref a), l1, l2] (.ref a :: s) h := rf_pure (i := .aload_n 0) (len := 1) (okD_ok (by decide +kernel)) rfl
theorem e206_87 : rf d 206 87 ls s h = rf d 206 89 ls (.ref (tx 36) :: s) h := g_ks (idx := 196) (i := .ldc 196) (len := 2) (by decide +kernel) rfl rfl ow206 kn_8_196 ks_8_196
theorem e206_89 (hcat : ip_cat s ≤ 8) : rf (d + 1) 206 89 ls (.ref a0 :: .ref 265 :: s) (SH n, I, L, R, nc, ns, nx) = rf_k (d + 1) 206 89 ls s (cf d 202 [.ref 265, .ref a0] (SH n, I, L, R, nc, ns, nx)) := g_cv (idx := 231) (t := 8) [.ref a0] (by decide +kernel) ow206 ms_8_231 mt_8_231 cy202_8 rfl rfl mL202 rfl rfl (by decide) hcat
theorem e206_92 : rf d 206 92 ls (.int x :: s) h = if x = 0 then rf d 206 110 ls s h else rf d 206 95 ls s h := g_if (c := .eq) (off := 18) _ (by decide +kernel) rfl cmp_d
theorem e206_95 : rf d 206 95 [some (.ref a), l1, l2] s h = rf d 206 96 [some (.ref a), l1, l2] (.ref a :: s) h := rf_pure (i := .aload_n 0) (len := 1) (okD_ok (by decide +kernel)) rfl
theorem e206_96 (hR : LYR R) : rf d 206 96 ls (.ref 265 :: s) (SH n, I, L, R, nc, ns, nx) = rf d 206 99 ls (.ref 285 :: s) (SH n, I, L, R, nc, ns, nx) := g_R (idx := 72) (by decide +kernel) ow206 f_8_72 rfl rfl (by decide) (ly_265_31 hR)
theorem e206_99 : rf d 206 99 [some (.ref a), l1, l2] s h = rf d 206 100 [some (.ref a), l1, l2] (.ref a :: s) h := rf_pure (i := .aload_n 0) (len := 1) (okD_ok (by decide +kernel)) rfl
theorem e206_100 : rf d 206 100 ls (.ref 265 :: s) (SH n, I, L, R, nc, ns, nx) = rf d 206 103 ls (.int (I 265 33) :: s) (SH n, I, L, R, nc, ns, nx) := g_I (idx := 244) (by decide +kernel) ow206 f_8_244 rfl rfl (by decide)
theorem e206_103 : rf d 206 103 ls s h = rf d 206 104 ls (.int 1 :: s) h := rf_pure (i := .iconst (1)) (len := 1) (okD_ok (by decide +kernel)) rfl
theorem e206_104 (q : za n a j) (hx : x = 0 ∨ x = 1) : rf d 206 104 ls (.int x :: .int j :: .ref a :: s) (SH n, I, L, R, nc, ns, nx) = rf d 206 105 ls s (SH n, ip_up I a j.toNatClampNeg x, L, R, nc, ns, nx) := g_zas (by decide +kernel) q hx
theorem e206_105 : rf d 206 105 ls s h = rf d 206 106 ls (.int 1 :: s) h := rf_pure (i := .iconst (1)) (len := 1) (okD_ok (by decide +kernel)) rfl
theorem e206_106 (hn : ip_nl l0 = true) : rf d 206 106 [l0, l1, l2] (.int x :: s) h = rf d 206 107 [l0, some (.int x), l2] s h := g_sti (i := .istore_n 1) (len := 1) (q := 0) (p := 1) (by decide +kernel) rfl rfl hn
theorem e206_107 : rf d 206 107 ls s h = rf d 206 279 ls s h := rf_goto ⟨okD_ok (i := .goto (172)) (len := 3) (by decide +kernel), rfl⟩
theorem e206_110 : rf d 206 110 [some (.ref a), l1, l2] s h = rf d 206 111 [some (.ref a), l1, l2] (.ref a :: s) h := rf_pure (i := .aload_n 0) (len := 1) (okD_ok (by decide +kernel)) rfl
theorem e206_111 : rf d 206 111 ls s h = rf d 206 113 ls (.ref (tx 35) :: s) h := g_ks (idx := 194) (i := .ldc 194) (len := 2) (by decide +kernel) rfl rfl ow206 kn_8_194 ks_8_194
theorem e206_113 (hcat : ip_cat s ≤ 8) : rf (d + 1) 206 113 ls (.ref a0 :: .ref 265 :: s) (SH n, I, L, R, nc, ns, nx) = rf_k (d + 1) 206 113 ls s (cf d 202 [.ref 265, .ref a0] (SH n, I, L, R, nc, ns, nx)) := g_cv (idx := 231) (t := 8) [.ref a0] (by decide +kernel) ow206 ms_8_231 mt_8_231 cy202_8 rfl rfl mL202 rfl rfl (by decide) hcat
theorem e206_116 : rf d 206 116 ls (.int x :: s) h = if x = 0 then rf d 206 129 ls s h else rf d 206 119 ls s h := g_if (c := .eq) (off := 13) _ (by decide +kernel) rfl cmp_d
theorem e206_119 : rf d 206 119 [some (.ref a), l1, l2] s h = rf d 206 120 [some (.ref a), l1, l2] (.ref a :: s) h := rf_pure (i := .aload_n 0) (len := 1) (okD_ok (by decide +kernel)) rfl
theorem e206_120 : rf d 206 120 ls s h = rf d 206 121 ls (.int 1 :: s) h := rf_pure (i := .iconst (1)) (len := 1) (okD_ok (by decide +kernel)) rfl
theorem e206_121 (hcat : ip_cat s ≤ 8) : rf (d + 1) 206 121 ls (.int x0 :: .ref 265 :: s) (SH n, I, L, R, nc, ns, nx) = rf_k (d + 1) 206 121 ls s (cf d 212 [.ref 265, .int x0] (SH n, I, L, R, nc, ns, nx)) := g_cv (idx := 274) (t := 8) [.int x0] (by decide +kernel) ow206 ms_8_274 mt_8_274 cy212_8 rfl rfl mL212 rfl rfl (by decide) hcat
theorem e206_124 : rf d 206 124 ls s h = rf d 206 125 ls (.int 1 :: s) h := rf_pure (i := .iconst (1)) (len := 1) (okD_ok (by decide +kernel)) rfl
theorem e206_125 (hn : ip_nl l0 = true) : rf d 206 125 [l0, l1, l2] (.int x :: s) h = rf d 206 126 [l0, some (.int x), l2] s h := g_sti (i := .istore_n 1) (len := 1) (q := 0) (p := 1) (by decide +kernel) rfl rfl hn
theorem e206_126 : rf d 206 126 ls s h = rf d 206 279 ls s h := rf_goto ⟨okD_ok (i := .goto (153)) (len := 3) (by decide +kernel), rfl⟩
theorem e206_129 : rf d 206 129 [some (.ref a), l1, l2] s h = rf d 206 130 [some (.ref a), l1, l2] (.ref a :: s) h := rf_pure (i := .aload_n 0) (len := 1) (okD_ok (by decide +kernel)) rfl
theorem e206_130 (hR : LYR R) : rf d 206 130 ls (.ref 265 :: s) (SH n, I, L, R, nc, ns, nx) = rf d 206 133 ls (.ref 281 :: s) (SH n, I, L, R, nc, ns, nx) := g_R (idx := 60) (by decide +kernel) ow206 f_8_60 rfl rfl (by decide) (ly_265_27 hR)
theorem e206_133 : rf d 206 133 [some (.ref a), l1, l2] s h = rf d 206 134 [some (.ref a), l1, l2] (.ref a :: s) h := rf_pure (i := .aload_n 0) (len := 1) (okD_ok (by decide +kernel)) rfl
theorem e206_134 : rf d 206 134 ls (.ref 265 :: s) (SH n, I, L, R, nc, ns, nx) = rf d 206 137 ls (.int (I 265 33) :: s) (SH n, I, L, R, nc, ns, nx) := g_I (idx := 244) (by decide +kernel) ow206 f_8_244 rfl rfl (by decide)
theorem e206_137 (q : ia n a j) : rf d 206 137 ls (.int j :: .ref a :: s) (SH n, I, L, R, nc, ns, nx) = rf d 206 138 ls (.int (I a j.toNatClampNeg) :: s) (SH n, I, L, R, nc, ns, nx) := g_ial (by decide +kernel) q
theorem e206_138 : rf d 206 138 ls (.int x :: s) h = if ¬ x = 0 then rf d 206 147 ls s h else rf d 206 141 ls s h := g_if (c := .ne) (off := 9) _ (by decide +kernel) rfl cmp_d
theorem e206_141 : rf d 206 141 [some (.ref a), l1, l2] s h = rf d 206 142 [some (.ref a), l1, l2] (.ref a :: s) h := rf_pure (i := .aload_n 0) (len := 1) (okD_ok (by decide +kernel)) rfl
theorem e206_142 : rf d 206 142 ls s h = rf d 206 143 ls (.int 0 :: s) h := rf_pure (i := .iconst (0)) (len := 1) (okD_ok (by decide +kernel)) rfl
theorem e206_143 (hcat : ip_cat s ≤ 8) : rf (d + 1) 206 143 ls (.int x0 :: .ref 265 :: s) (SH n, I, L, R, nc, ns, nx) = rf_k (d + 1) 206 143 ls s (cf d 212 [.ref 265, .int x0] (SH n, I, L, R, nc, ns, nx)) := g_cv (idx := 274) (t := 8) [.int x0] (by decide +kernel) ow206 ms_8_274 mt_8_274 cy212_8 rfl rfl mL212 rfl rfl (by decide) hcat
theorem e206_146 : rf d 206 146 ls [] h = some (.inl none, h) := g_rv (by decide +kernel) rt206
theorem e206_147 : rf d 206 147 [some (.ref a), l1, l2] s h = rf d 206 148 [some (.ref a), l1, l2] (.ref a :: s) h := rf_pure (i := .aload_n 0) (len := 1) (okD_ok (by decide +kernel)) rfl
theorem e206_148 (hR : LYR R) : rf d 206 148 ls (.ref 265 :: s) (SH n, I, L, R, nc, ns, nx) = rf d 206 151 ls (.ref 281 :: s) (SH n, I, L, R, nc, ns, nx) := g_R (idx := 60) (by decide +kernel) ow206 f_8_60 rfl rfl (by decide) (ly_265_27 hR)
theorem e206_151 : rf d 206 151 [some (.ref a), l1, l2] s h = rf d 206 152 [some (.ref a), l1, l2] (.ref a :: s) h := rf_pure (i := .aload_n 0) (len := 1) (okD_ok (by decide +kernel)) rfl
theorem e206_152 : rf d 206 152 ls (.ref 265 :: s) (SH n, I, L, R, nc, ns, nx) = rf d 206 155 ls (.int (I 265 33) :: s) (SH n, I, L, R, nc, ns, nx) := g_I (idx := 244) (by decide +kernel) ow206 f_8_244 rfl rfl (by decide)
theorem e206_155 (q : ia n a j) : rf d 206 155 ls (.int j :: .ref a :: s) (SH n, I, L, R, nc, ns, nx) = rf d 206 156 ls (.int (I a j.toNatClampNeg) :: s) (SH n, I, L, R, nc, ns, nx) := g_ial (by decide +kernel) q
theorem e206_156 : rf d 206 156 ls s h = rf d 206 157 ls (.int 2 :: s) h := rf_pure (i := .iconst (2)) (len := 1) (okD_ok (by decide +kernel)) rfl
theorem e206_157 : rf d 206 157 ls (.int y :: .int x :: s) h = if ¬ x = y then rf d 206 199 ls s h else rf d 206 160 ls s h := g_ic (c := .ne) (off := 42) _ (by decide +kernel) rfl cmp_d
theorem e206_160 : rf d 206 160 [l0, l1, some (.int x)] s h = rf d 206 161 [l0, l1, some (.int x)] (.int x :: s) h := rf_pure (i := .iload_n 2) (len := 1) (okD_ok (by decide +kernel)) rfl
theorem e206_161 : rf d 206 161 ls s h = rf d 206 163 ls (.int 44 :: s) h := rf_pure (i := .bipush (44)) (len := 2) (okD_ok (by decide +kernel)) rfl
theorem e206_163 : rf d 206 163 ls (.int y :: .int x :: s) h = if ¬ x = y then rf d 206 199 ls s h else rf d 206 166 ls s h := g_ic (c := .ne) (off := 36) _ (by decide +kernel) rfl cmp_d
theorem e206_166 : rf d 206 166 [some (.ref a), l1, l2] s h = rf d 206 167 [some (.ref a), l1, l2] (.ref a :: s) h := rf_pure (i := .aload_n 0) (len := 1) (okD_ok (by decide +kernel)) rfl
theorem e206_167 : rf d 206 167 ls s h = rf d 206 168 ls (.int 0 :: s) h := rf_pure (i := .iconst (0)) (len := 1) (okD_ok (by decide +kernel)) rfl
theorem e206_168 (hcat : ip_cat s ≤ 8) : rf (d + 1) 206 168 ls (.int x0 :: .ref 265 :: s) (SH n, I, L, R, nc, ns, nx) = rf_k (d + 1) 206 168 ls s (cf d 212 [.ref 265, .int x0] (SH n, I, L, R, nc, ns, nx)) := g_cv (idx := 274) (t := 8) [.int x0] (by decide +kernel) ow206 ms_8_274 mt_8_274 cy212_8 rfl rfl mL212 rfl rfl (by decide) hcat
theorem e206_171 : rf d 206 171 [some (.ref a), l1, l2] s h = rf d 206 172 [some (.ref a), l1, l2] (.ref a :: s) h := rf_pure (i := .aload_n 0) (len := 1) (okD_ok (by decide +kernel)) rfl
theorem e206_172 (hR : LYR R) : rf d 206 172 ls (.ref 265 :: s) (SH n, I, L, R, nc, ns, nx) = rf d 206 175 ls (.ref 283 :: s) (SH n, I, L, R, nc, ns, nx) := g_R (idx := 66) (by decide +kernel) ow206 f_8_66 rfl rfl (by decide) (ly_265_29 hR)
theorem e206_175 : rf d 206 175 [some (.ref a), l1, l2] s h = rf d 206 176 [some (.ref a), l1, l2] (.ref a :: s) h := rf_pure (i := .aload_n 0) (len := 1) (okD_ok (by decide +kernel)) rfl
theorem e206_176 : rf d 206 176 ls (.ref 265 :: s) (SH n, I, L, R, nc, ns, nx) = rf d 206 179 ls (.int (I 265 33) :: s) (SH n, I, L, R, nc, ns, nx) := g_I (idx := 244) (by decide +kernel) ow206 f_8_244 rfl rfl (by decide)
theorem e206_179 : rf d 206 179 ls (.int j :: .ref a :: s) h = rf d 206 180 ls (.int j :: .ref a :: .int j :: .ref a :: s) h := rf_pure (i := .dup2) (len := 1) (okD_ok (by decide +kernel)) rfl
theorem e206_180 (q : ia n a j) : rf d 206 180 ls (.int j :: .ref a :: s) (SH n, I, L, R, nc, ns, nx) = rf d 206 181 ls (.int (I a j.toNatClampNeg) :: s) (SH n, I, L, R, nc, ns, nx) := g_ial (by decide +kernel) q
theorem e206_181 : rf d 206 181 ls s h = rf d 206 182 ls (.int 1 :: s) h := rf_pure (i := .iconst (1)) (len := 1) (okD_ok (by decide +kernel)) rfl
theorem e206_182 : rf d 206 182 ls (.int y :: .int x :: s) h = rf d 206 183 ls (.int (x + y) :: s) h := rf_pure (i := .iadd) (len := 1) (okD_ok (by decide +kernel)) rfl
theorem e206_183 (q : ia n a j) : rf d 206 183 ls (.int x :: .int j :: .ref a :: s) (SH n, I, L, R, nc, ns, nx) = rf d 206 184 ls s (SH n, ip_up I a j.toNatClampNeg x, L, R, nc, ns, nx) := g_ias (by decide +kernel) q
theorem e206_184 : rf d 206 184 [some (.ref a), l1, l2] s h = rf d 206 185 [some (.ref a), l1, l2] (.ref a :: s) h := rf_pure (i := .aload_n 0) (len := 1) (okD_ok (by decide +kernel)) rfl
theorem e206_185 : rf d 206 185 ls (.int x :: s) h = rf d 206 186 ls (.int x :: .int x :: s) h := rf_pure (i := .dup) (len := 1) (okD_ok (by decide +kernel)) rfl
theorem e206_185r : rf d 206 185 ls (.ref a :: s) h = rf d 206 186 ls (.ref a :: .ref a :: s) h := rf_pure (i := .dup) (len := 1) (okD_ok (by decide +kernel)) rfl
theorem e206_186 : rf d 206 186 ls (.ref 265 :: s) (SH n, I, L, R, nc, ns, nx) = rf d 206 189 ls (.int (I 265 4) :: s) (SH n, I, L, R, nc, ns, nx) := g_I (idx := 148) (by decide +kernel) ow206 f_8_148 rfl rfl (by decide)
theorem e206_189 : rf d 206 189 ls s h = rf d 206 190 ls (.int 1 :: s) h := rf_pure (i := .iconst (1)) (len := 1) (okD_ok (by decide +kernel)) rfl
theorem e206_190 : rf d 206 190 ls (.int y :: .int x :: s) h = rf d 206 191 ls (.int (x + y) :: s) h := rf_pure (i := .iadd) (len := 1) (okD_ok (by decide +kernel)) rfl
theorem e206_191 : rf d 206 191 ls (.int x :: .ref 265 :: s) (SH n, I, L, R, nc, ns, nx) = rf d 206 194 ls s (SH n, ip_up I 265 4 x, L, R, nc, ns, nx) := g_pI (idx := 148) (by decide +kernel) ow206 f_8_148 rfl (by decide +kernel) rfl (by decide)
theorem e206_194 : rf d 206 194 ls s h = rf d 206 195 ls (.int 1 :: s) h := rf_pure (i := .iconst (1)) (len := 1) (okD_ok (by decide +kernel)) rfl
theorem e206_195 (hn : ip_nl l0 = true) : rf d 206 195 [l0, l1, l2] (.int x :: s) h = rf d 206 196 [l0, some (.int x), l2] s h := g_sti (i := .istore_n 1) (len := 1) (q := 0) (p := 1) (by decide +kernel) rfl rfl hn
theorem e206_196 : rf d 206 196 ls s h = rf d 206 279 ls s h := rf_goto ⟨okD_ok (i := .goto (83)) (len := 3) (by decide +kernel), rfl⟩
theorem e206_199 : rf d 206 199 [some (.ref a), l1, l2] s h = rf d 206 200 [some (.ref a), l1, l2] (.ref a :: s) h := rf_pure (i := .aload_n 0) (len := 1) (okD_ok (by decide +kernel)) rfl
theorem e206_200 : rf d 206 200 ls s h = rf d 206 202 ls (.int 41 :: s) h := rf_pure (i := .bipush (41)) (len := 2) (okD_ok (by decide +kernel)) rfl
theorem e206_202 (hcat : ip_cat s ≤ 8) : rf (d + 1) 206 202 ls (.int x0 :: .ref 265 :: s) (SH n, I, L, R, nc, ns, nx) = rf_k (d + 1) 206 202 ls s (cf d 213 [.ref 265, .int x0] (SH n, I, L, R, nc, ns, nx)) := g_cv (idx := 278) (t := 8) [.int x0] (by decide +kernel) ow206 ms_8_278 mt_8_278 cy213_8 rfl rfl mL213 rfl rfl (by decide) hcat
theorem e206_205 : rf d 206 205 [some (.ref a), l1, l2] s h = rf d 206 206 [some (.ref a), l1, l2] (.ref a :: s) h := rf_pure (i := .aload_n 0) (len := 1) (okD_ok (by decide +kernel)) rfl
theorem e206_206 : rf d 206 206 ls (.ref 265 :: s) (SH n, I, L, R, nc, ns, nx) = rf d 206 209 ls (.int (I 265 5) :: s) (SH n, I, L, R, nc, ns, nx) := g_I (idx := 13) (by decide +kernel) ow206 f_8_13 rfl rfl (by decide)
theorem e206_209 : rf d 206 209 ls s h = rf d 206 210 ls (.int (-1) :: s) h := rf_pure (i := .iconst (-1)) (len := 1) (okD_ok (by decide +kernel)) rfl
theorem e206_210 : rf d 206 210 ls (.int y :: .int x :: s) h = if x = y then rf d 206 214 ls s h else rf d 206 213 ls s h := g_ic (c := .eq) (off := 4) _ (by decide +kernel) rfl cmp_d
theorem e206_213 : rf d 206 213 ls [] h = some (.inl none, h) := g_rv (by decide +kernel) rt206
theorem e206_214 : rf d 206 214 [some (.ref a), l1, l2] s h = rf d 206 215 [some (.ref a), l1, l2] (.ref a :: s) h := rf_pure (i := .aload_n 0) (len := 1) (okD_ok (by decide +kernel)) rfl
theorem e206_215 : rf d 206 215 ls s h = rf d 206 216 ls (.int 0 :: s) h := rf_pure (i := .iconst (0)) (len := 1) (okD_ok (by decide +kernel)) rfl
theorem e206_216 (hcat : ip_cat s ≤ 8) : rf (d + 1) 206 216 ls (.int x0 :: .ref 265 :: s) (SH n, I, L, R, nc, ns, nx) = rf_k (d + 1) 206 216 ls s (cf d 212 [.ref 265, .int x0] (SH n, I, L, R, nc, ns, nx)) := g_cv (idx := 274) (t := 8) [.int x0] (by decide +kernel) ow206 ms_8_274 mt_8_274 cy212_8 rfl rfl mL212 rfl rfl (by decide) hcat
theorem e206_219 : rf d 206 219 [some (.ref a), l1, l2] s h = rf d 206 220 [some (.ref a), l1, l2] (.ref a :: s) h := rf_pure (i := .aload_n 0) (len := 1) (okD_ok (by decide +kernel)) rfl
theorem e206_220 (hR : LYR R) : rf d 206 220 ls (.ref 265 :: s) (SH n, I, L, R, nc, ns, nx) = rf d 206 223 ls (.ref 281 :: s) (SH n, I, L, R, nc, ns, nx) := g_R (idx := 60) (by decide +kernel) ow206 f_8_60 rfl rfl (by decide) (ly_265_27 hR)
theorem e206_223 : rf d 206 223 [some (.ref a), l1, l2] s h = rf d 206 224 [some (.ref a), l1, l2] (.ref a :: s) h := rf_pure (i := .aload_n 0) (len := 1) (okD_ok (by decide +kernel)) rfl
theorem e206_224 : rf d 206 224 ls (.ref 265 :: s) (SH n, I, L, R, nc, ns, nx) = rf d 206 227 ls (.int (I 265 33) :: s) (SH n, I, L, R, nc, ns, nx) := g_I (idx := 244) (by decide +kernel) ow206 f_8_244 rfl rfl (by decide)
theorem e206_227 (q : ia n a j) : rf d 206 227 ls (.int j :: .ref a :: s) (SH n, I, L, R, nc, ns, nx) = rf d 206 228 ls (.int (I a j.toNatClampNeg) :: s) (SH n, I, L, R, nc, ns, nx) := g_ial (by decide +kernel) q
theorem e206_228 : rf d 206 228 ls s h = rf d 206 229 ls (.int 2 :: s) h := rf_pure (i := .iconst (2)) (len := 1) (okD_ok (by decide +kernel)) rfl
theorem e206_229 : rf d 206 229 ls (.int y :: .int x :: s) h = if ¬ x = y then rf d 206 255 ls s h else rf d 206 232 ls s h := g_ic (c := .ne) (off := 26) _ (by decide +kernel) rfl cmp_d
theorem e206_232 : rf d 206 232 [some (.ref a), l1, l2] s h = rf d 206 233 [some (.ref a), l1, l2] (.ref a :: s) h := rf_pure (i := .aload_n 0) (len := 1) (okD_ok (by decide +kernel)) rfl
theorem e206_233 : rf d 206 233 ls s h = rf d 206 234 ls (.int 4 :: s) h := rf_pure (i := .iconst (4)) (len := 1) (okD_ok (by decide +kernel)) rfl
theorem e206_234 : rf d 206 234 [some (.ref a), l1, l2] s h = rf d 206 235 [some (.ref a), l1, l2] (.ref a :: s) h := rf_pure (i := .aload_n 0) (len := 1) (okD_ok (by decide +kernel)) rfl
theorem e206_235 (hR : LYR R) : rf d 206 235 ls (.ref 265 :: s) (SH n, I, L, R, nc, ns, nx) = rf d 206 238 ls (.ref 282 :: s) (SH n, I, L, R, nc, ns, nx) := g_R (idx := 63) (by decide +kernel) ow206 f_8_63 rfl rfl (by decide) (ly_265_28 hR)
theorem e206_238 : rf d 206 238 [some (.ref a), l1, l2] s h = rf d 206 239 [some (.ref a), l1, l2] (.ref a :: s) h := rf_pure (i := .aload_n 0) (len := 1) (okD_ok (by decide +kernel)) rfl
theorem e206_239 : rf d 206 239 ls (.ref 265 :: s) (SH n, I, L, R, nc, ns, nx) = rf d 206 242 ls (.int (I 265 33) :: s) (SH n, I, L, R, nc, ns, nx) := g_I (idx := 244) (by decide +kernel) ow206 f_8_244 rfl rfl (by decide)
theorem e206_242 (q : ia n a j) : rf d 206 242 ls (.int j :: .ref a :: s) (SH n, I, L, R, nc, ns, nx) = rf d 206 243 ls (.int (I a j.toNatClampNeg) :: s) (SH n, I, L, R, nc, ns, nx) := g_ial (by decide +kernel) q
theorem e206_243 : rf d 206 243 [some (.ref a), l1, l2] s h = rf d 206 244 [some (.ref a), l1, l2] (.ref a :: s) h := rf_pure (i := .aload_n 0) (len := 1) (okD_ok (by decide +kernel)) rfl
theorem e206_244 (hR : LYR R) : rf d 206 244 ls (.ref 265 :: s) (SH n, I, L, R, nc, ns, nx) = rf d 206 247 ls (.ref 283 :: s) (SH n, I, L, R, nc, ns, nx) := g_R (idx := 66) (by decide +kernel) ow206 f_8_66 rfl rfl (by decide) (ly_265_29 hR)
theorem e206_247 : rf d 206 247 [some (.ref a), l1, l2] s h = rf d 206 248 [some (.ref a), l1, l2] (.ref a :: s) h := rf_pure (i := .aload_n 0) (len := 1) (okD_ok (by decide +kernel)) rfl
theorem e206_248 : rf d 206 248 ls (.ref 265 :: s) (SH n, I, L, R, nc, ns, nx) = rf d 206 251 ls (.int (I 265 33) :: s) (SH n, I, L, R, nc, ns, nx) := g_I (idx := 244) (by decide +kernel) ow206 f_8_244 rfl rfl (by decide)
theorem e206_251 (q : ia n a j) : rf d 206 251 ls (.int j :: .ref a :: s) (SH n, I, L, R, nc, ns, nx) = rf d 206 252 ls (.int (I a j.toNatClampNeg) :: s) (SH n, I, L, R, nc, ns, nx) := g_ial (by decide +kernel) q
theorem e206_252 (hcat : ip_cat s ≤ 8) : rf (d + 1) 206 252 ls (.int x2 :: .int x1 :: .int x0 :: .ref 265 :: s) (SH n, I, L, R, nc, ns, nx) = rf_k (d + 1) 206 252 ls s (cf d 210 [.ref 265, .int x0, .int x1, .int x2] (SH n, I, L, R, nc, ns, nx)) := g_cv (idx := 247) (t := 8) [.int x2, .int x1, .int x0] (by decide +kernel) ow206 ms_8_247 mt_8_247 cy210_8 rfl rfl mL210 rfl rfl (by decide) hcat
theorem e206_255 : rf d 206 255 [some (.ref a), l1, l2] s h = rf d 206 256 [some (.ref a), l1, l2] (.ref a :: s) h := rf_pure (i := .aload_n 0) (len := 1) (okD_ok (by decide +kernel)) rfl
theorem e206_256 : rf d 206 256 ls (.int x :: s) h = rf d 206 257 ls (.int x :: .int x :: s) h := rf_pure (i := .dup) (len := 1) (okD_ok (by decide +kernel)) rfl
theorem e206_256r : rf d 206 256 ls (.ref a :: s) h = rf d 206 257 ls (.ref a :: .ref a :: s) h := rf_pure (i := .dup) (len := 1) (okD_ok (by decide +kernel)) rfl
theorem e206_257 : rf d 206 257 ls (.ref 265 :: s) (SH n, I, L, R, nc, ns, nx) = rf d 206 260 ls (.int (I 265 34) :: s) (SH n, I, L, R, nc, ns, nx) := g_I (idx := 251) (by decide +kernel) ow206 f_8_251 rfl rfl (by decide)
theorem e206_260 : rf d 206 260 ls s h = rf d 206 261 ls (.int 1 :: s) h := rf_pure (i := .iconst (1)) (len := 1) (okD_ok (by decide +kernel)) rfl
theorem e206_261 : rf d 206 261 ls (.int y :: .int x :: s) h = rf d 206 262 ls (.int (x - y) :: s) h := rf_pure (i := .isub) (len := 1) (okD_ok (by decide +kernel)) rfl
theorem e206_262 : rf d 206 262 ls (.int x :: .ref 265 :: s) (SH n, I, L, R, nc, ns, nx) = rf d 206 265 ls s (SH n, ip_up I 265 34 x, L, R, nc, ns, nx) := g_pI (idx := 251) (by decide +kernel) ow206 f_8_251 rfl (by decide +kernel) rfl (by decide)
theorem e206_265 : rf d 206 265 [some (.ref a), l1, l2] s h = rf d 206 266 [some (.ref a), l1, l2] (.ref a :: s) h := rf_pure (i := .aload_n 0) (len := 1) (okD_ok (by decide +kernel)) rfl
theorem e206_266 : rf d 206 266 ls (.int x :: s) h = rf d 206 267 ls (.int x :: .int x :: s) h := rf_pure (i := .dup) (len := 1) (okD_ok (by decide +kernel)) rfl
theorem e206_266r : rf d 206 266 ls (.ref a :: s) h = rf d 206 267 ls (.ref a :: .ref a :: s) h := rf_pure (i := .dup) (len := 1) (okD_ok (by decide +kernel)) rfl
theorem e206_267 : rf d 206 267 ls (.ref 265 :: s) (SH n, I, L, R, nc, ns, nx) = rf d 206 270 ls (.int (I 265 33) :: s) (SH n, I, L, R, nc, ns, nx) := g_I (idx := 244) (by decide +kernel) ow206 f_8_244 rfl rfl (by decide)
theorem e206_270 : rf d 206 270 ls s h = rf d 206 271 ls (.int 1 :: s) h := rf_pure (i := .iconst (1)) (len := 1) (okD_ok (by decide +kernel)) rfl
theorem e206_271 : rf d 206 271 ls (.int y :: .int x :: s) h = rf d 206 272 ls (.int (x - y) :: s) h := rf_pure (i := .isub) (len := 1) (okD_ok (by decide +kernel)) rfl
theorem e206_272 : rf d 206 272 ls (.int x :: .ref 265 :: s) (SH n, I, L, R, nc, ns, nx) = rf d 206 275 ls s (SH n, ip_up I 265 33 x, L, R, nc, ns, nx) := g_pI (idx := 244) (by decide +kernel) ow206 f_8_244 rfl (by decide +kernel) rfl (by decide)
theorem e206_275 : rf d 206 275 [some (.ref a), l1, l2] s h = rf d 206 276 [some (.ref a), l1, l2] (.ref a :: s) h := rf_pure (i := .aload_n 0) (len := 1) (okD_ok (by decide +kernel)) rfl
theorem e206_276 (hcat : ip_cat s ≤ 8) : rf (d + 1) 206 276 ls (.ref 265 :: s) (SH n, I, L, R, nc, ns, nx) = rf_k (d + 1) 206 276 ls s (cf d 211 [.ref 265] (SH n, I, L, R, nc, ns, nx)) := g_cv (idx := 264) (t := 8) [] (by decide +kernel) ow206 ms_8_264 mt_8_264 cy211_8 rfl rfl mL211 rfl rfl (by decide) hcat
theorem e206_279 : rf d 206 279 ls s h = rf d 206 53 ls s h := rf_goto ⟨okD_ok (i := .goto (-226)) (len := 3) (by decide +kernel), rfl⟩
theorem e206_282 : rf d 206 282 ls [] h = some (.inl none, h) := g_rv (by decide +kernel) rt206
theorem en207 : cf d 207 [.ref a, .int x0, .int x1] h = rf d 207 0 [some (.ref a), some (.int x0), some (.int x1)] [] h := rfl
theorem e207_0 : rf d 207 0 [some (.ref a), l1, l2] s h = rf d 207 1 [some (.ref a), l1, l2] (.ref a :: s) h := rf_pure (i := .aload_n 0) (len := 1) (okD_ok (by decide +kernel)) rfl
theorem e207_1 : rf d 207 1 ls (.int x :: s) h = rf d 207 2 ls (.int x :: .int x :: s) h := rf_pure (i := .dup) (len := 1) (okD_ok (by decide +kernel)) rfl
theorem e207_1r : rf d 207 1 ls (.ref a :: s) h = rf d 207 2 ls (.ref a :: .ref a :: s) h := rf_pure (i := .dup) (len := 1) (okD_ok (by decide +kernel)) rfl
theorem e207_2 : rf d 207 2 ls (.ref 265 :: s) (SH n, I, L, R, nc, ns, nx) = rf d 207 5 ls (.int (I 265 33) :: s) (SH n, I, L, R, nc, ns, nx) := g_I (idx := 244) (by decide +kernel) ow207 f_8_244 rfl rfl (by decide)
theorem e207_5 : rf d 207 5 ls s h = rf d 207 6 ls (.int 1 :: s) h := rf_pure (i := .iconst (1)) (len := 1) (okD_ok (by decide +kernel)) rfl
theorem e207_6 : rf d 207 6 ls (.int y :: .int x :: s) h = rf d 207 7 ls (.int (x + y) :: s) h := rf_pure (i := .iadd) (len := 1) (okD_ok (by decide +kernel)) rfl
theorem e207_7 : rf d 207 7 ls (.int x :: .ref 265 :: s) (SH n, I, L, R, nc, ns, nx) = rf d 207 10 ls s (SH n, ip_up I 265 33 x, L, R, nc, ns, nx) := g_pI (idx := 244) (by decide +kernel) ow207 f_8_244 rfl (by decide +kernel) rfl (by decide)
theorem e207_10 : rf d 207 10 [some (.ref a), l1, l2] s h = rf d 207 11 [some (.ref a), l1, l2] (.ref a :: s) h := rf_pure (i := .aload_n 0) (len := 1) (okD_ok (by decide +kernel)) rfl
theorem e207_11 (hR : LYR R) : rf d 207 11 ls (.ref 265 :: s) (SH n, I, L, R, nc, ns, nx) = rf d 207 14 ls (.ref 281 :: s) (SH n, I, L, R, nc, ns, nx) := g_R (idx := 60) (by decide +kernel) ow207 f_8_60 rfl rfl (by decide) (ly_265_27 hR)
theorem e207_14 : rf d 207 14 [some (.ref a), l1, l2] s h = rf d 207 15 [some (.ref a), l1, l2] (.ref a :: s) h := rf_pure (i := .aload_n 0) (len := 1) (okD_ok (by decide +kernel)) rfl
theorem e207_15 : rf d 207 15 ls (.ref 265 :: s) (SH n, I, L, R, nc, ns, nx) = rf d 207 18 ls (.int (I 265 33) :: s) (SH n, I, L, R, nc, ns, nx) := g_I (idx := 244) (by decide +kernel) ow207 f_8_244 rfl rfl (by decide)
theorem e207_18 : rf d 207 18 [l0, some (.int x), l2] s h = rf d 207 19 [l0, some (.int x), l2] (.int x :: s) h := rf_pure (i := .iload_n 1) (len := 1) (okD_ok (by decide +kernel)) rfl
theorem e207_19 (q : ia n a j) : rf d 207 19 ls (.int x :: .int j :: .ref a :: s) (SH n, I, L, R, nc, ns, nx) = rf d 207 20 ls s (SH n, ip_up I a j.toNatClampNeg x, L, R, nc, ns, nx) := g_ias (by decide +kernel) q
theorem e207_20 : rf d 207 20 [some (.ref a), l1, l2] s h = rf d 207 21 [some (.ref a), l1, l2] (.ref a :: s) h := rf_pure (i := .aload_n 0) (len := 1) (okD_ok (by decide +kernel)) rfl
theorem e207_21 (hR : LYR R) : rf d 207 21 ls (.ref 265 :: s) (SH n, I, L, R, nc, ns, nx) = rf d 207 24 ls (.ref 282 :: s) (SH n, I, L, R, nc, ns, nx) := g_R (idx := 63) (by decide +kernel) ow207 f_8_63 rfl rfl (by decide) (ly_265_28 hR)
theorem e207_24 : rf d 207 24 [some (.ref a), l1, l2] s h = rf d 207 25 [some (.ref a), l1, l2] (.ref a :: s) h := rf_pure (i := .aload_n 0) (len := 1) (okD_ok (by decide +kernel)) rfl
theorem e207_25 : rf d 207 25 ls (.ref 265 :: s) (SH n, I, L, R, nc, ns, nx) = rf d 207 28 ls (.int (I 265 33) :: s) (SH n, I, L, R, nc, ns, nx) := g_I (idx := 244) (by decide +kernel) ow207 f_8_244 rfl rfl (by decide)
theorem e207_28 : rf d 207 28 [l0, l1, some (.int x)] s h = rf d 207 29 [l0, l1, some (.int x)] (.int x :: s) h := rf_pure (i := .iload_n 2) (len := 1) (okD_ok (by decide +kernel)) rfl
theorem e207_29 (q : ia n a j) : rf d 207 29 ls (.int x :: .int j :: .ref a :: s) (SH n, I, L, R, nc, ns, nx) = rf d 207 30 ls s (SH n, ip_up I a j.toNatClampNeg x, L, R, nc, ns, nx) := g_ias (by decide +kernel) q
theorem e207_30 : rf d 207 30 [some (.ref a), l1, l2] s h = rf d 207 31 [some (.ref a), l1, l2] (.ref a :: s) h := rf_pure (i := .aload_n 0) (len := 1) (okD_ok (by decide +kernel)) rfl
theorem e207_31 (hR : LYR R) : rf d 207 31 ls (.ref 265 :: s) (SH n, I, L, R, nc, ns, nx) = rf d 207 34 ls (.ref 283 :: s) (SH n, I, L, R, nc, ns, nx) := g_R (idx := 66) (by decide +kernel) ow207 f_8_66 rfl rfl (by decide) (ly_265_29 hR)
theorem e207_34 : rf d 207 34 [some (.ref a), l1, l2] s h = rf d 207 35 [some (.ref a), l1, l2] (.ref a :: s) h := rf_pure (i := .aload_n 0) (len := 1) (okD_ok (by decide +kernel)) rfl
theorem e207_35 : rf d 207 35 ls (.ref 265 :: s) (SH n, I, L, R, nc, ns, nx) = rf d 207 38 ls (.int (I 265 33) :: s) (SH n, I, L, R, nc, ns, nx) := g_I (idx := 244) (by decide +kernel) ow207 f_8_244 rfl rfl (by decide)
theorem e207_38 : rf d 207 38 ls s h = rf d 207 39 ls (.int 1 :: s) h := rf_pure (i := .iconst (1)) (len := 1) (okD_ok (by decide +kernel)) rfl
theorem e207_39 (q : ia n a j) : rf d 207 39 ls (.int x :: .int j :: .ref a :: s) (SH n, I, L, R, nc, ns, nx) = rf d 207 40 ls s (SH n, ip_up I a j.toNatClampNeg x, L, R, nc, ns, nx) := g_ias (by decide +kernel) q
theorem e207_40 : rf d 207 40 [some (.ref a), l1, l2] s h = rf d 207 41 [some (.ref a), l1, l2] (.ref a :: s) h := rf_pure (i := .aload_n 0) (len := 1) (okD_ok (by decide +kernel)) rfl
theorem e207_41 (hR : LYR R) : rf d 207 41 ls (.ref 265 :: s) (SH n, I, L, R, nc, ns, nx) = rf d 207 44 ls (.ref 284 :: s) (SH n, I, L, R, nc, ns, nx) := g_R (idx := 69) (by decide +kernel) ow207 f_8_69 rfl rfl (by decide) (ly_265_30 hR)
theorem e207_44 : rf d 207 44 [some (.ref a), l1, l2] s h = rf d 207 45 [some (.ref a), l1, l2] (.ref a :: s) h := rf_pure (i := .aload_n 0) (len := 1) (okD_ok (by decide +kernel)) rfl
theorem e207_45 : rf d 207 45 ls (.ref 265 :: s) (SH n, I, L, R, nc, ns, nx) = rf d 207 48 ls (.int (I 265 33) :: s) (SH n, I, L, R, nc, ns, nx) := g_I (idx := 244) (by decide +kernel) ow207 f_8_244 rfl rfl (by decide)
theorem e207_48 : rf d 207 48 ls s h = rf d 207 49 ls (.int 0 :: s) h := rf_pure (i := .iconst (0)) (len := 1) (okD_ok (by decide +kernel)) rfl
theorem e207_49 (q : ia n a j) : rf d 207 49 ls (.int x :: .int j :: .ref a :: s) (SH n, I, L, R, nc, ns, nx) = rf d 207 50 ls s (SH n, ip_up I a j.toNatClampNeg x, L, R, nc, ns, nx) := g_ias (by decide +kernel) q
theorem e207_50 : rf d 207 50 [some (.ref a), l1, l2] s h = rf d 207 51 [some (.ref a), l1, l2] (.ref a :: s) h := rf_pure (i := .aload_n 0) (len := 1) (okD_ok (by decide +kernel)) rfl
theorem e207_51 (hR : LYR R) : rf d 207 51 ls (.ref 265 :: s) (SH n, I, L, R, nc, ns, nx) = rf d 207 54 ls (.ref 285 :: s) (SH n, I, L, R, nc, ns, nx) := g_R (idx := 72) (by decide +kernel) ow207 f_8_72 rfl rfl (by decide) (ly_265_31 hR)
theorem e207_54 : rf d 207 54 [some (.ref a), l1, l2] s h = rf d 207 55 [some (.ref a), l1, l2] (.ref a :: s) h := rf_pure (i := .aload_n 0) (len := 1) (okD_ok (by decide +kernel)) rfl
theorem e207_55 : rf d 207 55 ls (.ref 265 :: s) (SH n, I, L, R, nc, ns, nx) = rf d 207 58 ls (.int (I 265 33) :: s) (SH n, I, L, R, nc, ns, nx) := g_I (idx := 244) (by decide +kernel) ow207 f_8_244 rfl rfl (by decide)
theorem e207_58 : rf d 207 58 ls s h = rf d 207 59 ls (.int 0 :: s) h := rf_pure (i := .iconst (0)) (len := 1) (okD_ok (by decide +kernel)) rfl
theorem e207_59 (q : za n a j) (hx : x = 0 ∨ x = 1) : rf d 207 59 ls (.int x :: .int j :: .ref a :: s) (SH n, I, L, R, nc, ns, nx) = rf d 207 60 ls s (SH n, ip_up I a j.toNatClampNeg x, L, R, nc, ns, nx) := g_zas (by decide +kernel) q hx
theorem e207_60 : rf d 207 60 [some (.ref a), l1, l2] s h = rf d 207 61 [some (.ref a), l1, l2] (.ref a :: s) h := rf_pure (i := .aload_n 0) (len := 1) (okD_ok (by decide +kernel)) rfl
theorem e207_61 (hR : LYR R) : rf d 207 61 ls (.ref 265 :: s) (SH n, I, L, R, nc, ns, nx) = rf d 207 64 ls (.ref 286 :: s) (SH n, I, L, R, nc, ns, nx) := g_R (idx := 76) (by decide +kernel) ow207 f_8_76 rfl rfl (by decide) (ly_265_32 hR)
theorem e207_64 : rf d 207 64 [some (.ref a), l1, l2] s h = rf d 207 65 [some (.ref a), l1, l2] (.ref a :: s) h := rf_pure (i := .aload_n 0) (len := 1) (okD_ok (by decide +kernel)) rfl
theorem e207_65 : rf d 207 65 ls (.ref 265 :: s) (SH n, I, L, R, nc, ns, nx) = rf d 207 68 ls (.int (I 265 33) :: s) (SH n, I, L, R, nc, ns, nx) := g_I (idx := 244) (by decide +kernel) ow207 f_8_244 rfl rfl (by decide)
theorem e207_68 : rf d 207 68 ls s h = rf d 207 69 ls (.int 0 :: s) h := rf_pure (i := .iconst (0)) (len := 1) (okD_ok (by decide +kernel)) rfl
theorem e207_69 (q : za n a j) (hx : x = 0 ∨ x = 1) : rf d 207 69 ls (.int x :: .int j :: .ref a :: s) (SH n, I, L, R, nc, ns, nx) = rf d 207 70 ls s (SH n, ip_up I a j.toNatClampNeg x, L, R, nc, ns, nx) := g_zas (by decide +kernel) q hx
theorem e207_70 : rf d 207 70 ls [] h = some (.inl none, h) := g_rv (by decide +kernel) rt207
theorem en208 : cf d 208 [.ref a] h = rf d 208 0 [some (.ref a), none, none] [] h := rfl
theorem e208_0 : rf d 208 0 [some (.ref a), l1, l2] s h = rf d 208 1 [some (.ref a), l1, l2] (.ref a :: s) h := rf_pure (i := .aload_n 0) (len := 1) (okD_ok (by decide +kernel)) rfl
theorem e208_1 (hcat : ip_cat s ≤ 8) : rf (d + 1) 208 1 ls (.ref 265 :: s) (SH n, I, L, R, nc, ns, nx) = rf_k (d + 1) 208 1 ls s (cf d 193 [.ref 265] (SH n, I, L, R, nc, ns, nx)) := g_cv (idx := 154) (t := 8) [] (by decide +kernel) ow208 ms_8_154 mt_8_154 cy193_8 rfl rfl mL193 rfl rfl (by decide) hcat
theorem e208_4 (hn : ip_nl l0 = true) : rf d 208 4 [l0, l1, l2] (.int x :: s) h = rf d 208 5 [l0, some (.int x), l2] s h := g_sti (i := .istore_n 1) (len := 1) (q := 0) (p := 1) (by decide +kernel) rfl rfl hn
theorem e208_5 : rf d 208 5 [some (.ref a), l1, l2] s h = rf d 208 6 [some (.ref a), l1, l2] (.ref a :: s) h := rf_pure (i := .aload_n 0) (len := 1) (okD_ok (by decide +kernel)) rfl
theorem e208_6 : rf d 208 6 ls s h = rf d 208 8 ls (.ref (tx 37) :: s) h := g_ks (idx := 198) (i := .ldc 198) (len := 2) (by decide +kernel) rfl rfl ow208 kn_8_198 ks_8_198
theorem e208_8 (hcat : ip_cat s ≤ 8) : rf (d + 1) 208 8 ls (.ref a0 :: .ref 265 :: s) (SH n, I, L, R, nc, ns, nx) = rf_k (d + 1) 208 8 ls s (cf d 194 [.ref 265, .ref a0] (SH n, I, L, R, nc, ns, nx)) := g_cv (idx := 170) (t := 8) [.ref a0] (by decide +kernel) ow208 ms_8_170 mt_8_170 cy194_8 rfl rfl mL194 rfl rfl (by decide) hcat
theorem e208_11 : rf d 208 11 ls (.int x :: s) h = if x = 0 then rf d 208 43 ls s h else rf d 208 14 ls s h := g_if (c := .eq) (off := 32) _ (by decide +kernel) rfl cmp_d
theorem e208_14 : rf d 208 14 [some (.ref a), l1, l2] s h = rf d 208 15 [some (.ref a), l1, l2] (.ref a :: s) h := rf_pure (i := .aload_n 0) (len := 1) (okD_ok (by decide +kernel)) rfl
theorem e208_15 (hcat : ip_cat s ≤ 8) : rf (d + 1) 208 15 ls (.ref 265 :: s) (SH n, I, L, R, nc, ns, nx) = rf_k (d + 1) 208 15 ls s (cf d 209 [.ref 265] (SH n, I, L, R, nc, ns, nx)) := g_cv (idx := 254) (t := 8) [] (by decide +kernel) ow208 ms_8_254 mt_8_254 cy209_8 rfl rfl mL209 rfl rfl (by decide) hcat
theorem e208_18 : rf d 208 18 [some (.ref a), l1, l2] s h = rf d 208 19 [some (.ref a), l1, l2] (.ref a :: s) h := rf_pure (i := .aload_n 0) (len := 1) (okD_ok (by decide +kernel)) rfl
theorem e208_19 : rf d 208 19 ls (.int x :: s) h = rf d 208 20 ls (.int x :: .int x :: s) h := rf_pure (i := .dup) (len := 1) (okD_ok (by decide +kernel)) rfl
theorem e208_19r : rf d 208 19 ls (.ref a :: s) h = rf d 208 20 ls (.ref a :: .ref a :: s) h := rf_pure (i := .dup) (len := 1) (okD_ok (by decide +kernel)) rfl
theorem e208_20 : rf d 208 20 ls (.ref 265 :: s) (SH n, I, L, R, nc, ns, nx) = rf d 208 23 ls (.int (I 265 4) :: s) (SH n, I, L, R, nc, ns, nx) := g_I (idx := 148) (by decide +kernel) ow208 f_8_148 rfl rfl (by decide)
theorem e208_23 : rf d 208 23 ls s h = rf d 208 24 ls (.int 3 :: s) h := rf_pure (i := .iconst (3)) (len := 1) (okD_ok (by decide +kernel)) rfl
theorem e208_24 : rf d 208 24 ls (.int y :: .int x :: s) h = rf d 208 25 ls (.int (x + y) :: s) h := rf_pure (i := .iadd) (len := 1) (okD_ok (by decide +kernel)) rfl
theorem e208_25 : rf d 208 25 ls (.int x :: .ref 265 :: s) (SH n, I, L, R, nc, ns, nx) = rf d 208 28 ls s (SH n, ip_up I 265 4 x, L, R, nc, ns, nx) := g_pI (idx := 148) (by decide +kernel) ow208 f_8_148 rfl (by decide +kernel) rfl (by decide)
theorem e208_28 : rf d 208 28 [some (.ref a), l1, l2] s h = rf d 208 29 [some (.ref a), l1, l2] (.ref a :: s) h := rf_pure (i := .aload_n 0) (len := 1) (okD_ok (by decide +kernel)) rfl
theorem e208_29 (hR : LYR R) : rf d 208 29 ls (.ref 265 :: s) (SH n, I, L, R, nc, ns, nx) = rf d 208 32 ls (.ref 284 :: s) (SH n, I, L, R, nc, ns, nx) := g_R (idx := 69) (by decide +kernel) ow208 f_8_69 rfl rfl (by decide) (ly_265_30 hR)
theorem e208_32 : rf d 208 32 [some (.ref a), l1, l2] s h = rf d 208 33 [some (.ref a), l1, l2] (.ref a :: s) h := rf_pure (i := .aload_n 0) (len := 1) (okD_ok (by decide +kernel)) rfl
theorem e208_33 : rf d 208 33 ls (.ref 265 :: s) (SH n, I, L, R, nc, ns, nx) = rf d 208 36 ls (.int (I 265 33) :: s) (SH n, I, L, R, nc, ns, nx) := g_I (idx := 244) (by decide +kernel) ow208 f_8_244 rfl rfl (by decide)
theorem e208_36 : rf d 208 36 ls (.int j :: .ref a :: s) h = rf d 208 37 ls (.int j :: .ref a :: .int j :: .ref a :: s) h := rf_pure (i := .dup2) (len := 1) (okD_ok (by decide +kernel)) rfl
theorem e208_37 (q : ia n a j) : rf d 208 37 ls (.int j :: .ref a :: s) (SH n, I, L, R, nc, ns, nx) = rf d 208 38 ls (.int (I a j.toNatClampNeg) :: s) (SH n, I, L, R, nc, ns, nx) := g_ial (by decide +kernel) q
theorem e208_38 : rf d 208 38 ls s h = rf d 208 39 ls (.int 1 :: s) h := rf_pure (i := .iconst (1)) (len := 1) (okD_ok (by decide +kernel)) rfl
theorem e208_39 : rf d 208 39 ls (.int y :: .int x :: s) h = rf d 208 40 ls (.int (x + y) :: s) h := rf_pure (i := .iadd) (len := 1) (okD_ok (by decide +kernel)) rfl
theorem e208_40 (q : ia n a j) : rf d 208 40 ls (.int x :: .int j :: .ref a :: s) (SH n, I, L, R, nc, ns, nx) = rf d 208 41 ls s (SH n, ip_up I a j.toNatClampNeg x, L, R, nc, ns, nx) := g_ias (by decide +kernel) q
theorem e208_41 : rf d 208 41 ls s h = rf d 208 42 ls (.int 0 :: s) h := rf_pure (i := .iconst (0)) (len := 1) (okD_ok (by decide +kernel)) rfl
theorem e208_42 (hx : x = 0 ∨ x = 1) : rf d 208 42 ls [.int x] h = some (.inl (some (.int x)), h) := g_rz (by decide +kernel) rt208 hx
theorem e208_43 : rf d 208 43 [l0, some (.int x), l2] s h = rf d 208 44 [l0, some (.int x), l2] (.int x :: s) h := rf_pure (i := .iload_n 1) (len := 1) (okD_ok (by decide +kernel)) rfl
theorem e208_44 : rf d 208 44 ls s h = rf d 208 46 ls (.int 40 :: s) h := rf_pure (i := .bipush (40)) (len := 2) (okD_ok (by decide +kernel)) rfl
theorem e208_46 : rf d 208 46 ls (.int y :: .int x :: s) h = if ¬ x = y then rf d 208 71 ls s h else rf d 208 49 ls s h := g_ic (c := .ne) (off := 25) _ (by decide +kernel) rfl cmp_d
theorem e208_49 : rf d 208 49 [some (.ref a), l1, l2] s h = rf d 208 50 [some (.ref a), l1, l2] (.ref a :: s) h := rf_pure (i := .aload_n 0) (len := 1) (okD_ok (by decide +kernel)) rfl
theorem e208_50 (hcat : ip_cat s ≤ 8) : rf (d + 1) 208 50 ls (.ref 265 :: s) (SH n, I, L, R, nc, ns, nx) = rf_k (d + 1) 208 50 ls s (cf d 209 [.ref 265] (SH n, I, L, R, nc, ns, nx)) := g_cv (idx := 254) (t := 8) [] (by decide +kernel) ow208 ms_8_254 mt_8_254 cy209_8 rfl rfl mL209 rfl rfl (by decide) hcat
theorem e208_53 : rf d 208 53 [some (.ref a), l1, l2] s h = rf d 208 54 [some (.ref a), l1, l2] (.ref a :: s) h := rf_pure (i := .aload_n 0) (len := 1) (okD_ok (by decide +kernel)) rfl
theorem e208_54 : rf d 208 54 ls (.int x :: s) h = rf d 208 55 ls (.int x :: .int x :: s) h := rf_pure (i := .dup) (len := 1) (okD_ok (by decide +kernel)) rfl
theorem e208_54r : rf d 208 54 ls (.ref a :: s) h = rf d 208 55 ls (.ref a :: .ref a :: s) h := rf_pure (i := .dup) (len := 1) (okD_ok (by decide +kernel)) rfl
theorem e208_55 : rf d 208 55 ls (.ref 265 :: s) (SH n, I, L, R, nc, ns, nx) = rf d 208 58 ls (.int (I 265 4) :: s) (SH n, I, L, R, nc, ns, nx) := g_I (idx := 148) (by decide +kernel) ow208 f_8_148 rfl rfl (by decide)
theorem e208_58 : rf d 208 58 ls s h = rf d 208 59 ls (.int 1 :: s) h := rf_pure (i := .iconst (1)) (len := 1) (okD_ok (by decide +kernel)) rfl
theorem e208_59 : rf d 208 59 ls (.int y :: .int x :: s) h = rf d 208 60 ls (.int (x + y) :: s) h := rf_pure (i := .iadd) (len := 1) (okD_ok (by decide +kernel)) rfl
theorem e208_60 : rf d 208 60 ls (.int x :: .ref 265 :: s) (SH n, I, L, R, nc, ns, nx) = rf d 208 63 ls s (SH n, ip_up I 265 4 x, L, R, nc, ns, nx) := g_pI (idx := 148) (by decide +kernel) ow208 f_8_148 rfl (by decide +kernel) rfl (by decide)
theorem e208_63 : rf d 208 63 [some (.ref a), l1, l2] s h = rf d 208 64 [some (.ref a), l1, l2] (.ref a :: s) h := rf_pure (i := .aload_n 0) (len := 1) (okD_ok (by decide +kernel)) rfl
theorem e208_64 : rf d 208 64 ls s h = rf d 208 65 ls (.int 1 :: s) h := rf_pure (i := .iconst (1)) (len := 1) (okD_ok (by decide +kernel)) rfl
theorem e208_65 : rf d 208 65 ls s h = rf d 208 66 ls (.int 0 :: s) h := rf_pure (i := .iconst (0)) (len := 1) (okD_ok (by decide +kernel)) rfl
theorem e208_66 (hcat : ip_cat s ≤ 8) : rf (d + 1) 208 66 ls (.int x1 :: .int x0 :: .ref 265 :: s) (SH n, I, L, R, nc, ns, nx) = rf_k (d + 1) 208 66 ls s (cf d 207 [.ref 265, .int x0, .int x1] (SH n, I, L, R, nc, ns, nx)) := g_cv (idx := 257) (t := 8) [.int x1, .int x0] (by decide +kernel) ow208 ms_8_257 mt_8_257 cy207_8 rfl rfl mL207 rfl rfl (by decide) hcat
theorem e208_69 : rf d 208 69 ls s h = rf d 208 70 ls (.int 0 :: s) h := rf_pure (i := .iconst (0)) (len := 1) (okD_ok (by decide +kernel)) rfl
theorem e208_70 (hx : x = 0 ∨ x = 1) : rf d 208 70 ls [.int x] h = some (.inl (some (.int x)), h) := g_rz (by decide +kernel) rt208 hx
theorem e208_71 : rf d 208 71 [l0, some (.int x), l2] s h = rf d 208 72 [l0, some (.int x), l2] (.int x :: s) h := rf_pure (i := .iload_n 1) (len := 1) (okD_ok (by decide +kernel)) rfl
theorem e208_72 : rf d 208 72 ls s h = rf d 208 73 ls (.int (-1) :: s) h := rf_pure (i := .iconst (-1)) (len := 1) (okD_ok (by decide +kernel)) rfl
theorem e208_73 : rf d 208 73 ls (.int y :: .int x :: s) h = if x = y then rf d 208 156 ls s h else rf d 208 76 ls s h := g_ic (c := .eq) (off := 83) _ (by decide +kernel) rfl cmp_d
theorem e208_76 : rf d 208 76 [some (.ref a), l1, l2] s h = rf d 208 77 [some (.ref a), l1, l2] (.ref a :: s) h := rf_pure (i := .aload_n 0) (len := 1) (okD_ok (by decide +kernel)) rfl
theorem e208_77 : rf d 208 77 [some (.ref a), l1, l2] s h = rf d 208 78 [some (.ref a), l1, l2] (.ref a :: s) h := rf_pure (i := .aload_n 0) (len := 1) (okD_ok (by decide +kernel)) rfl
theorem e208_78 : rf d 208 78 ls (.ref 265 :: s) (SH n, I, L, R, nc, ns, nx) = rf d 208 81 ls (.int (I 265 4) :: s) (SH n, I, L, R, nc, ns, nx) := g_I (idx := 148) (by decide +kernel) ow208 f_8_148 rfl rfl (by decide)
theorem e208_81 (hcat : ip_cat s ≤ 8) : rf (d + 1) 208 81 ls (.int x0 :: .ref 265 :: s) (SH n, I, L, R, nc, ns, nx) = rf_k (d + 1) 208 81 ls s (cf d 205 [.ref 265, .int x0] (SH n, I, L, R, nc, ns, nx)) := g_cv (idx := 221) (t := 8) [.int x0] (by decide +kernel) ow208 ms_8_221 mt_8_221 cy205_8 rfl rfl mL205 rfl rfl (by decide) hcat
theorem e208_84 : rf d 208 84 ls (.int x :: s) h = if x = 0 then rf d 208 156 ls s h else rf d 208 87 ls s h := g_if (c := .eq) (off := 72) _ (by decide +kernel) rfl cmp_d
theorem e208_87 : rf d 208 87 [some (.ref a), l1, l2] s h = rf d 208 88 [some (.ref a), l1, l2] (.ref a :: s) h := rf_pure (i := .aload_n 0) (len := 1) (okD_ok (by decide +kernel)) rfl
theorem e208_88 (hcat : ip_cat s ≤ 8) : rf (d + 1) 208 88 ls (.ref 265 :: s) (SH n, I, L, R, nc, ns, nx) = rf_k (d + 1) 208 88 ls s (cf d 204 [.ref 265] (SH n, I, L, R, nc, ns, nx)) := g_cv (idx := 238) (t := 8) [] (by decide +kernel) ow208 ms_8_238 mt_8_238 cy204_8 rfl rfl mL204 rfl rfl (by decide) hcat
theorem e208_91 (hn : ip_nl l1 = true) : rf d 208 91 [l0, l1, l2] (.int x :: s) h = rf d 208 92 [l0, l1, some (.int x)] s h := g_sti (i := .istore_n 2) (len := 1) (q := 1) (p := 1) (by decide +kernel) rfl rfl hn
theorem e208_92 : rf d 208 92 [some (.ref a), l1, l2] s h = rf d 208 93 [some (.ref a), l1, l2] (.ref a :: s) h := rf_pure (i := .aload_n 0) (len := 1) (okD_ok (by decide +kernel)) rfl
theorem e208_93 : rf d 208 93 ls s h = rf d 208 95 ls (.ref (tx 38) :: s) h := g_ks (idx := 200) (i := .ldc 200) (len := 2) (by decide +kernel) rfl rfl ow208 kn_8_200 ks_8_200
theorem e208_95 (hcat : ip_cat s ≤ 8) : rf (d + 1) 208 95 ls (.ref a0 :: .ref 265 :: s) (SH n, I, L, R, nc, ns, nx) = rf_k (d + 1) 208 95 ls s (cf d 202 [.ref 265, .ref a0] (SH n, I, L, R, nc, ns, nx)) := g_cv (idx := 231) (t := 8) [.ref a0] (by decide +kernel) ow208 ms_8_231 mt_8_231 cy202_8 rfl rfl mL202 rfl rfl (by decide) hcat
theorem e208_98 : rf d 208 98 ls (.int x :: s) h = if ¬ x = 0 then rf d 208 105 ls s h else rf d 208 101 ls s h := g_if (c := .ne) (off := 7) _ (by decide +kernel) rfl cmp_d
theorem e208_101 : rf d 208 101 [some (.ref a), l1, l2] s h = rf d 208 102 [some (.ref a), l1, l2] (.ref a :: s) h := rf_pure (i := .aload_n 0) (len := 1) (okD_ok (by decide +kernel)) rfl
theorem e208_102 (hcat : ip_cat s ≤ 8) : rf (d + 1) 208 102 ls (.ref 265 :: s) (SH n, I, L, R, nc, ns, nx) = rf_k (d + 1) 208 102 ls s (cf d 197 [.ref 265] (SH n, I, L, R, nc, ns, nx)) := g_cv (idx := 174) (t := 8) [] (by decide +kernel) ow208 ms_8_174 mt_8_174 cy197_8 rfl rfl mL197 rfl rfl (by decide) hcat
theorem e208_105 : rf d 208 105 [some (.ref a), l1, l2] s h = rf d 208 106 [some (.ref a), l1, l2] (.ref a :: s) h := rf_pure (i := .aload_n 0) (len := 1) (okD_ok (by decide +kernel)) rfl
theorem e208_106 : rf d 208 106 ls (.ref 265 :: s) (SH n, I, L, R, nc, ns, nx) = rf d 208 109 ls (.int (I 265 5) :: s) (SH n, I, L, R, nc, ns, nx) := g_I (idx := 13) (by decide +kernel) ow208 f_8_13 rfl rfl (by decide)
theorem e208_109 : rf d 208 109 ls s h = rf d 208 110 ls (.int (-1) :: s) h := rf_pure (i := .iconst (-1)) (len := 1) (okD_ok (by decide +kernel)) rfl
theorem e208_110 : rf d 208 110 ls (.int y :: .int x :: s) h = if ¬ x = y then rf d 208 126 ls s h else rf d 208 113 ls s h := g_ic (c := .ne) (off := 16) _ (by decide +kernel) rfl cmp_d
theorem e208_113 : rf d 208 113 [some (.ref a), l1, l2] s h = rf d 208 114 [some (.ref a), l1, l2] (.ref a :: s) h := rf_pure (i := .aload_n 0) (len := 1) (okD_ok (by decide +kernel)) rfl
theorem e208_114 (hcat : ip_cat s ≤ 8) : rf (d + 1) 208 114 ls (.ref 265 :: s) (SH n, I, L, R, nc, ns, nx) = rf_k (d + 1) 208 114 ls s (cf d 193 [.ref 265] (SH n, I, L, R, nc, ns, nx)) := g_cv (idx := 154) (t := 8) [] (by decide +kernel) ow208 ms_8_154 mt_8_154 cy193_8 rfl rfl mL193 rfl rfl (by decide) hcat
theorem e208_117 : rf d 208 117 ls s h = rf d 208 119 ls (.int 40 :: s) h := rf_pure (i := .bipush (40)) (len := 2) (okD_ok (by decide +kernel)) rfl
theorem e208_119 : rf d 208 119 ls (.int y :: .int x :: s) h = if x = y then rf d 208 126 ls s h else rf d 208 122 ls s h := g_ic (c := .eq) (off := 7) _ (by decide +kernel) rfl cmp_d
theorem e208_122 : rf d 208 122 [some (.ref a), l1, l2] s h = rf d 208 123 [some (.ref a), l1, l2] (.ref a :: s) h := rf_pure (i := .aload_n 0) (len := 1) (okD_ok (by decide +kernel)) rfl
theorem e208_123 (hcat : ip_cat s ≤ 8) : rf (d + 1) 208 123 ls (.ref 265 :: s) (SH n, I, L, R, nc, ns, nx) = rf_k (d + 1) 208 123 ls s (cf d 197 [.ref 265] (SH n, I, L, R, nc, ns, nx)) := g_cv (idx := 174) (t := 8) [] (by decide +kernel) ow208 ms_8_174 mt_8_174 cy197_8 rfl rfl mL197 rfl rfl (by decide) hcat
theorem e208_126 : rf d 208 126 [some (.ref a), l1, l2] s h = rf d 208 127 [some (.ref a), l1, l2] (.ref a :: s) h := rf_pure (i := .aload_n 0) (len := 1) (okD_ok (by decide +kernel)) rfl
theorem e208_127 : rf d 208 127 ls (.ref 265 :: s) (SH n, I, L, R, nc, ns, nx) = rf d 208 130 ls (.int (I 265 5) :: s) (SH n, I, L, R, nc, ns, nx) := g_I (idx := 13) (by decide +kernel) ow208 f_8_13 rfl rfl (by decide)
theorem e208_130 : rf d 208 130 ls s h = rf d 208 131 ls (.int (-1) :: s) h := rf_pure (i := .iconst (-1)) (len := 1) (okD_ok (by decide +kernel)) rfl
theorem e208_131 : rf d 208 131 ls (.int y :: .int x :: s) h = if ¬ x = y then rf d 208 138 ls s h else rf d 208 134 ls s h := g_ic (c := .ne) (off := 7) _ (by decide +kernel) rfl cmp_d
theorem e208_134 : rf d 208 134 [some (.ref a), l1, l2] s h = rf d 208 135 [some (.ref a), l1, l2] (.ref a :: s) h := rf_pure (i := .aload_n 0) (len := 1) (okD_ok (by decide +kernel)) rfl
theorem e208_135 (hcat : ip_cat s ≤ 8) : rf (d + 1) 208 135 ls (.ref 265 :: s) (SH n, I, L, R, nc, ns, nx) = rf_k (d + 1) 208 135 ls s (cf d 209 [.ref 265] (SH n, I, L, R, nc, ns, nx)) := g_cv (idx := 254) (t := 8) [] (by decide +kernel) ow208 ms_8_254 mt_8_254 cy209_8 rfl rfl mL209 rfl rfl (by decide) hcat
theorem e208_138 : rf d 208 138 [some (.ref a), l1, l2] s h = rf d 208 139 [some (.ref a), l1, l2] (.ref a :: s) h := rf_pure (i := .aload_n 0) (len := 1) (okD_ok (by decide +kernel)) rfl
theorem e208_139 : rf d 208 139 ls (.int x :: s) h = rf d 208 140 ls (.int x :: .int x :: s) h := rf_pure (i := .dup) (len := 1) (okD_ok (by decide +kernel)) rfl
theorem e208_139r : rf d 208 139 ls (.ref a :: s) h = rf d 208 140 ls (.ref a :: .ref a :: s) h := rf_pure (i := .dup) (len := 1) (okD_ok (by decide +kernel)) rfl
theorem e208_140 : rf d 208 140 ls (.ref 265 :: s) (SH n, I, L, R, nc, ns, nx) = rf d 208 143 ls (.int (I 265 4) :: s) (SH n, I, L, R, nc, ns, nx) := g_I (idx := 148) (by decide +kernel) ow208 f_8_148 rfl rfl (by decide)
theorem e208_143 : rf d 208 143 ls s h = rf d 208 144 ls (.int 1 :: s) h := rf_pure (i := .iconst (1)) (len := 1) (okD_ok (by decide +kernel)) rfl
theorem e208_144 : rf d 208 144 ls (.int y :: .int x :: s) h = rf d 208 145 ls (.int (x + y) :: s) h := rf_pure (i := .iadd) (len := 1) (okD_ok (by decide +kernel)) rfl
theorem e208_145 : rf d 208 145 ls (.int x :: .ref 265 :: s) (SH n, I, L, R, nc, ns, nx) = rf d 208 148 ls s (SH n, ip_up I 265 4 x, L, R, nc, ns, nx) := g_pI (idx := 148) (by decide +kernel) ow208 f_8_148 rfl (by decide +kernel) rfl (by decide)
theorem e208_148 : rf d 208 148 [some (.ref a), l1, l2] s h = rf d 208 149 [some (.ref a), l1, l2] (.ref a :: s) h := rf_pure (i := .aload_n 0) (len := 1) (okD_ok (by decide +kernel)) rfl
theorem e208_149 : rf d 208 149 ls s h = rf d 208 150 ls (.int 2 :: s) h := rf_pure (i := .iconst (2)) (len := 1) (okD_ok (by decide +kernel)) rfl
theorem e208_150 : rf d 208 150 [l0, l1, some (.int x)] s h = rf d 208 151 [l0, l1, some (.int x)] (.int x :: s) h := rf_pure (i := .iload_n 2) (len := 1) (okD_ok (by decide +kernel)) rfl
theorem e208_151 (hcat : ip_cat s ≤ 8) : rf (d + 1) 208 151 ls (.int x1 :: .int x0 :: .ref 265 :: s) (SH n, I, L, R, nc, ns, nx) = rf_k (d + 1) 208 151 ls s (cf d 207 [.ref 265, .int x0, .int x1] (SH n, I, L, R, nc, ns, nx)) := g_cv (idx := 257) (t := 8) [.int x1, .int x0] (by decide +kernel) ow208 ms_8_257 mt_8_257 cy207_8 rfl rfl mL207 rfl rfl (by decide) hcat
theorem e208_154 : rf d 208 154 ls s h = rf d 208 155 ls (.int 0 :: s) h := rf_pure (i := .iconst (0)) (len := 1) (okD_ok (by decide +kernel)) rfl
theorem e208_155 (hx : x = 0 ∨ x = 1) : rf d 208 155 ls [.int x] h = some (.inl (some (.int x)), h) := g_rz (by decide +kernel) rt208 hx
theorem e208_156 : rf d 208 156 [some (.ref a), l1, l2] s h = rf d 208 157 [some (.ref a), l1, l2] (.ref a :: s) h := rf_pure (i := .aload_n 0) (len := 1) (okD_ok (by decide +kernel)) rfl
theorem e208_157 (hcat : ip_cat s ≤ 8) : rf (d + 1) 208 157 ls (.ref 265 :: s) (SH n, I, L, R, nc, ns, nx) = rf_k (d + 1) 208 157 ls s (cf d 198 [.ref 265] (SH n, I, L, R, nc, ns, nx)) := g_cv (idx := 225) (t := 8) [] (by decide +kernel) ow208 ms_8_225 mt_8_225 cy198_8 rfl rfl mL198 rfl rfl (by decide) hcat
theorem e208_160 : rf d 208 160 ls (.int x :: s) h = if x = 0 then rf d 208 170 ls s h else rf d 208 163 ls s h := g_if (c := .eq) (off := 10) _ (by decide +kernel) rfl cmp_d
theorem e208_163 : rf d 208 163 [some (.ref a), l1, l2] s h = rf d 208 164 [some (.ref a), l1, l2] (.ref a :: s) h := rf_pure (i := .aload_n 0) (len := 1) (okD_ok (by decide +kernel)) rfl
theorem e208_164 (hcat : ip_cat s ≤ 8) : rf (d + 1) 208 164 ls (.ref 265 :: s) (SH n, I, L, R, nc, ns, nx) = rf_k (d + 1) 208 164 ls s (cf d 200 [.ref 265] (SH n, I, L, R, nc, ns, nx)) := g_cv (idx := 228) (t := 8) [] (by decide +kernel) ow208 ms_8_228 mt_8_228 cy200_8 rfl rfl mL200 rfl rfl (by decide) hcat
theorem e208_167 : rf d 208 167 ls s h = rf d 208 171 ls s h := rf_goto ⟨okD_ok (i := .goto (4)) (len := 3) (by decide +kernel), rfl⟩
theorem e208_170 : rf d 208 170 ls s h = rf d 208 171 ls (.int (-1) :: s) h := rf_pure (i := .iconst (-1)) (len := 1) (okD_ok (by decide +kernel)) rfl
theorem e208_171 (hn : ip_nl l1 = true) : rf d 208 171 [l0, l1, l2] (.int x :: s) h = rf d 208 172 [l0, l1, some (.int x)] s h := g_sti (i := .istore_n 2) (len := 1) (q := 1) (p := 1) (by decide +kernel) rfl rfl hn
theorem e208_172 : rf d 208 172 [l0, l1, some (.int x)] s h = rf d 208 173 [l0, l1, some (.int x)] (.int x :: s) h := rf_pure (i := .iload_n 2) (len := 1) (okD_ok (by decide +kernel)) rfl
theorem e208_173 : rf d 208 173 ls s h = rf d 208 174 ls (.int (-1) :: s) h := rf_pure (i := .iconst (-1)) (len := 1) (okD_ok (by decide +kernel)) rfl
theorem e208_174 : rf d 208 174 ls (.int y :: .int x :: s) h = if x = y then rf d 208 186 ls s h else rf d 208 177 ls s h := g_ic (c := .eq) (off := 12) _ (by decide +kernel) rfl cmp_d
theorem e208_177 : rf d 208 177 [some (.ref a), l1, l2] s h = rf d 208 178 [some (.ref a), l1, l2] (.ref a :: s) h := rf_pure (i := .aload_n 0) (len := 1) (okD_ok (by decide +kernel)) rfl
theorem e208_178 : rf d 208 178 ls (.ref 265 :: s) (SH n, I, L, R, nc, ns, nx) = rf d 208 181 ls (.int (I 265 8) :: s) (SH n, I, L, R, nc, ns, nx) := g_I (idx := 261) (by decide +kernel) ow208 f_8_261 rfl rfl (by decide)
theorem e208_181 : rf d 208 181 ls s h = rf d 208 183 ls (.int 40 :: s) h := rf_pure (i := .bipush (40)) (len := 2) (okD_ok (by decide +kernel)) rfl
theorem e208_183 : rf d 208 183 ls (.int y :: .int x :: s) h = if ¬ x = y then rf d 208 190 ls s h else rf d 208 186 ls s h := g_ic (c := .ne) (off := 7) _ (by decide +kernel) rfl cmp_d
theorem e208_186 : rf d 208 186 [some (.ref a), l1, l2] s h = rf d 208 187 [some (.ref a), l1, l2] (.ref a :: s) h := rf_pure (i := .aload_n 0) (len := 1) (okD_ok (by decide +kernel)) rfl
theorem e208_187 (hcat : ip_cat s ≤ 8) : rf (d + 1) 208 187 ls (.ref 265 :: s) (SH n, I, L, R, nc, ns, nx) = rf_k (d + 1) 208 187 ls s (cf d 197 [.ref 265] (SH n, I, L, R, nc, ns, nx)) := g_cv (idx := 174) (t := 8) [] (by decide +kernel) ow208 ms_8_174 mt_8_174 cy197_8 rfl rfl mL197 rfl rfl (by decide) hcat
theorem e208_190 : rf d 208 190 [some (.ref a), l1, l2] s h = rf d 208 191 [some (.ref a), l1, l2] (.ref a :: s) h := rf_pure (i := .aload_n 0) (len := 1) (okD_ok (by decide +kernel)) rfl
theorem e208_191 : rf d 208 191 ls (.ref 265 :: s) (SH n, I, L, R, nc, ns, nx) = rf d 208 194 ls (.int (I 265 5) :: s) (SH n, I, L, R, nc, ns, nx) := g_I (idx := 13) (by decide +kernel) ow208 f_8_13 rfl rfl (by decide)
theorem e208_194 : rf d 208 194 ls s h = rf d 208 195 ls (.int (-1) :: s) h := rf_pure (i := .iconst (-1)) (len := 1) (okD_ok (by decide +kernel)) rfl
theorem e208_195 : rf d 208 195 ls (.int y :: .int x :: s) h = if x = y then rf d 208 200 ls s h else rf d 208 198 ls s h := g_ic (c := .eq) (off := 5) _ (by decide +kernel) rfl cmp_d
theorem e208_198 : rf d 208 198 ls s h = rf d 208 199 ls (.int 0 :: s) h := rf_pure (i := .iconst (0)) (len := 1) (okD_ok (by decide +kernel)) rfl
theorem e208_199 (hx : x = 0 ∨ x = 1) : rf d 208 199 ls [.int x] h = some (.inl (some (.int x)), h) := g_rz (by decide +kernel) rt208 hx
theorem e208_200 : rf d 208 200 [some (.ref a), l1, l2] s h = rf d 208 201 [some (.ref a), l1, l2] (.ref a :: s) h := rf_pure (i := .aload_n 0) (len := 1) (okD_ok (by decide +kernel)) rfl
theorem e208_201 : rf d 208 201 ls (.int x :: s) h = rf d 208 202 ls (.int x :: .int x :: s) h := rf_pure (i := .dup) (len := 1) (okD_ok (by decide +kernel)) rfl
theorem e208_201r : rf d 208 201 ls (.ref a :: s) h = rf d 208 202 ls (.ref a :: .ref a :: s) h := rf_pure (i := .dup) (len := 1) (okD_ok (by decide +kernel)) rfl
theorem e208_202 : rf d 208 202 ls (.ref 265 :: s) (SH n, I, L, R, nc, ns, nx) = rf d 208 205 ls (.int (I 265 8) :: s) (SH n, I, L, R, nc, ns, nx) := g_I (idx := 261) (by decide +kernel) ow208 f_8_261 rfl rfl (by decide)
theorem e208_205 : rf d 208 205 ls s h = rf d 208 206 ls (.int 1 :: s) h := rf_pure (i := .iconst (1)) (len := 1) (okD_ok (by decide +kernel)) rfl
theorem e208_206 : rf d 208 206 ls (.int y :: .int x :: s) h = rf d 208 207 ls (.int (x + y) :: s) h := rf_pure (i := .iadd) (len := 1) (okD_ok (by decide +kernel)) rfl
theorem e208_207 : rf d 208 207 ls (.int x :: .ref 265 :: s) (SH n, I, L, R, nc, ns, nx) = rf d 208 210 ls s (SH n, ip_up I 265 8 x, L, R, nc, ns, nx) := g_pI (idx := 261) (by decide +kernel) ow208 f_8_261 rfl (by decide +kernel) rfl (by decide)
theorem e208_210 : rf d 208 210 [some (.ref a), l1, l2] s h = rf d 208 211 [some (.ref a), l1, l2] (.ref a :: s) h := rf_pure (i := .aload_n 0) (len := 1) (okD_ok (by decide +kernel)) rfl
theorem e208_211 : rf d 208 211 ls s h = rf d 208 212 ls (.int 0 :: s) h := rf_pure (i := .iconst (0)) (len := 1) (okD_ok (by decide +kernel)) rfl
theorem e208_212 : rf d 208 212 [l0, l1, some (.int x)] s h = rf d 208 213 [l0, l1, some (.int x)] (.int x :: s) h := rf_pure (i := .iload_n 2) (len := 1) (okD_ok (by decide +kernel)) rfl
theorem e208_213 : rf d 208 213 ls s h = rf d 208 214 ls (.int 0 :: s) h := rf_pure (i := .iconst (0)) (len := 1) (okD_ok (by decide +kernel)) rfl
theorem e208_214 (hcat : ip_cat s ≤ 8) : rf (d + 1) 208 214 ls (.int x2 :: .int x1 :: .int x0 :: .ref 265 :: s) (SH n, I, L, R, nc, ns, nx) = rf_k (d + 1) 208 214 ls s (cf d 210 [.ref 265, .int x0, .int x1, .int x2] (SH n, I, L, R, nc, ns, nx)) := g_cv (idx := 247) (t := 8) [.int x2, .int x1, .int x0] (by decide +kernel) ow208 ms_8_247 mt_8_247 cy210_8 rfl rfl mL210 rfl rfl (by decide) hcat
theorem e208_217 : rf d 208 217 [some (.ref a), l1, l2] s h = rf d 208 218 [some (.ref a), l1, l2] (.ref a :: s) h := rf_pure (i := .aload_n 0) (len := 1) (okD_ok (by decide +kernel)) rfl
theorem e208_218 : rf d 208 218 ls (.int x :: s) h = rf d 208 219 ls (.int x :: .int x :: s) h := rf_pure (i := .dup) (len := 1) (okD_ok (by decide +kernel)) rfl
theorem e208_218r : rf d 208 218 ls (.ref a :: s) h = rf d 208 219 ls (.ref a :: .ref a :: s) h := rf_pure (i := .dup) (len := 1) (okD_ok (by decide +kernel)) rfl
theorem e208_219 : rf d 208 219 ls (.ref 265 :: s) (SH n, I, L, R, nc, ns, nx) = rf d 208 222 ls (.int (I 265 4) :: s) (SH n, I, L, R, nc, ns, nx) := g_I (idx := 148) (by decide +kernel) ow208 f_8_148 rfl rfl (by decide)
theorem e208_222 : rf d 208 222 [some (.ref a), l1, l2] s h = rf d 208 223 [some (.ref a), l1, l2] (.ref a :: s) h := rf_pure (i := .aload_n 0) (len := 1) (okD_ok (by decide +kernel)) rfl
theorem e208_223 (hcat : ip_cat s ≤ 8) : rf (d + 1) 208 223 ls (.ref 265 :: s) (SH n, I, L, R, nc, ns, nx) = rf_k (d + 1) 208 223 ls s (cf d 195 [.ref 265] (SH n, I, L, R, nc, ns, nx)) := g_cv (idx := 158) (t := 8) [] (by decide +kernel) ow208 ms_8_158 mt_8_158 cy195_8 rfl rfl mL195 rfl rfl (by decide) hcat
theorem e208_226 : rf d 208 226 ls (.int y :: .int x :: s) h = rf d 208 227 ls (.int (x + y) :: s) h := rf_pure (i := .iadd) (len := 1) (okD_ok (by decide +kernel)) rfl
theorem e208_227 : rf d 208 227 ls (.int x :: .ref 265 :: s) (SH n, I, L, R, nc, ns, nx) = rf d 208 230 ls s (SH n, ip_up I 265 4 x, L, R, nc, ns, nx) := g_pI (idx := 148) (by decide +kernel) ow208 f_8_148 rfl (by decide +kernel) rfl (by decide)
theorem e208_230 : rf d 208 230 [some (.ref a), l1, l2] s h = rf d 208 231 [some (.ref a), l1, l2] (.ref a :: s) h := rf_pure (i := .aload_n 0) (len := 1) (okD_ok (by decide +kernel)) rfl
theorem e208_231 (hcat : ip_cat s ≤ 8) : rf (d + 1) 208 231 ls (.ref 265 :: s) (SH n, I, L, R, nc, ns, nx) = rf_k (d + 1) 208 231 ls s (cf d 211 [.ref 265] (SH n, I, L, R, nc, ns, nx)) := g_cv (idx := 264) (t := 8) [] (by decide +kernel) ow208 ms_8_264 mt_8_264 cy211_8 rfl rfl mL211 rfl rfl (by decide) hcat
theorem e208_234 : rf d 208 234 ls s h = rf d 208 235 ls (.int 1 :: s) h := rf_pure (i := .iconst (1)) (len := 1) (okD_ok (by decide +kernel)) rfl
theorem e208_235 (hx : x = 0 ∨ x = 1) : rf d 208 235 ls [.int x] h = some (.inl (some (.int x)), h) := g_rz (by decide +kernel) rt208 hx
theorem en209 : cf d 209 [.ref a] h = rf d 209 0 [some (.ref a)] [] h := rfl
theorem e209_0 : rf d 209 0 [some (.ref a)] s h = rf d 209 1 [some (.ref a)] (.ref a :: s) h := rf_pure (i := .aload_n 0) (len := 1) (okD_ok (by decide +kernel)) rfl
theorem e209_1 : rf d 209 1 ls (.ref 265 :: s) (SH n, I, L, R, nc, ns, nx) = rf d 209 4 ls (.int (I 265 34) :: s) (SH n, I, L, R, nc, ns, nx) := g_I (idx := 251) (by decide +kernel) ow209 f_8_251 rfl rfl (by decide)
theorem e209_4 : rf d 209 4 ls s h = rf d 209 6 ls (.int 6 :: s) h := rf_pure (i := .bipush (6)) (len := 2) (okD_ok (by decide +kernel)) rfl
theorem e209_6 : rf d 209 6 ls (.int y :: .int x :: s) h = if ¬ x = y then rf d 209 13 ls s h else rf d 209 9 ls s h := g_ic (c := .ne) (off := 7) _ (by decide +kernel) rfl cmp_d
theorem e209_9 : rf d 209 9 [some (.ref a)] s h = rf d 209 10 [some (.ref a)] (.ref a :: s) h := rf_pure (i := .aload_n 0) (len := 1) (okD_ok (by decide +kernel)) rfl
theorem e209_10 (hcat : ip_cat s ≤ 8) : rf (d + 1) 209 10 ls (.ref 265 :: s) (SH n, I, L, R, nc, ns, nx) = rf_k (d + 1) 209 10 ls s (cf d 197 [.ref 265] (SH n, I, L, R, nc, ns, nx)) := g_cv (idx := 174) (t := 8) [] (by decide +kernel) ow209 ms_8_174 mt_8_174 cy197_8 rfl rfl mL197 rfl rfl (by decide) hcat
theorem e209_13 : rf d 209 13 [some (.ref a)] s h = rf d 209 14 [some (.ref a)] (.ref a :: s) h := rf_pure (i := .aload_n 0) (len := 1) (okD_ok (by decide +kernel)) rfl
theorem e209_14 : rf d 209 14 ls (.int x :: s) h = rf d 209 15 ls (.int x :: .int x :: s) h := rf_pure (i := .dup) (len := 1) (okD_ok (by decide +kernel)) rfl
theorem e209_14r : rf d 209 14 ls (.ref a :: s) h = rf d 209 15 ls (.ref a :: .ref a :: s) h := rf_pure (i := .dup) (len := 1) (okD_ok (by decide +kernel)) rfl
theorem e209_15 : rf d 209 15 ls (.ref 265 :: s) (SH n, I, L, R, nc, ns, nx) = rf d 209 18 ls (.int (I 265 34) :: s) (SH n, I, L, R, nc, ns, nx) := g_I (idx := 251) (by decide +kernel) ow209 f_8_251 rfl rfl (by decide)
theorem e209_18 : rf d 209 18 ls s h = rf d 209 19 ls (.int 1 :: s) h := rf_pure (i := .iconst (1)) (len := 1) (okD_ok (by decide +kernel)) rfl
theorem e209_19 : rf d 209 19 ls (.int y :: .int x :: s) h = rf d 209 20 ls (.int (x + y) :: s) h := rf_pure (i := .iadd) (len := 1) (okD_ok (by decide +kernel)) rfl
theorem e209_20 : rf d 209 20 ls (.int x :: .ref 265 :: s) (SH n, I, L, R, nc, ns, nx) = rf d 209 23 ls s (SH n, ip_up I 265 34 x, L, R, nc, ns, nx) := g_pI (idx := 251) (by decide +kernel) ow209 f_8_251 rfl (by decide +kernel) rfl (by decide)
theorem e209_23 : rf d 209 23 ls [] h = some (.inl none, h) := g_rv (by decide +kernel) rt209
theorem en210 : cf d 210 [.ref a, .int x0, .int x1, .int x2] h = rf d 210 0 [some (.ref a), some (.int x0), some (.int x1), some (.int x2)] [] h := rfl
theorem e210_0 : rf d 210 0 [some (.ref a), l1, l2, l3] s h = rf d 210 1 [some (.ref a), l1, l2, l3] (.ref a :: s) h := rf_pure (i := .aload_n 0) (len := 1) (okD_ok (by decide +kernel)) rfl
theorem e210_1 (hR : LYR R) : rf d 210 1 ls (.ref 265 :: s) (SH n, I, L, R, nc, ns, nx) = rf d 210 4 ls (.ref 271 :: s) (SH n, I, L, R, nc, ns, nx) := g_R (idx := 30) (by decide +kernel) ow210 f_8_30 rfl rfl (by decide) (ly_265_14 hR)
theorem e210_4 : rf d 210 4 [some (.ref a), l1, l2, l3] s h = rf d 210 5 [some (.ref a), l1, l2, l3] (.ref a :: s) h := rf_pure (i := .aload_n 0) (len := 1) (okD_ok (by decide +kernel)) rfl
theorem e210_5 : rf d 210 5 ls (.ref 265 :: s) (SH n, I, L, R, nc, ns, nx) = rf d 210 8 ls (.int (I 265 9) :: s) (SH n, I, L, R, nc, ns, nx) := g_I (idx := 241) (by decide +kernel) ow210 f_8_241 rfl rfl (by decide)
theorem e210_8 : rf d 210 8 [l0, some (.int x), l2, l3] s h = rf d 210 9 [l0, some (.int x), l2, l3] (.int x :: s) h := rf_pure (i := .iload_n 1) (len := 1) (okD_ok (by decide +kernel)) rfl
theorem e210_9 (q : ia n a j) : rf d 210 9 ls (.int x :: .int j :: .ref a :: s) (SH n, I, L, R, nc, ns, nx) = rf d 210 10 ls s (SH n, ip_up I a j.toNatClampNeg x, L, R, nc, ns, nx) := g_ias (by decide +kernel) q
theorem e210_10 : rf d 210 10 [some (.ref a), l1, l2, l3] s h = rf d 210 11 [some (.ref a), l1, l2, l3] (.ref a :: s) h := rf_pure (i := .aload_n 0) (len := 1) (okD_ok (by decide +kernel)) rfl
theorem e210_11 (hR : LYR R) : rf d 210 11 ls (.ref 265 :: s) (SH n, I, L, R, nc, ns, nx) = rf d 210 14 ls (.ref 272 :: s) (SH n, I, L, R, nc, ns, nx) := g_R (idx := 33) (by decide +kernel) ow210 f_8_33 rfl rfl (by decide) (ly_265_15 hR)
theorem e210_14 : rf d 210 14 [some (.ref a), l1, l2, l3] s h = rf d 210 15 [some (.ref a), l1, l2, l3] (.ref a :: s) h := rf_pure (i := .aload_n 0) (len := 1) (okD_ok (by decide +kernel)) rfl
theorem e210_15 : rf d 210 15 ls (.ref 265 :: s) (SH n, I, L, R, nc, ns, nx) = rf d 210 18 ls (.int (I 265 9) :: s) (SH n, I, L, R, nc, ns, nx) := g_I (idx := 241) (by decide +kernel) ow210 f_8_241 rfl rfl (by decide)
theorem e210_18 : rf d 210 18 [l0, l1, some (.int x), l3] s h = rf d 210 19 [l0, l1, some (.int x), l3] (.int x :: s) h := rf_pure (i := .iload_n 2) (len := 1) (okD_ok (by decide +kernel)) rfl
theorem e210_19 (q : ia n a j) : rf d 210 19 ls (.int x :: .int j :: .ref a :: s) (SH n, I, L, R, nc, ns, nx) = rf d 210 20 ls s (SH n, ip_up I a j.toNatClampNeg x, L, R, nc, ns, nx) := g_ias (by decide +kernel) q
theorem e210_20 : rf d 210 20 [some (.ref a), l1, l2, l3] s h = rf d 210 21 [some (.ref a), l1, l2, l3] (.ref a :: s) h := rf_pure (i := .aload_n 0) (len := 1) (okD_ok (by decide +kernel)) rfl
theorem e210_21 (hR : LYR R) : rf d 210 21 ls (.ref 265 :: s) (SH n, I, L, R, nc, ns, nx) = rf d 210 24 ls (.ref 273 :: s) (SH n, I, L, R, nc, ns, nx) := g_R (idx := 36) (by decide +kernel) ow210 f_8_36 rfl rfl (by decide) (ly_265_16 hR)
theorem e210_24 : rf d 210 24 [some (.ref a), l1, l2, l3] s h = rf d 210 25 [some (.ref a), l1, l2, l3] (.ref a :: s) h := rf_pure (i := .aload_n 0) (len := 1) (okD_ok (by decide +kernel)) rfl
theorem e210_25 : rf d 210 25 ls (.ref 265 :: s) (SH n, I, L, R, nc, ns, nx) = rf d 210 28 ls (.int (I 265 9) :: s) (SH n, I, L, R, nc, ns, nx) := g_I (idx := 241) (by decide +kernel) ow210 f_8_241 rfl rfl (by decide)
theorem e210_28 : rf d 210 28 [l0, l1, l2, some (.int x)] s h = rf d 210 29 [l0, l1, l2, some (.int x)] (.int x :: s) h := rf_pure (i := .iload_n 3) (len := 1) (okD_ok (by decide +kernel)) rfl
theorem e210_29 (q : ia n a j) : rf d 210 29 ls (.int x :: .int j :: .ref a :: s) (SH n, I, L, R, nc, ns, nx) = rf d 210 30 ls s (SH n, ip_up I a j.toNatClampNeg x, L, R, nc, ns, nx) := g_ias (by decide +kernel) q
theorem e210_30 : rf d 210 30 [some (.ref a), l1, l2, l3] s h = rf d 210 31 [some (.ref a), l1, l2, l3] (.ref a :: s) h := rf_pure (i := .aload_n 0) (len := 1) (okD_ok (by decide +kernel)) rfl
theorem e210_31 : rf d 210 31 ls (.int x :: s) h = rf d 210 32 ls (.int x :: .int x :: s) h := rf_pure (i := .dup) (len := 1) (okD_ok (by decide +kernel)) rfl
theorem e210_31r : rf d 210 31 ls (.ref a :: s) h = rf d 210 32 ls (.ref a :: .ref a :: s) h := rf_pure (i := .dup) (len := 1) (okD_ok (by decide +kernel)) rfl
theorem e210_32 : rf d 210 32 ls (.ref 265 :: s) (SH n, I, L, R, nc, ns, nx) = rf d 210 35 ls (.int (I 265 9) :: s) (SH n, I, L, R, nc, ns, nx) := g_I (idx := 241) (by decide +kernel) ow210 f_8_241 rfl rfl (by decide)
theorem e210_35 : rf d 210 35 ls s h = rf d 210 36 ls (.int 1 :: s) h := rf_pure (i := .iconst (1)) (len := 1) (okD_ok (by decide +kernel)) rfl
theorem e210_36 : rf d 210 36 ls (.int y :: .int x :: s) h = rf d 210 37 ls (.int (x + y) :: s) h := rf_pure (i := .iadd) (len := 1) (okD_ok (by decide +kernel)) rfl
theorem e210_37 : rf d 210 37 ls (.int x :: .ref 265 :: s) (SH n, I, L, R, nc, ns, nx) = rf d 210 40 ls s (SH n, ip_up I 265 9 x, L, R, nc, ns, nx) := g_pI (idx := 241) (by decide +kernel) ow210 f_8_241 rfl (by decide +kernel) rfl (by decide)
theorem e210_40 : rf d 210 40 ls [] h = some (.inl none, h) := g_rv (by decide +kernel) rt210
theorem en211 : cf d 211 [.ref a] h = rf d 211 0 [some (.ref a)] [] h := rfl
theorem e211_0 : rf d 211 0 [some (.ref a)] s h = rf d 211 1 [some (.ref a)] (.ref a :: s) h := rf_pure (i := .aload_n 0) (len := 1) (okD_ok (by decide +kernel)) rfl
theorem e211_1 (hR : LYR R) : rf d 211 1 ls (.ref 265 :: s) (SH n, I, L, R, nc, ns, nx) = rf d 211 4 ls (.ref 284 :: s) (SH n, I, L, R, nc, ns, nx) := g_R (idx := 69) (by decide +kernel) ow211 f_8_69 rfl rfl (by decide) (ly_265_30 hR)
theorem e211_4 : rf d 211 4 [some (.ref a)] s h = rf d 211 5 [some (.ref a)] (.ref a :: s) h := rf_pure (i := .aload_n 0) (len := 1) (okD_ok (by decide +kernel)) rfl
theorem e211_5 : rf d 211 5 ls (.ref 265 :: s) (SH n, I, L, R, nc, ns, nx) = rf d 211 8 ls (.int (I 265 33) :: s) (SH n, I, L, R, nc, ns, nx) := g_I (idx := 244) (by decide +kernel) ow211 f_8_244 rfl rfl (by decide)
theorem e211_8 (q : ia n a j) : rf d 211 8 ls (.int j :: .ref a :: s) (SH n, I, L, R, nc, ns, nx) = rf d 211 9 ls (.int (I a j.toNatClampNeg) :: s) (SH n, I, L, R, nc, ns, nx) := g_ial (by decide +kernel) q
theorem e211_9 : rf d 211 9 ls (.int x :: s) h = if x ≤ 0 then rf d 211 45 ls s h else rf d 211 12 ls s h := g_if (c := .le) (off := 36) _ (by decide +kernel) rfl cmp_d
theorem e211_12 : rf d 211 12 [some (.ref a)] s h = rf d 211 13 [some (.ref a)] (.ref a :: s) h := rf_pure (i := .aload_n 0) (len := 1) (okD_ok (by decide +kernel)) rfl
theorem e211_13 : rf d 211 13 ls s h = rf d 211 14 ls (.int 1 :: s) h := rf_pure (i := .iconst (1)) (len := 1) (okD_ok (by decide +kernel)) rfl
theorem e211_14 : rf d 211 14 ls s h = rf d 211 15 ls (.int 0 :: s) h := rf_pure (i := .iconst (0)) (len := 1) (okD_ok (by decide +kernel)) rfl
theorem e211_15 : rf d 211 15 ls s h = rf d 211 16 ls (.int 0 :: s) h := rf_pure (i := .iconst (0)) (len := 1) (okD_ok (by decide +kernel)) rfl
theorem e211_16 (hcat : ip_cat s ≤ 8) : rf (d + 1) 211 16 ls (.int x2 :: .int x1 :: .int x0 :: .ref 265 :: s) (SH n, I, L, R, nc, ns, nx) = rf_k (d + 1) 211 16 ls s (cf d 210 [.ref 265, .int x0, .int x1, .int x2] (SH n, I, L, R, nc, ns, nx)) := g_cv (idx := 247) (t := 8) [.int x2, .int x1, .int x0] (by decide +kernel) ow211 ms_8_247 mt_8_247 cy210_8 rfl rfl mL210 rfl rfl (by decide) hcat
theorem e211_19 : rf d 211 19 [some (.ref a)] s h = rf d 211 20 [some (.ref a)] (.ref a :: s) h := rf_pure (i := .aload_n 0) (len := 1) (okD_ok (by decide +kernel)) rfl
theorem e211_20 (hR : LYR R) : rf d 211 20 ls (.ref 265 :: s) (SH n, I, L, R, nc, ns, nx) = rf d 211 23 ls (.ref 284 :: s) (SH n, I, L, R, nc, ns, nx) := g_R (idx := 69) (by decide +kernel) ow211 f_8_69 rfl rfl (by decide) (ly_265_30 hR)
theorem e211_23 : rf d 211 23 [some (.ref a)] s h = rf d 211 24 [some (.ref a)] (.ref a :: s) h := rf_pure (i := .aload_n 0) (len := 1) (okD_ok (by decide +kernel)) rfl
theorem e211_24 : rf d 211 24 ls (.ref 265 :: s) (SH n, I, L, R, nc, ns, nx) = rf d 211 27 ls (.int (I 265 33) :: s) (SH n, I, L, R, nc, ns, nx) := g_I (idx := 244) (by decide +kernel) ow211 f_8_244 rfl rfl (by decide)
theorem e211_27 : rf d 211 27 ls (.int j :: .ref a :: s) h = rf d 211 28 ls (.int j :: .ref a :: .int j :: .ref a :: s) h := rf_pure (i := .dup2) (len := 1) (okD_ok (by decide +kernel)) rfl
theorem e211_28 (q : ia n a j) : rf d 211 28 ls (.int j :: .ref a :: s) (SH n, I, L, R, nc, ns, nx) = rf d 211 29 ls (.int (I a j.toNatClampNeg) :: s) (SH n, I, L, R, nc, ns, nx) := g_ial (by decide +kernel) q
theorem e211_29 : rf d 211 29 ls s h = rf d 211 30 ls (.int 1 :: s) h := rf_pure (i := .iconst (1)) (len := 1) (okD_ok (by decide +kernel)) rfl
theorem e211_30 : rf d 211 30 ls (.int y :: .int x :: s) h = rf d 211 31 ls (.int (x - y) :: s) h := rf_pure (i := .isub) (len := 1) (okD_ok (by decide +kernel)) rfl
theorem e211_31 (q : ia n a j) : rf d 211 31 ls (.int x :: .int j :: .ref a :: s) (SH n, I, L, R, nc, ns, nx) = rf d 211 32 ls s (SH n, ip_up I a j.toNatClampNeg x, L, R, nc, ns, nx) := g_ias (by decide +kernel) q
theorem e211_32 : rf d 211 32 [some (.ref a)] s h = rf d 211 33 [some (.ref a)] (.ref a :: s) h := rf_pure (i := .aload_n 0) (len := 1) (okD_ok (by decide +kernel)) rfl
theorem e211_33 : rf d 211 33 ls (.int x :: s) h = rf d 211 34 ls (.int x :: .int x :: s) h := rf_pure (i := .dup) (len := 1) (okD_ok (by decide +kernel)) rfl
theorem e211_33r : rf d 211 33 ls (.ref a :: s) h = rf d 211 34 ls (.ref a :: .ref a :: s) h := rf_pure (i := .dup) (len := 1) (okD_ok (by decide +kernel)) rfl
theorem e211_34 : rf d 211 34 ls (.ref 265 :: s) (SH n, I, L, R, nc, ns, nx) = rf d 211 37 ls (.int (I 265 34) :: s) (SH n, I, L, R, nc, ns, nx) := g_I (idx := 251) (by decide +kernel) ow211 f_8_251 rfl rfl (by decide)
theorem e211_37 : rf d 211 37 ls s h = rf d 211 38 ls (.int 1 :: s) h := rf_pure (i := .iconst (1)) (len := 1) (okD_ok (by decide +kernel)) rfl
theorem e211_38 : rf d 211 38 ls (.int y :: .int x :: s) h = rf d 211 39 ls (.int (x - y) :: s) h := rf_pure (i := .isub) (len := 1) (okD_ok (by decide +kernel)) rfl
theorem e211_39 : rf d 211 39 ls (.int x :: .ref 265 :: s) (SH n, I, L, R, nc, ns, nx) = rf d 211 42 ls s (SH n, ip_up I 265 34 x, L, R, nc, ns, nx) := g_pI (idx := 251) (by decide +kernel) ow211 f_8_251 rfl (by decide +kernel) rfl (by decide)
theorem e211_42 : rf d 211 42 ls s h = rf d 211 0 ls s h := rf_goto ⟨okD_ok (i := .goto (-42)) (len := 3) (by decide +kernel), rfl⟩
theorem e211_45 : rf d 211 45 [some (.ref a)] s h = rf d 211 46 [some (.ref a)] (.ref a :: s) h := rf_pure (i := .aload_n 0) (len := 1) (okD_ok (by decide +kernel)) rfl
theorem e211_46 (hR : LYR R) : rf d 211 46 ls (.ref 265 :: s) (SH n, I, L, R, nc, ns, nx) = rf d 211 49 ls (.ref 285 :: s) (SH n, I, L, R, nc, ns, nx) := g_R (idx := 72) (by decide +kernel) ow211 f_8_72 rfl rfl (by decide) (ly_265_31 hR)
theorem e211_49 : rf d 211 49 [some (.ref a)] s h = rf d 211 50 [some (.ref a)] (.ref a :: s) h := rf_pure (i := .aload_n 0) (len := 1) (okD_ok (by decide +kernel)) rfl
theorem e211_50 : rf d 211 50 ls (.ref 265 :: s) (SH n, I, L, R, nc, ns, nx) = rf d 211 53 ls (.int (I 265 33) :: s) (SH n, I, L, R, nc, ns, nx) := g_I (idx := 244) (by decide +kernel) ow211 f_8_244 rfl rfl (by decide)
theorem e211_53 (q : za n a j) : rf d 211 53 ls (.int j :: .ref a :: s) (SH n, I, L, R, nc, ns, nx) = rf d 211 54 ls (.int (I a j.toNatClampNeg) :: s) (SH n, I, L, R, nc, ns, nx) := g_zal (by decide +kernel) q
theorem e211_54 : rf d 211 54 ls (.int x :: s) h = if x = 0 then rf d 211 64 ls s h else rf d 211 57 ls s h := g_if (c := .eq) (off := 10) _ (by decide +kernel) rfl cmp_d
theorem e211_57 : rf d 211 57 [some (.ref a)] s h = rf d 211 58 [some (.ref a)] (.ref a :: s) h := rf_pure (i := .aload_n 0) (len := 1) (okD_ok (by decide +kernel)) rfl
theorem e211_58 : rf d 211 58 ls s h = rf d 211 59 ls (.int 2 :: s) h := rf_pure (i := .iconst (2)) (len := 1) (okD_ok (by decide +kernel)) rfl
theorem e211_59 : rf d 211 59 ls s h = rf d 211 60 ls (.int 0 :: s) h := rf_pure (i := .iconst (0)) (len := 1) (okD_ok (by decide +kernel)) rfl
theorem e211_60 : rf d 211 60 ls s h = rf d 211 61 ls (.int 0 :: s) h := rf_pure (i := .iconst (0)) (len := 1) (okD_ok (by decide +kernel)) rfl
theorem e211_61 (hcat : ip_cat s ≤ 8) : rf (d + 1) 211 61 ls (.int x2 :: .int x1 :: .int x0 :: .ref 265 :: s) (SH n, I, L, R, nc, ns, nx) = rf_k (d + 1) 211 61 ls s (cf d 210 [.ref 265, .int x0, .int x1, .int x2] (SH n, I, L, R, nc, ns, nx)) := g_cv (idx := 247) (t := 8) [.int x2, .int x1, .int x0] (by decide +kernel) ow211 ms_8_247 mt_8_247 cy210_8 rfl rfl mL210 rfl rfl (by decide) hcat
theorem e211_64 : rf d 211 64 [some (.ref a)] s h = rf d 211 65 [some (.ref a)] (.ref a :: s) h := rf_pure (i := .aload_n 0) (len := 1) (okD_ok (by decide +kernel)) rfl
theorem e211_65 (hR : LYR R) : rf d 211 65 ls (.ref 265 :: s) (SH n, I, L, R, nc, ns, nx) = rf d 211 68 ls (.ref 285 :: s) (SH n, I, L, R, nc, ns, nx) := g_R (idx := 72) (by decide +kernel) ow211 f_8_72 rfl rfl (by decide) (ly_265_31 hR)
theorem e211_68 : rf d 211 68 [some (.ref a)] s h = rf d 211 69 [some (.ref a)] (.ref a :: s) h := rf_pure (i := .aload_n 0) (len := 1) (okD_ok (by decide +kernel)) rfl
theorem e211_69 : rf d 211 69 ls (.ref 265 :: s) (SH n, I, L, R, nc, ns, nx) = rf d 211 72 ls (.int (I 265 33) :: s) (SH n, I, L, R, nc, ns, nx) := g_I (idx := 244) (by decide +kernel) ow211 f_8_244 rfl rfl (by decide)
theorem e211_72 : rf d 211 72 ls s h = rf d 211 73 ls (.int 0 :: s) h := rf_pure (i := .iconst (0)) (len := 1) (okD_ok (by decide +kernel)) rfl
theorem e211_73 (q : za n a j) (hx : x = 0 ∨ x = 1) : rf d 211 73 ls (.int x :: .int j :: .ref a :: s) (SH n, I, L, R, nc, ns, nx) = rf d 211 74 ls s (SH n, ip_up I a j.toNatClampNeg x, L, R, nc, ns, nx) := g_zas (by decide +kernel) q hx
theorem e211_74 : rf d 211 74 ls [] h = some (.inl none, h) := g_rv (by decide +kernel) rt211
theorem en212 : cf d 212 [.ref a, .int x0] h = rf d 212 0 [some (.ref a), some (.int x0)] [] h := rfl
theorem e212_0 : rf d 212 0 [some (.ref a), l1] s h = rf d 212 1 [some (.ref a), l1] (.ref a :: s) h := rf_pure (i := .aload_n 0) (len := 1) (okD_ok (by decide +kernel)) rfl
theorem e212_1 (hR : LYR R) : rf d 212 1 ls (.ref 265 :: s) (SH n, I, L, R, nc, ns, nx) = rf d 212 4 ls (.ref 286 :: s) (SH n, I, L, R, nc, ns, nx) := g_R (idx := 76) (by decide +kernel) ow212 f_8_76 rfl rfl (by decide) (ly_265_32 hR)
theorem e212_4 : rf d 212 4 [some (.ref a), l1] s h = rf d 212 5 [some (.ref a), l1] (.ref a :: s) h := rf_pure (i := .aload_n 0) (len := 1) (okD_ok (by decide +kernel)) rfl
theorem e212_5 : rf d 212 5 ls (.ref 265 :: s) (SH n, I, L, R, nc, ns, nx) = rf d 212 8 ls (.int (I 265 33) :: s) (SH n, I, L, R, nc, ns, nx) := g_I (idx := 244) (by decide +kernel) ow212 f_8_244 rfl rfl (by decide)
theorem e212_8 (q : za n a j) : rf d 212 8 ls (.int j :: .ref a :: s) (SH n, I, L, R, nc, ns, nx) = rf d 212 9 ls (.int (I a j.toNatClampNeg) :: s) (SH n, I, L, R, nc, ns, nx) := g_zal (by decide +kernel) q
theorem e212_9 : rf d 212 9 ls (.int x :: s) h = if x = 0 then rf d 212 19 ls s h else rf d 212 12 ls s h := g_if (c := .eq) (off := 10) _ (by decide +kernel) rfl cmp_d
theorem e212_12 : rf d 212 12 [some (.ref a), l1] s h = rf d 212 13 [some (.ref a), l1] (.ref a :: s) h := rf_pure (i := .aload_n 0) (len := 1) (okD_ok (by decide +kernel)) rfl
theorem e212_13 : rf d 212 13 ls s h = rf d 212 14 ls (.int 3 :: s) h := rf_pure (i := .iconst (3)) (len := 1) (okD_ok (by decide +kernel)) rfl
theorem e212_14 : rf d 212 14 ls s h = rf d 212 15 ls (.int 0 :: s) h := rf_pure (i := .iconst (0)) (len := 1) (okD_ok (by decide +kernel)) rfl
theorem e212_15 : rf d 212 15 ls s h = rf d 212 16 ls (.int 0 :: s) h := rf_pure (i := .iconst (0)) (len := 1) (okD_ok (by decide +kernel)) rfl
theorem e212_16 (hcat : ip_cat s ≤ 8) : rf (d + 1) 212 16 ls (.int x2 :: .int x1 :: .int x0 :: .ref 265 :: s) (SH n, I, L, R, nc, ns, nx) = rf_k (d + 1) 212 16 ls s (cf d 210 [.ref 265, .int x0, .int x1, .int x2] (SH n, I, L, R, nc, ns, nx)) := g_cv (idx := 247) (t := 8) [.int x2, .int x1, .int x0] (by decide +kernel) ow212 ms_8_247 mt_8_247 cy210_8 rfl rfl mL210 rfl rfl (by decide) hcat
theorem e212_19 : rf d 212 19 [some (.ref a), l1] s h = rf d 212 20 [some (.ref a), l1] (.ref a :: s) h := rf_pure (i := .aload_n 0) (len := 1) (okD_ok (by decide +kernel)) rfl
theorem e212_20 (hR : LYR R) : rf d 212 20 ls (.ref 265 :: s) (SH n, I, L, R, nc, ns, nx) = rf d 212 23 ls (.ref 286 :: s) (SH n, I, L, R, nc, ns, nx) := g_R (idx := 76) (by decide +kernel) ow212 f_8_76 rfl rfl (by decide) (ly_265_32 hR)
theorem e212_23 : rf d 212 23 [some (.ref a), l1] s h = rf d 212 24 [some (.ref a), l1] (.ref a :: s) h := rf_pure (i := .aload_n 0) (len := 1) (okD_ok (by decide +kernel)) rfl
theorem e212_24 : rf d 212 24 ls (.ref 265 :: s) (SH n, I, L, R, nc, ns, nx) = rf d 212 27 ls (.int (I 265 33) :: s) (SH n, I, L, R, nc, ns, nx) := g_I (idx := 244) (by decide +kernel) ow212 f_8_244 rfl rfl (by decide)
theorem e212_27 : rf d 212 27 [l0, some (.int x)] s h = rf d 212 28 [l0, some (.int x)] (.int x :: s) h := rf_pure (i := .iload_n 1) (len := 1) (okD_ok (by decide +kernel)) rfl
theorem e212_28 (q : za n a j) (hx : x = 0 ∨ x = 1) : rf d 212 28 ls (.int x :: .int j :: .ref a :: s) (SH n, I, L, R, nc, ns, nx) = rf d 212 29 ls s (SH n, ip_up I a j.toNatClampNeg x, L, R, nc, ns, nx) := g_zas (by decide +kernel) q hx
theorem e212_29 : rf d 212 29 ls [] h = some (.inl none, h) := g_rv (by decide +kernel) rt212
theorem en213 : cf d 213 [.ref a, .int x0] h = rf d 213 0 [some (.ref a), some (.int x0)] [] h := rfl
theorem e213_0 : rf d 213 0 [some (.ref a), l1] s h = rf d 213 1 [some (.ref a), l1] (.ref a :: s) h := rf_pure (i := .aload_n 0) (len := 1) (okD_ok (by decide +kernel)) rfl
theorem e213_1 : rf d 213 1 ls (.ref 265 :: s) (SH n, I, L, R, nc, ns, nx) = rf d 213 4 ls (.int (I 265 5) :: s) (SH n, I, L, R, nc, ns, nx) := g_I (idx := 13) (by decide +kernel) ow213 f_8_13 rfl rfl (by decide)
theorem e213_4 : rf d 213 4 ls s h = rf d 213 5 ls (.int (-1) :: s) h := rf_pure (i := .iconst (-1)) (len := 1) (okD_ok (by decide +kernel)) rfl
theorem e213_5 : rf d 213 5 ls (.int y :: .int x :: s) h = if x = y then rf d 213 9 ls s h else rf d 213 8 ls s h := g_ic (c := .eq) (off := 4) _ (by decide +kernel) rfl cmp_d
theorem e213_8 : rf d 213 8 ls [] h = some (.inl none, h) := g_rv (by decide +kernel) rt213
theorem e213_9 : rf d 213 9 [some (.ref a), l1] s h = rf d 213 10 [some (.ref a), l1] (.ref a :: s) h := rf_pure (i := .aload_n 0) (len := 1) (okD_ok (by decide +kernel)) rfl
theorem e213_10 (hcat : ip_cat s ≤ 8) : rf (d + 1) 213 10 ls (.ref 265 :: s) (SH n, I, L, R, nc, ns, nx) = rf_k (d + 1) 213 10 ls s (cf d 193 [.ref 265] (SH n, I, L, R, nc, ns, nx)) := g_cv (idx := 154) (t := 8) [] (by decide +kernel) ow213 ms_8_154 mt_8_154 cy193_8 rfl rfl mL193 rfl rfl (by decide) hcat
theorem e213_13 : rf d 213 13 [l0, some (.int x)] s h = rf d 213 14 [l0, some (.int x)] (.int x :: s) h := rf_pure (i := .iload_n 1) (len := 1) (okD_ok (by decide +kernel)) rfl
theorem e213_14 : rf d 213 14 ls (.int y :: .int x :: s) h = if ¬ x = y then rf d 213 30 ls s h else rf d 213 17 ls s h := g_ic (c := .ne) (off := 16) _ (by decide +kernel) rfl cmp_d
theorem e213_17 : rf d 213 17 [some (.ref a), l1] s h = rf d 213 18 [some (.ref a), l1] (.ref a :: s) h := rf_pure (i := .aload_n 0) (len := 1) (okD_ok (by decide +kernel)) rfl
theorem e213_18 : rf d 213 18 ls (.int x :: s) h = rf d 213 19 ls (.int x :: .int x :: s) h := rf_pure (i := .dup) (len := 1) (okD_ok (by decide +kernel)) rfl
theorem e213_18r : rf d 213 18 ls (.ref a :: s) h = rf d 213 19 ls (.ref a :: .ref a :: s) h := rf_pure (i := .dup) (len := 1) (okD_ok (by decide +kernel)) rfl
theorem e213_19 : rf d 213 19 ls (.ref 265 :: s) (SH n, I, L, R, nc, ns, nx) = rf d 213 22 ls (.int (I 265 4) :: s) (SH n, I, L, R, nc, ns, nx) := g_I (idx := 148) (by decide +kernel) ow213 f_8_148 rfl rfl (by decide)
theorem e213_22 : rf d 213 22 ls s h = rf d 213 23 ls (.int 1 :: s) h := rf_pure (i := .iconst (1)) (len := 1) (okD_ok (by decide +kernel)) rfl
theorem e213_23 : rf d 213 23 ls (.int y :: .int x :: s) h = rf d 213 24 ls (.int (x + y) :: s) h := rf_pure (i := .iadd) (len := 1) (okD_ok (by decide +kernel)) rfl
theorem e213_24 : rf d 213 24 ls (.int x :: .ref 265 :: s) (SH n, I, L, R, nc, ns, nx) = rf d 213 27 ls s (SH n, ip_up I 265 4 x, L, R, nc, ns, nx) := g_pI (idx := 148) (by decide +kernel) ow213 f_8_148 rfl (by decide +kernel) rfl (by decide)
theorem e213_27 : rf d 213 27 ls s h = rf d 213 34 ls s h := rf_goto ⟨okD_ok (i := .goto (7)) (len := 3) (by decide +kernel), rfl⟩
theorem e213_30 : rf d 213 30 [some (.ref a), l1] s h = rf d 213 31 [some (.ref a), l1] (.ref a :: s) h := rf_pure (i := .aload_n 0) (len := 1) (okD_ok (by decide +kernel)) rfl
theorem e213_31 (hcat : ip_cat s ≤ 8) : rf (d + 1) 213 31 ls (.ref 265 :: s) (SH n, I, L, R, nc, ns, nx) = rf_k (d + 1) 213 31 ls s (cf d 197 [.ref 265] (SH n, I, L, R, nc, ns, nx)) := g_cv (idx := 174) (t := 8) [] (by decide +kernel) ow213 ms_8_174 mt_8_174 cy197_8 rfl rfl mL197 rfl rfl (by decide) hcat
theorem e213_34 : rf d 213 34 ls [] h = some (.inl none, h) := g_rv (by decide +kernel) rt213
theorem en214 : cf d 214 [.ref a] h = rf d 214 0 [some (.ref a)] [] h := rfl
theorem e214_0 : rf d 214 0 [some (.ref a)] s h = rf d 214 1 [some (.ref a)] (.ref a :: s) h := rf_pure (i := .aload_n 0) (len := 1) (okD_ok (by decide +kernel)) rfl
theorem e214_1 : rf d 214 1 ls s h = rf d 214 2 ls (.int 0 :: s) h := rf_pure (i := .iconst (0)) (len := 1) (okD_ok (by decide +kernel)) rfl
theorem e214_2 : rf d 214 2 ls (.int x :: .ref 265 :: s) (SH n, I, L, R, nc, ns, nx) = rf d 214 5 ls s (SH n, ip_up I 265 0 x, L, R, nc, ns, nx) := g_pI (idx := 142) (by decide +kernel) ow214 f_8_142 rfl (by decide +kernel) rfl (by decide)
theorem e214_5 : rf d 214 5 [some (.ref a)] s h = rf d 214 6 [some (.ref a)] (.ref a :: s) h := rf_pure (i := .aload_n 0) (len := 1) (okD_ok (by decide +kernel)) rfl
theorem e214_6 : rf d 214 6 ls (.ref 265 :: s) (SH n, I, L, R, nc, ns, nx) = rf d 214 9 ls (.int (I 265 5) :: s) (SH n, I, L, R, nc, ns, nx) := g_I (idx := 13) (by decide +kernel) ow214 f_8_13 rfl rfl (by decide)
theorem e214_9 : rf d 214 9 ls [.int x] h = some (.inl (some (.int x)), h) := g_ri (by decide +kernel) rt214
theorem en215 : cf d 215 [.ref a, .int x0, .int x1] h = rf d 215 0 [some (.ref a), some (.int x0), some (.int x1)] [] h := rfl
theorem e215_0 : rf d 215 0 [some (.ref a), l1, l2] s h = rf d 215 1 [some (.ref a), l1, l2] (.ref a :: s) h := rf_pure (i := .aload_n 0) (len := 1) (okD_ok (by decide +kernel)) rfl
theorem e215_1 : rf d 215 1 [some (.ref a), l1, l2] s h = rf d 215 2 [some (.ref a), l1, l2] (.ref a :: s) h := rf_pure (i := .aload_n 0) (len := 1) (okD_ok (by decide +kernel)) rfl
theorem e215_2 : rf d 215 2 [l0, some (.int x), l2] s h = rf d 215 3 [l0, some (.int x), l2] (.int x :: s) h := rf_pure (i := .iload_n 1) (len := 1) (okD_ok (by decide +kernel)) rfl
theorem e215_3 (hcat : ip_cat s ≤ 8) : rf (d + 1) 215 3 ls (.int x0 :: .ref 265 :: s) (SH n, I, L, R, nc, ns, nx) = rf_k (d + 1) 215 3 ls s (cf d 216 [.ref 265, .int x0] (SH n, I, L, R, nc, ns, nx)) := g_cv (idx := 319) (t := 8) [.int x0] (by decide +kernel) ow215 ms_8_319 mt_8_319 cy216_8 rfl rfl mL216 rfl rfl (by decide) hcat
theorem e215_6 : rf d 215 6 ls (.int x :: s) h = if ¬ x = 0 then rf d 215 13 ls s h else rf d 215 9 ls s h := g_if (c := .ne) (off := 7) _ (by decide +kernel) rfl cmp_d
theorem e215_9 : rf d 215 9 ls s h = rf d 215 10 ls (.int 1 :: s) h := rf_pure (i := .iconst (1)) (len := 1) (okD_ok (by decide +kernel)) rfl
theorem e215_10 : rf d 215 10 ls s h = rf d 215 27 ls s h := rf_goto ⟨okD_ok (i := .goto (17)) (len := 3) (by decide +kernel), rfl⟩
theorem e215_13 : rf d 215 13 [l0, l1, some (.int x)] s h = rf d 215 14 [l0, l1, some (.int x)] (.int x :: s) h := rf_pure (i := .iload_n 2) (len := 1) (okD_ok (by decide +kernel)) rfl
theorem e215_14 : rf d 215 14 ls s h = rf d 215 15 ls (.int 0 :: s) h := rf_pure (i := .iconst (0)) (len := 1) (okD_ok (by decide +kernel)) rfl
theorem e215_15 : rf d 215 15 ls s h = rf d 215 16 ls (.int 2 :: s) h := rf_pure (i := .iconst (2)) (len := 1) (okD_ok (by decide +kernel)) rfl
theorem e215_16 (hcat : ip_cat s ≤ 8) : rf (d + 1) 215 16 ls (.int x2 :: .int x1 :: .int x0 :: s) h = rf_k (d + 1) 215 16 ls s (cf d 217 [.int x0, .int x1, .int x2] h) := g_cs (idx := 315) [.int x2, .int x1, .int x0] (by decide +kernel) ow215 ms_8_315 mt_8_315 (by decide) rfl mL217 rfl hcat
theorem e215_19 : rf d 215 19 ls (.int x :: s) h = if ¬ x = 0 then rf d 215 26 ls s h else rf d 215 22 ls s h := g_if (c := .ne) (off := 7) _ (by decide +kernel) rfl cmp_d
theorem e215_22 : rf d 215 22 ls s h = rf d 215 23 ls (.int 2 :: s) h := rf_pure (i := .iconst (2)) (len := 1) (okD_ok (by decide +kernel)) rfl
theorem e215_23 : rf d 215 23 ls s h = rf d 215 27 ls s h := rf_goto ⟨okD_ok (i := .goto (4)) (len := 3) (by decide +kernel), rfl⟩
theorem e215_26 : rf d 215 26 ls s h = rf d 215 27 ls (.int 0 :: s) h := rf_pure (i := .iconst (0)) (len := 1) (okD_ok (by decide +kernel)) rfl
theorem e215_27 : rf d 215 27 ls (.int x :: .ref 265 :: s) (SH n, I, L, R, nc, ns, nx) = rf d 215 30 ls s (SH n, ip_up I 265 0 x, L, R, nc, ns, nx) := g_pI (idx := 142) (by decide +kernel) ow215 f_8_142 rfl (by decide +kernel) rfl (by decide)
theorem e215_30 : rf d 215 30 [some (.ref a), l1, l2] s h = rf d 215 31 [some (.ref a), l1, l2] (.ref a :: s) h := rf_pure (i := .aload_n 0) (len := 1) (okD_ok (by decide +kernel)) rfl
theorem e215_31 : rf d 215 31 ls (.ref 265 :: s) (SH n, I, L, R, nc, ns, nx) = rf d 215 34 ls (.int (I 265 0) :: s) (SH n, I, L, R, nc, ns, nx) := g_I (idx := 142) (by decide +kernel) ow215 f_8_142 rfl rfl (by decide)
theorem e215_34 : rf d 215 34 ls (.int x :: s) h = if x ≤ 0 then rf d 215 39 ls s h else rf d 215 37 ls s h := g_if (c := .le) (off := 5) _ (by decide +kernel) rfl cmp_d
theorem e215_37 : rf d 215 37 ls s h = rf d 215 38 ls (.int 0 :: s) h := rf_pure (i := .iconst (0)) (len := 1) (okD_ok (by decide +kernel)) rfl
theorem e215_38 : rf d 215 38 ls [.int x] h = some (.inl (some (.int x)), h) := g_ri (by decide +kernel) rt215
theorem e215_39 : rf d 215 39 [l0, l1, some (.int x)] s h = rf d 215 40 [l0, l1, some (.int x)] (.int x :: s) h := rf_pure (i := .iload_n 2) (len := 1) (okD_ok (by decide +kernel)) rfl
theorem e215_40 : rf d 215 40 ls (.int x :: s) h = if ¬ x = 0 then rf d 215 52 ls s h else rf d 215 43 ls s h := g_if (c := .ne) (off := 12) _ (by decide +kernel) rfl cmp_d
theorem e215_43 : rf d 215 43 [some (.ref a), l1, l2] s h = rf d 215 44 [some (.ref a), l1, l2] (.ref a :: s) h := rf_pure (i := .aload_n 0) (len := 1) (okD_ok (by decide +kernel)) rfl
theorem e215_44 (hR : LYR R) : rf d 215 44 ls (.ref 265 :: s) (SH n, I, L, R, nc, ns, nx) = rf d 215 47 ls (.ref 275 :: s) (SH n, I, L, R, nc, ns, nx) := g_R (idx := 42) (by decide +kernel) ow215 f_8_42 rfl rfl (by decide) (ly_265_21 hR)
theorem e215_47 : rf d 215 47 [l0, some (.int x), l2] s h = rf d 215 48 [l0, some (.int x), l2] (.int x :: s) h := rf_pure (i := .iload_n 1) (len := 1) (okD_ok (by decide +kernel)) rfl
theorem e215_48 (q : ia n a j) : rf d 215 48 ls (.int j :: .ref a :: s) (SH n, I, L, R, nc, ns, nx) = rf d 215 49 ls (.int (I a j.toNatClampNeg) :: s) (SH n, I, L, R, nc, ns, nx) := g_ial (by decide +kernel) q
theorem e215_49 : rf d 215 49 ls s h = rf d 215 73 ls s h := rf_goto ⟨okD_ok (i := .goto (24)) (len := 3) (by decide +kernel), rfl⟩
theorem e215_52 : rf d 215 52 [l0, l1, some (.int x)] s h = rf d 215 53 [l0, l1, some (.int x)] (.int x :: s) h := rf_pure (i := .iload_n 2) (len := 1) (okD_ok (by decide +kernel)) rfl
theorem e215_53 : rf d 215 53 ls s h = rf d 215 54 ls (.int 1 :: s) h := rf_pure (i := .iconst (1)) (len := 1) (okD_ok (by decide +kernel)) rfl
theorem e215_54 : rf d 215 54 ls (.int y :: .int x :: s) h = if ¬ x = y then rf d 215 66 ls s h else rf d 215 57 ls s h := g_ic (c := .ne) (off := 12) _ (by decide +kernel) rfl cmp_d
theorem e215_57 : rf d 215 57 [some (.ref a), l1, l2] s h = rf d 215 58 [some (.ref a), l1, l2] (.ref a :: s) h := rf_pure (i := .aload_n 0) (len := 1) (okD_ok (by decide +kernel)) rfl
theorem e215_58 (hR : LYR R) : rf d 215 58 ls (.ref 265 :: s) (SH n, I, L, R, nc, ns, nx) = rf d 215 61 ls (.ref 276 :: s) (SH n, I, L, R, nc, ns, nx) := g_R (idx := 45) (by decide +kernel) ow215 f_8_45 rfl rfl (by decide) (ly_265_22 hR)
theorem e215_61 : rf d 215 61 [l0, some (.int x), l2] s h = rf d 215 62 [l0, some (.int x), l2] (.int x :: s) h := rf_pure (i := .iload_n 1) (len := 1) (okD_ok (by decide +kernel)) rfl
theorem e215_62 (q : ia n a j) : rf d 215 62 ls (.int j :: .ref a :: s) (SH n, I, L, R, nc, ns, nx) = rf d 215 63 ls (.int (I a j.toNatClampNeg) :: s) (SH n, I, L, R, nc, ns, nx) := g_ial (by decide +kernel) q
theorem e215_63 : rf d 215 63 ls s h = rf d 215 73 ls s h := rf_goto ⟨okD_ok (i := .goto (10)) (len := 3) (by decide +kernel), rfl⟩
theorem e215_66 : rf d 215 66 [some (.ref a), l1, l2] s h = rf d 215 67 [some (.ref a), l1, l2] (.ref a :: s) h := rf_pure (i := .aload_n 0) (len := 1) (okD_ok (by decide +kernel)) rfl
theorem e215_67 : rf d 215 67 ls s h = rf d 215 68 ls (.int 1 :: s) h := rf_pure (i := .iconst (1)) (len := 1) (okD_ok (by decide +kernel)) rfl
theorem e215_68 : rf d 215 68 [l0, some (.int x), l2] s h = rf d 215 69 [l0, some (.int x), l2] (.int x :: s) h := rf_pure (i := .iload_n 1) (len := 1) (okD_ok (by decide +kernel)) rfl
theorem e215_69 : rf d 215 69 ls (.int y :: .int x :: s) h = rf d 215 70 ls (.int (x <<< (y &&& 31)) :: s) h := rf_pure (i := .ishl) (len := 1) (okD_ok (by decide +kernel)) rfl
theorem e215_70 (hcat : ip_cat s ≤ 8) : rf (d + 1) 215 70 ls (.int x0 :: .ref 265 :: s) (SH n, I, L, R, nc, ns, nx) = rf_k (d + 1) 215 70 ls s (cf d 218 [.ref 265, .int x0] (SH n, I, L, R, nc, ns, nx)) := g_cv (idx := 322) (t := 8) [.int x0] (by decide +kernel) ow215 ms_8_322 mt_8_322 cy218_8 rfl rfl mL218 rfl rfl (by decide) hcat
theorem e215_73 : rf d 215 73 ls [.int x] h = some (.inl (some (.int x)), h) := g_ri (by decide +kernel) rt215
theorem en216 : cf d 216 [.ref a, .int x0] h = rf d 216 0 [some (.ref a), some (.int x0)] [] h := rfl
theorem e216_0 : rf d 216 0 [l0, some (.int x)] s h = rf d 216 1 [l0, some (.int x)] (.int x :: s) h := rf_pure (i := .iload_n 1) (len := 1) (okD_ok (by decide +kernel)) rfl
theorem e216_1 : rf d 216 1 ls s h = rf d 216 2 ls (.int 0 :: s) h := rf_pure (i := .iconst (0)) (len := 1) (okD_ok (by decide +kernel)) rfl
theorem e216_2 : rf d 216 2 [some (.ref a), l1] s h = rf d 216 3 [some (.ref a), l1] (.ref a :: s) h := rf_pure (i := .aload_n 0) (len := 1) (okD_ok (by decide +kernel)) rfl
theorem e216_3 : rf d 216 3 ls (.ref 265 :: s) (SH n, I, L, R, nc, ns, nx) = rf d 216 6 ls (.int (I 265 17) :: s) (SH n, I, L, R, nc, ns, nx) := g_I (idx := 291) (by decide +kernel) ow216 f_8_291 rfl rfl (by decide)
theorem e216_6 : rf d 216 6 ls s h = rf d 216 7 ls (.int 1 :: s) h := rf_pure (i := .iconst (1)) (len := 1) (okD_ok (by decide +kernel)) rfl
theorem e216_7 : rf d 216 7 ls (.int y :: .int x :: s) h = rf d 216 8 ls (.int (x - y) :: s) h := rf_pure (i := .isub) (len := 1) (okD_ok (by decide +kernel)) rfl
theorem e216_8 (hcat : ip_cat s ≤ 8) : rf (d + 1) 216 8 ls (.int x2 :: .int x1 :: .int x0 :: s) h = rf_k (d + 1) 216 8 ls s (cf d 217 [.int x0, .int x1, .int x2] h) := g_cs (idx := 315) [.int x2, .int x1, .int x0] (by decide +kernel) ow216 ms_8_315 mt_8_315 (by decide) rfl mL217 rfl hcat
theorem e216_11 (hx : x = 0 ∨ x = 1) : rf d 216 11 ls [.int x] h = some (.inl (some (.int x)), h) := g_rz (by decide +kernel) rt216 hx
theorem en217 : cf d 217 [.int x0, .int x1, .int x2] h = rf d 217 0 [some (.int x0), some (.int x1), some (.int x2)] [] h := rfl
theorem e217_0 : rf d 217 0 [some (.int x), l1, l2] s h = rf d 217 1 [some (.int x), l1, l2] (.int x :: s) h := rf_pure (i := .iload_n 0) (len := 1) (okD_ok (by decide +kernel)) rfl
theorem e217_1 : rf d 217 1 [l0, some (.int x), l2] s h = rf d 217 2 [l0, some (.int x), l2] (.int x :: s) h := rf_pure (i := .iload_n 1) (len := 1) (okD_ok (by decide +kernel)) rfl
theorem e217_2 : rf d 217 2 ls (.int y :: .int x :: s) h = if x < y then rf d 217 14 ls s h else rf d 217 5 ls s h := g_ic (c := .lt) (off := 12) _ (by decide +kernel) rfl cmp_d
theorem e217_5 : rf d 217 5 [some (.int x), l1, l2] s h = rf d 217 6 [some (.int x), l1, l2] (.int x :: s) h := rf_pure (i := .iload_n 0) (len := 1) (okD_ok (by decide +kernel)) rfl
theorem e217_6 : rf d 217 6 [l0, l1, some (.int x)] s h = rf d 217 7 [l0, l1, some (.int x)] (.int x :: s) h := rf_pure (i := .iload_n 2) (len := 1) (okD_ok (by decide +kernel)) rfl
theorem e217_7 : rf d 217 7 ls (.int y :: .int x :: s) h = if y < x then rf d 217 14 ls s h else rf d 217 10 ls s h := g_ic (c := .gt) (off := 7) _ (by decide +kernel) rfl cmp_d
theorem e217_10 : rf d 217 10 ls s h = rf d 217 11 ls (.int 1 :: s) h := rf_pure (i := .iconst (1)) (len := 1) (okD_ok (by decide +kernel)) rfl
theorem e217_11 : rf d 217 11 ls s h = rf d 217 15 ls s h := rf_goto ⟨okD_ok (i := .goto (4)) (len := 3) (by decide +kernel), rfl⟩
theorem e217_14 : rf d 217 14 ls s h = rf d 217 15 ls (.int 0 :: s) h := rf_pure (i := .iconst (0)) (len := 1) (okD_ok (by decide +kernel)) rfl
theorem e217_15 (hx : x = 0 ∨ x = 1) : rf d 217 15 ls [.int x] h = some (.inl (some (.int x)), h) := g_rz (by decide +kernel) rt217 hx
theorem en218 : cf d 218 [.ref a, .int x0] h = rf d 218 0 [some (.ref a), some (.int x0), none, none] [] h := rfl
theorem e218_0 : rf d 218 0 ls s h = rf d 218 1 ls (.int 0 :: s) h := rf_pure (i := .iconst (0)) (len := 1) (okD_ok (by decide +kernel)) rfl
theorem e218_1 (hn : ip_nl l1 = true) : rf d 218 1 [l0, l1, l2, l3] (.int x :: s) h = rf d 218 2 [l0, l1, some (.int x), l3] s h := g_sti (i := .istore_n 2) (len := 1) (q := 1) (p := 1) (by decide +kernel) rfl rfl hn
theorem e218_2 : rf d 218 2 ls s h = rf d 218 3 ls (.int 0 :: s) h := rf_pure (i := .iconst (0)) (len := 1) (okD_ok (by decide +kernel)) rfl
theorem e218_3 (hn : ip_nl l2 = true) : rf d 218 3 [l0, l1, l2, l3] (.int x :: s) h = rf d 218 4 [l0, l1, l2, some (.int x)] s h := g_sti (i := .istore_n 3) (len := 1) (q := 2) (p := 1) (by decide +kernel) rfl rfl hn
theorem e218_4 : rf d 218 4 [l0, l1, l2, some (.int x)] s h = rf d 218 5 [l0, l1, l2, some (.int x)] (.int x :: s) h := rf_pure (i := .iload_n 3) (len := 1) (okD_ok (by decide +kernel)) rfl
theorem e218_5 : rf d 218 5 [some (.ref a), l1, l2, l3] s h = rf d 218 6 [some (.ref a), l1, l2, l3] (.ref a :: s) h := rf_pure (i := .aload_n 0) (len := 1) (okD_ok (by decide +kernel)) rfl
theorem e218_6 : rf d 218 6 ls (.ref 265 :: s) (SH n, I, L, R, nc, ns, nx) = rf d 218 9 ls (.int (I 265 17) :: s) (SH n, I, L, R, nc, ns, nx) := g_I (idx := 291) (by decide +kernel) ow218 f_8_291 rfl rfl (by decide)
theorem e218_9 : rf d 218 9 ls (.int y :: .int x :: s) h = if y ≤ x then rf d 218 37 ls s h else rf d 218 12 ls s h := g_ic (c := .ge) (off := 28) _ (by decide +kernel) rfl cmp_d
theorem e218_12 : rf d 218 12 [some (.ref a), l1, l2, l3] s h = rf d 218 13 [some (.ref a), l1, l2, l3] (.ref a :: s) h := rf_pure (i := .aload_n 0) (len := 1) (okD_ok (by decide +kernel)) rfl
theorem e218_13 (hR : LYR R) : rf d 218 13 ls (.ref 265 :: s) (SH n, I, L, R, nc, ns, nx) = rf d 218 16 ls (.ref 276 :: s) (SH n, I, L, R, nc, ns, nx) := g_R (idx := 45) (by decide +kernel) ow218 f_8_45 rfl rfl (by decide) (ly_265_22 hR)
theorem e218_16 : rf d 218 16 [l0, l1, l2, some (.int x)] s h = rf d 218 17 [l0, l1, l2, some (.int x)] (.int x :: s) h := rf_pure (i := .iload_n 3) (len := 1) (okD_ok (by decide +kernel)) rfl
theorem e218_17 (q : ia n a j) : rf d 218 17 ls (.int j :: .ref a :: s) (SH n, I, L, R, nc, ns, nx) = rf d 218 18 ls (.int (I a j.toNatClampNeg) :: s) (SH n, I, L, R, nc, ns, nx) := g_ial (by decide +kernel) q
theorem e218_18 : rf d 218 18 [l0, some (.int x), l2, l3] s h = rf d 218 19 [l0, some (.int x), l2, l3] (.int x :: s) h := rf_pure (i := .iload_n 1) (len := 1) (okD_ok (by decide +kernel)) rfl
theorem e218_19 : rf d 218 19 [l0, l1, some (.int x), l3] s h = rf d 218 20 [l0, l1, some (.int x), l3] (.int x :: s) h := rf_pure (i := .iload_n 2) (len := 1) (okD_ok (by decide +kernel)) rfl
theorem e218_20 : rf d 218 20 ls (.int y :: .int x :: s) h = rf d 218 21 ls (.int (x ||| y) :: s) h := rf_pure (i := .ior) (len := 1) (okD_ok (by decide +kernel)) rfl
theorem e218_21 : rf d 218 21 ls (.int y :: .int x :: s) h = rf d 218 22 ls (.int (x &&& y) :: s) h := rf_pure (i := .iand) (len := 1) (okD_ok (by decide +kernel)) rfl
theorem e218_22 : rf d 218 22 ls (.int x :: s) h = if x = 0 then rf d 218 31 ls s h else rf d 218 25 ls s h := g_if (c := .eq) (off := 9) _ (by decide +kernel) rfl cmp_d
theorem e218_25 : rf d 218 25 [l0, l1, some (.int x), l3] s h = rf d 218 26 [l0, l1, some (.int x), l3] (.int x :: s) h := rf_pure (i := .iload_n 2) (len := 1) (okD_ok (by decide +kernel)) rfl
theorem e218_26 : rf d 218 26 ls s h = rf d 218 27 ls (.int 1 :: s) h := rf_pure (i := .iconst (1)) (len := 1) (okD_ok (by decide +kernel)) rfl
theorem e218_27 : rf d 218 27 [l0, l1, l2, some (.int x)] s h = rf d 218 28 [l0, l1, l2, some (.int x)] (.int x :: s) h := rf_pure (i := .iload_n 3) (len := 1) (okD_ok (by decide +kernel)) rfl
theorem e218_28 : rf d 218 28 ls (.int y :: .int x :: s) h = rf d 218 29 ls (.int (x <<< (y &&& 31)) :: s) h := rf_pure (i := .ishl) (len := 1) (okD_ok (by decide +kernel)) rfl
theorem e218_29 : rf d 218 29 ls (.int y :: .int x :: s) h = rf d 218 30 ls (.int (x ||| y) :: s) h := rf_pure (i := .ior) (len := 1) (okD_ok (by decide +kernel)) rfl
theorem e218_30 (hn : ip_nl l1 = true) : rf d 218 30 [l0, l1, l2, l3] (.int x :: s) h = rf d 218 31 [l0, l1, some (.int x), l3] s h := g_sti (i := .istore_n 2) (len := 1) (q := 1) (p := 1) (by decide +kernel) rfl rfl hn
theorem e218_31 (hn : ip_nl l2 = true) : rf d 218 31 [l0, l1, l2, some (.int x)] s h = rf d 218 34 [l0, l1, l2, some (.int (x + 1))] s h := g_inc (q := 2) (z := 1) (w := 1) (x := x) (by decide) (by decide +kernel) rfl rfl hn
theorem e218_34 : rf d 218 34 ls s h = rf d 218 4 ls s h := rf_goto ⟨okD_ok (i := .goto (-30)) (len := 3) (by decide +kernel), rfl⟩
theorem e218_37 : rf d 218 37 [l0, l1, some (.int x), l3] s h = rf d 218 38 [l0, l1, some (.int x), l3] (.int x :: s) h := rf_pure (i := .iload_n 2) (len := 1) (okD_ok (by decide +kernel)) rfl
theorem e218_38 : rf d 218 38 ls [.int x] h = some (.inl (some (.int x)), h) := g_ri (by decide +kernel) rt218
theorem en219 : cf d 219 [.ref a, .int x0, .int x1] h = rf d 219 0 [some (.ref a), some (.int x0), some (.int x1)] [] h := rfl
theorem e219_0 : rf d 219 0 [some (.ref a), l1, l2] s h = rf d 219 1 [some (.ref a), l1, l2] (.ref a :: s) h := rf_pure (i := .aload_n 0) (len := 1) (okD_ok (by decide +kernel)) rfl
theorem e219_1 : rf d 219 1 [some (.ref a), l1, l2] s h = rf d 219 2 [some (.ref a), l1, l2] (.ref a :: s) h := rf_pure (i := .aload_n 0) (len := 1) (okD_ok (by decide +kernel)) rfl
theorem e219_2 : rf d 219 2 [l0, some (.int x), l2] s h = rf d 219 3 [l0, some (.int x), l2] (.int x :: s) h := rf_pure (i := .iload_n 1) (len := 1) (okD_ok (by decide +kernel)) rfl
theorem e219_3 (hcat : ip_cat s ≤ 8) : rf (d + 1) 219 3 ls (.int x0 :: .ref 265 :: s) (SH n, I, L, R, nc, ns, nx) = rf_k (d + 1) 219 3 ls s (cf d 216 [.ref 265, .int x0] (SH n, I, L, R, nc, ns, nx)) := g_cv (idx := 319) (t := 8) [.int x0] (by decide +kernel) ow219 ms_8_319 mt_8_319 cy216_8 rfl rfl mL216 rfl rfl (by decide) hcat
theorem e219_6 : rf d 219 6 ls (.int x :: s) h = if x = 0 then rf d 219 13 ls s h else rf d 219 9 ls s h := g_if (c := .eq) (off := 7) _ (by decide +kernel) rfl cmp_d
theorem e219_9 : rf d 219 9 ls s h = rf d 219 10 ls (.int 0 :: s) h := rf_pure (i := .iconst (0)) (len := 1) (okD_ok (by decide +kernel)) rfl
theorem e219_10 : rf d 219 10 ls s h = rf d 219 14 ls s h := rf_goto ⟨okD_ok (i := .goto (4)) (len := 3) (by decide +kernel), rfl⟩
theorem e219_13 : rf d 219 13 ls s h = rf d 219 14 ls (.int 1 :: s) h := rf_pure (i := .iconst (1)) (len := 1) (okD_ok (by decide +kernel)) rfl
theorem e219_14 : rf d 219 14 ls (.int x :: .ref 265 :: s) (SH n, I, L, R, nc, ns, nx) = rf d 219 17 ls s (SH n, ip_up I 265 0 x, L, R, nc, ns, nx) := g_pI (idx := 142) (by decide +kernel) ow219 f_8_142 rfl (by decide +kernel) rfl (by decide)
theorem e219_17 : rf d 219 17 [some (.ref a), l1, l2] s h = rf d 219 18 [some (.ref a), l1, l2] (.ref a :: s) h := rf_pure (i := .aload_n 0) (len := 1) (okD_ok (by decide +kernel)) rfl
theorem e219_18 : rf d 219 18 ls (.ref 265 :: s) (SH n, I, L, R, nc, ns, nx) = rf d 219 21 ls (.int (I 265 0) :: s) (SH n, I, L, R, nc, ns, nx) := g_I (idx := 142) (by decide +kernel) ow219 f_8_142 rfl rfl (by decide)
theorem e219_21 : rf d 219 21 ls (.int x :: s) h = if x ≤ 0 then rf d 219 26 ls s h else rf d 219 24 ls s h := g_if (c := .le) (off := 5) _ (by decide +kernel) rfl cmp_d
theorem e219_24 : rf d 219 24 ls s h = rf d 219 25 ls (.int 0 :: s) h := rf_pure (i := .iconst (0)) (len := 1) (okD_ok (by decide +kernel)) rfl
theorem e219_25 : rf d 219 25 ls [.int x] h = some (.inl (some (.int x)), h) := g_ri (by decide +kernel) rt219
theorem e219_26 : rf d 219 26 [l0, l1, some (.int x)] s h = rf d 219 27 [l0, l1, some (.int x)] (.int x :: s) h := rf_pure (i := .iload_n 2) (len := 1) (okD_ok (by decide +kernel)) rfl
theorem e219_27 : rf d 219 27 ls s h = rf d 219 28 ls (.int 0 :: s) h := rf_pure (i := .iconst (0)) (len := 1) (okD_ok (by decide +kernel)) rfl
theorem e219_28 : rf d 219 28 [some (.ref a), l1, l2] s h = rf d 219 29 [some (.ref a), l1, l2] (.ref a :: s) h := rf_pure (i := .aload_n 0) (len := 1) (okD_ok (by decide +kernel)) rfl
theorem e219_29 (hR : LYR R) : rf d 219 29 ls (.ref 265 :: s) (SH n, I, L, R, nc, ns, nx) = rf d 219 32 ls (.ref 274 :: s) (SH n, I, L, R, nc, ns, nx) := g_R (idx := 39) (by decide +kernel) ow219 f_8_39 rfl rfl (by decide) (ly_265_20 hR)
theorem e219_32 : rf d 219 32 [l0, some (.int x), l2] s h = rf d 219 33 [l0, some (.int x), l2] (.int x :: s) h := rf_pure (i := .iload_n 1) (len := 1) (okD_ok (by decide +kernel)) rfl
theorem e219_33 (q : la n a j) : rf d 219 33 ls (.int j :: .ref a :: s) (SH n, I, L, R, nc, ns, nx) = rf d 219 34 ls (.long (L a j.toNatClampNeg) :: s) (SH n, I, L, R, nc, ns, nx) := g_lal (by decide +kernel) q
theorem e219_34 (hcat : ip_cat s ≤ 8) : rf (d + 1) 219 34 ls (.long u0 :: s) h = rf_k (d + 1) 219 34 ls s (cf d 220 [.long u0] h) := g_cs (idx := 210) [.long u0] (by decide +kernel) ow219 ms_8_210 mt_8_210 (by decide) rfl mL220 rfl hcat
theorem e219_37 : rf d 219 37 ls s h = rf d 219 38 ls (.int 1 :: s) h := rf_pure (i := .iconst (1)) (len := 1) (okD_ok (by decide +kernel)) rfl
theorem e219_38 : rf d 219 38 ls (.int y :: .int x :: s) h = rf d 219 39 ls (.int (x - y) :: s) h := rf_pure (i := .isub) (len := 1) (okD_ok (by decide +kernel)) rfl
theorem e219_39 (hcat : ip_cat s ≤ 8) : rf (d + 1) 219 39 ls (.int x2 :: .int x1 :: .int x0 :: s) h = rf_k (d + 1) 219 39 ls s (cf d 217 [.int x0, .int x1, .int x2] h) := g_cs (idx := 315) [.int x2, .int x1, .int x0] (by decide +kernel) ow219 ms_8_315 mt_8_315 (by decide) rfl mL217 rfl hcat
theorem e219_42 : rf d 219 42 ls (.int x :: s) h = if x = 0 then rf d 219 58 ls s h else rf d 219 45 ls s h := g_if (c := .eq) (off := 16) _ (by decide +kernel) rfl cmp_d
theorem e219_45 : rf d 219 45 [some (.ref a), l1, l2] s h = rf d 219 46 [some (.ref a), l1, l2] (.ref a :: s) h := rf_pure (i := .aload_n 0) (len := 1) (okD_ok (by decide +kernel)) rfl
theorem e219_46 (hR : LYR R) : rf d 219 46 ls (.ref 265 :: s) (SH n, I, L, R, nc, ns, nx) = rf d 219 49 ls (.ref 274 :: s) (SH n, I, L, R, nc, ns, nx) := g_R (idx := 39) (by decide +kernel) ow219 f_8_39 rfl rfl (by decide) (ly_265_20 hR)
theorem e219_49 : rf d 219 49 [l0, some (.int x), l2] s h = rf d 219 50 [l0, some (.int x), l2] (.int x :: s) h := rf_pure (i := .iload_n 1) (len := 1) (okD_ok (by decide +kernel)) rfl
theorem e219_50 (q : la n a j) : rf d 219 50 ls (.int j :: .ref a :: s) (SH n, I, L, R, nc, ns, nx) = rf d 219 51 ls (.long (L a j.toNatClampNeg) :: s) (SH n, I, L, R, nc, ns, nx) := g_lal (by decide +kernel) q
theorem e219_51 : rf d 219 51 [l0, l1, some (.int x)] s h = rf d 219 52 [l0, l1, some (.int x)] (.int x :: s) h := rf_pure (i := .iload_n 2) (len := 1) (okD_ok (by decide +kernel)) rfl
theorem e219_52 (hcat : ip_cat s ≤ 8) : rf (d + 1) 219 52 ls (.int x1 :: .long u0 :: s) h = rf_k (d + 1) 219 52 ls s (cf d 221 [.long u0, .int x1] h) := g_cs (idx := 326) [.int x1, .long u0] (by decide +kernel) ow219 ms_8_326 mt_8_326 (by decide) rfl mL221 rfl hcat
theorem e219_55 : rf d 219 55 ls s h = rf d 219 59 ls s h := rf_goto ⟨okD_ok (i := .goto (4)) (len := 3) (by decide +kernel), rfl⟩
theorem e219_58 : rf d 219 58 ls s h = rf d 219 59 ls (.int (-1) :: s) h := rf_pure (i := .iconst (-1)) (len := 1) (okD_ok (by decide +kernel)) rfl
theorem e219_59 : rf d 219 59 ls [.int x] h = some (.inl (some (.int x)), h) := g_ri (by decide +kernel) rt219
theorem en220 : cf d 220 [.long u0] h = rf d 220 0 [some (.long u0), none, none, none, none] [] h := rfl
theorem e220_0 : rf d 220 0 ls s h = rf d 220 1 ls (.int 0 :: s) h := rf_pure (i := .iconst (0)) (len := 1) (okD_ok (by decide +kernel)) rfl
theorem e220_1 (hn : ip_nl l1 = true) : rf d 220 1 [l0, l1, l2, l3, l4] (.int x :: s) h = rf d 220 2 [l0, l1, some (.int x), l3, l4] s h := g_sti (i := .istore_n 2) (len := 1) (q := 1) (p := 1) (by decide +kernel) rfl rfl hn
theorem e220_2 : rf d 220 2 [some (.long u), l1, l2, l3, l4] s h = rf d 220 3 [some (.long u), l1, l2, l3, l4] (.long u :: s) h := rf_pure (i := .lload_n 0) (len := 1) (okD_ok (by decide +kernel)) rfl
theorem e220_3 (hn : ip_nl l2 = true) : rf d 220 3 [l0, l1, l2, l3, l4] (.long u :: s) h = rf d 220 4 [l0, l1, l2, some (.long u), none] s h := g_stl (i := .lstore_n 3) (len := 1) (q := 2) (p := 1) (by decide +kernel) rfl rfl hn
theorem e220_4 : rf d 220 4 [l0, l1, l2, some (.long u), l4] s h = rf d 220 5 [l0, l1, l2, some (.long u), l4] (.long u :: s) h := rf_pure (i := .lload_n 3) (len := 1) (okD_ok (by decide +kernel)) rfl
theorem e220_5 : rf d 220 5 ls s h = rf d 220 6 ls (.long 0 :: s) h := rf_pure (i := .lconst 0) (len := 1) (okD_ok (by decide +kernel)) rfl
theorem e220_6 : rf d 220 6 ls (.long v :: .long u :: s) h = rf d 220 7 ls (.int (lg_cmp u v) :: s) h := rf_pure (i := .lcmp) (len := 1) (okD_ok (by decide +kernel)) rfl
theorem e220_7 : rf d 220 7 ls (.int x :: s) h = if x ≤ 0 then rf d 220 22 ls s h else rf d 220 10 ls s h := g_if (c := .le) (off := 15) _ (by decide +kernel) rfl cmp_d
theorem e220_10 (hn : ip_nl l1 = true) : rf d 220 10 [l0, l1, some (.int x), l3, l4] s h = rf d 220 13 [l0, l1, some (.int (x + 1)), l3, l4] s h := g_inc (q := 1) (z := 1) (w := 1) (x := x) (by decide) (by decide +kernel) rfl rfl hn
theorem e220_13 : rf d 220 13 [l0, l1, l2, some (.long u), l4] s h = rf d 220 14 [l0, l1, l2, some (.long u), l4] (.long u :: s) h := rf_pure (i := .lload_n 3) (len := 1) (okD_ok (by decide +kernel)) rfl
theorem e220_14 : rf d 220 14 ls s h = rf d 220 17 ls (.long 32 :: s) h := g_kl (idx := 206) (by decide +kernel) ow220 kl_8_206
theorem e220_17 (hy : ¬ v = 0) : rf d 220 17 ls (.long v :: .long u :: s) h = rf d 220 18 ls (.long (u / v) :: s) h := g_lz (i := .ldiv) (len := 1) (f := fun x y => x / y) (by decide +kernel) rfl hy
theorem e220_18 (hn : ip_nl l2 = true) : rf d 220 18 [l0, l1, l2, l3, l4] (.long u :: s) h = rf d 220 19 [l0, l1, l2, some (.long u), none] s h := g_stl (i := .lstore_n 3) (len := 1) (q := 2) (p := 1) (by decide +kernel) rfl rfl hn
theorem e220_19 : rf d 220 19 ls s h = rf d 220 4 ls s h := rf_goto ⟨okD_ok (i := .goto (-15)) (len := 3) (by decide +kernel), rfl⟩
theorem e220_22 : rf d 220 22 [l0, l1, some (.int x), l3, l4] s h = rf d 220 23 [l0, l1, some (.int x), l3, l4] (.int x :: s) h := rf_pure (i := .iload_n 2) (len := 1) (okD_ok (by decide +kernel)) rfl
theorem e220_23 : rf d 220 23 ls [.int x] h = some (.inl (some (.int x)), h) := g_ri (by decide +kernel) rt220
theorem en221 : cf d 221 [.long u0, .int x1] h = rf d 221 0 [some (.long u0), none, some (.int x1), none, none, none] [] h := rfl
theorem e221_0 : rf d 221 0 [some (.long u), l1, l2, l3, l4, l5] s h = rf d 221 1 [some (.long u), l1, l2, l3, l4, l5] (.long u :: s) h := rf_pure (i := .lload_n 0) (len := 1) (okD_ok (by decide +kernel)) rfl
theorem e221_1 (hn : ip_nl l2 = true) : rf d 221 1 [l0, l1, l2, l3, l4, l5] (.long u :: s) h = rf d 221 2 [l0, l1, l2, some (.long u), none, l5] s h := g_stl (i := .lstore_n 3) (len := 1) (q := 2) (p := 1) (by decide +kernel) rfl rfl hn
theorem e221_2 : rf d 221 2 [some (.long u), l1, l2, l3, l4, l5] s h = rf d 221 3 [some (.long u), l1, l2, l3, l4, l5] (.long u :: s) h := rf_pure (i := .lload_n 0) (len := 1) (okD_ok (by decide +kernel)) rfl
theorem e221_3 (hcat : ip_cat s ≤ 8) : rf (d + 1) 221 3 ls (.long u0 :: s) h = rf_k (d + 1) 221 3 ls s (cf d 220 [.long u0] h) := g_cs (idx := 210) [.long u0] (by decide +kernel) ow221 ms_8_210 mt_8_210 (by decide) rfl mL220 rfl hcat
theorem e221_6 : rf d 221 6 ls s h = rf d 221 7 ls (.int 1 :: s) h := rf_pure (i := .iconst (1)) (len := 1) (okD_ok (by decide +kernel)) rfl
theorem e221_7 : rf d 221 7 ls (.int y :: .int x :: s) h = rf d 221 8 ls (.int (x - y) :: s) h := rf_pure (i := .isub) (len := 1) (okD_ok (by decide +kernel)) rfl
theorem e221_8 (hn : ip_nl l4 = true) : rf d 221 8 [l0, l1, l2, l3, l4, l5] (.int x :: s) h = rf d 221 10 [l0, l1, l2, l3, l4, some (.int x)] s h := g_sti (i := .istore 5) (len := 2) (q := 4) (p := 2) (by decide +kernel) rfl rfl hn
theorem e221_10 : rf d 221 10 [l0, l1, l2, l3, l4, some (.int x)] s h = rf d 221 12 [l0, l1, l2, l3, l4, some (.int x)] (.int x :: s) h := rf_pure (i := .iload 5) (len := 2) (okD_ok (by decide +kernel)) rfl
theorem e221_12 : rf d 221 12 [l0, l1, some (.int x), l3, l4, l5] s h = rf d 221 13 [l0, l1, some (.int x), l3, l4, l5] (.int x :: s) h := rf_pure (i := .iload_n 2) (len := 1) (okD_ok (by decide +kernel)) rfl
theorem e221_13 : rf d 221 13 ls (.int y :: .int x :: s) h = if x ≤ y then rf d 221 28 ls s h else rf d 221 16 ls s h := g_ic (c := .le) (off := 15) _ (by decide +kernel) rfl cmp_d
theorem e221_16 : rf d 221 16 [l0, l1, l2, some (.long u), l4, l5] s h = rf d 221 17 [l0, l1, l2, some (.long u), l4, l5] (.long u :: s) h := rf_pure (i := .lload_n 3) (len := 1) (okD_ok (by decide +kernel)) rfl
theorem e221_17 : rf d 221 17 ls s h = rf d 221 20 ls (.long 32 :: s) h := g_kl (idx := 206) (by decide +kernel) ow221 kl_8_206
theorem e221_20 (hy : ¬ v = 0) : rf d 221 20 ls (.long v :: .long u :: s) h = rf d 221 21 ls (.long (u / v) :: s) h := g_lz (i := .ldiv) (len := 1) (f := fun x y => x / y) (by decide +kernel) rfl hy
theorem e221_21 (hn : ip_nl l2 = true) : rf d 221 21 [l0, l1, l2, l3, l4, l5] (.long u :: s) h = rf d 221 22 [l0, l1, l2, some (.long u), none, l5] s h := g_stl (i := .lstore_n 3) (len := 1) (q := 2) (p := 1) (by decide +kernel) rfl rfl hn
theorem e221_22 (hn : ip_nl l4 = true) : rf d 221 22 [l0, l1, l2, l3, l4, some (.int x)] s h = rf d 221 25 [l0, l1, l2, l3, l4, some (.int (x + (-1)))] s h := g_inc (q := 4) (z := -1) (w := (-1)) (x := x) (by decide) (by decide +kernel) rfl rfl hn
theorem e221_25 : rf d 221 25 ls s h = rf d 221 10 ls s h := rf_goto ⟨okD_ok (i := .goto (-15)) (len := 3) (by decide +kernel), rfl⟩
theorem e221_28 : rf d 221 28 [l0, l1, l2, some (.long u), l4, l5] s h = rf d 221 29 [l0, l1, l2, some (.long u), l4, l5] (.long u :: s) h := rf_pure (i := .lload_n 3) (len := 1) (okD_ok (by decide +kernel)) rfl
theorem e221_29 : rf d 221 29 ls s h = rf d 221 32 ls (.long 32 :: s) h := g_kl (idx := 206) (by decide +kernel) ow221 kl_8_206
theorem e221_32 (hy : ¬ v = 0) : rf d 221 32 ls (.long v :: .long u :: s) h = rf d 221 33 ls (.long (u - u / v * v) :: s) h := g_lz (i := .lrem) (len := 1) (f := fun x y => x - x / y * y) (by decide +kernel) rfl hy
theorem e221_33 : rf d 221 33 ls (.long u :: s) h = rf d 221 34 ls (.int u.toInt32 :: s) h := rf_pure (i := .l2i) (len := 1) (okD_ok (by decide +kernel)) rfl
theorem e221_34 : rf d 221 34 ls s h = rf d 221 36 ls (.int 97 :: s) h := rf_pure (i := .bipush (97)) (len := 2) (okD_ok (by decide +kernel)) rfl
theorem e221_36 : rf d 221 36 ls (.int y :: .int x :: s) h = rf d 221 37 ls (.int (x + y) :: s) h := rf_pure (i := .iadd) (len := 1) (okD_ok (by decide +kernel)) rfl
theorem e221_37 : rf d 221 37 ls s h = rf d 221 38 ls (.int 1 :: s) h := rf_pure (i := .iconst (1)) (len := 1) (okD_ok (by decide +kernel)) rfl
theorem e221_38 : rf d 221 38 ls (.int y :: .int x :: s) h = rf d 221 39 ls (.int (x - y) :: s) h := rf_pure (i := .isub) (len := 1) (okD_ok (by decide +kernel)) rfl
theorem e221_39 : rf d 221 39 ls [.int x] h = some (.inl (some (.int x)), h) := g_ri (by decide +kernel) rt221
theorem en222 : cf d 222 [.ref a, .int x0, .int x1] h = rf d 222 0 [some (.ref a), some (.int x0), some (.int x1)] [] h := rfl
theorem e222_0 : rf d 222 0 [some (.ref a), l1, l2] s h = rf d 222 1 [some (.ref a), l1, l2] (.ref a :: s) h := rf_pure (i := .aload_n 0) (len := 1) (okD_ok (by decide +kernel)) rfl
theorem e222_1 : rf d 222 1 [l0, some (.int x), l2] s h = rf d 222 2 [l0, some (.int x), l2] (.int x :: s) h := rf_pure (i := .iload_n 1) (len := 1) (okD_ok (by decide +kernel)) rfl
theorem e222_2 : rf d 222 2 ls s h = rf d 222 3 ls (.int 1 :: s) h := rf_pure (i := .iconst (1)) (len := 1) (okD_ok (by decide +kernel)) rfl
theorem e222_3 : rf d 222 3 ls s h = rf d 222 4 ls (.int 2 :: s) h := rf_pure (i := .iconst (2)) (len := 1) (okD_ok (by decide +kernel)) rfl
theorem e222_4 (hcat : ip_cat s ≤ 8) : rf (d + 1) 222 4 ls (.int x2 :: .int x1 :: .int x0 :: s) h = rf_k (d + 1) 222 4 ls s (cf d 217 [.int x0, .int x1, .int x2] h) := g_cs (idx := 315) [.int x2, .int x1, .int x0] (by decide +kernel) ow222 ms_8_315 mt_8_315 (by decide) rfl mL217 rfl hcat
theorem e222_7 : rf d 222 7 ls (.int x :: s) h = if x = 0 then rf d 222 23 ls s h else rf d 222 10 ls s h := g_if (c := .eq) (off := 16) _ (by decide +kernel) rfl cmp_d
theorem e222_10 : rf d 222 10 [l0, l1, some (.int x)] s h = rf d 222 11 [l0, l1, some (.int x)] (.int x :: s) h := rf_pure (i := .iload_n 2) (len := 1) (okD_ok (by decide +kernel)) rfl
theorem e222_11 : rf d 222 11 ls s h = rf d 222 12 ls (.int 0 :: s) h := rf_pure (i := .iconst (0)) (len := 1) (okD_ok (by decide +kernel)) rfl
theorem e222_12 : rf d 222 12 ls s h = rf d 222 13 ls (.int 2 :: s) h := rf_pure (i := .iconst (2)) (len := 1) (okD_ok (by decide +kernel)) rfl
theorem e222_13 (hcat : ip_cat s ≤ 8) : rf (d + 1) 222 13 ls (.int x2 :: .int x1 :: .int x0 :: s) h = rf_k (d + 1) 222 13 ls s (cf d 217 [.int x0, .int x1, .int x2] h) := g_cs (idx := 315) [.int x2, .int x1, .int x0] (by decide +kernel) ow222 ms_8_315 mt_8_315 (by decide) rfl mL217 rfl hcat
theorem e222_16 : rf d 222 16 ls (.int x :: s) h = if x = 0 then rf d 222 23 ls s h else rf d 222 19 ls s h := g_if (c := .eq) (off := 7) _ (by decide +kernel) rfl cmp_d
theorem e222_19 : rf d 222 19 ls s h = rf d 222 20 ls (.int 0 :: s) h := rf_pure (i := .iconst (0)) (len := 1) (okD_ok (by decide +kernel)) rfl
theorem e222_20 : rf d 222 20 ls s h = rf d 222 24 ls s h := rf_goto ⟨okD_ok (i := .goto (4)) (len := 3) (by decide +kernel), rfl⟩
theorem e222_23 : rf d 222 23 ls s h = rf d 222 24 ls (.int 1 :: s) h := rf_pure (i := .iconst (1)) (len := 1) (okD_ok (by decide +kernel)) rfl
theorem e222_24 : rf d 222 24 ls (.int x :: .ref 265 :: s) (SH n, I, L, R, nc, ns, nx) = rf d 222 27 ls s (SH n, ip_up I 265 0 x, L, R, nc, ns, nx) := g_pI (idx := 142) (by decide +kernel) ow222 f_8_142 rfl (by decide +kernel) rfl (by decide)
theorem e222_27 : rf d 222 27 [some (.ref a), l1, l2] s h = rf d 222 28 [some (.ref a), l1, l2] (.ref a :: s) h := rf_pure (i := .aload_n 0) (len := 1) (okD_ok (by decide +kernel)) rfl
theorem e222_28 : rf d 222 28 ls (.ref 265 :: s) (SH n, I, L, R, nc, ns, nx) = rf d 222 31 ls (.int (I 265 0) :: s) (SH n, I, L, R, nc, ns, nx) := g_I (idx := 142) (by decide +kernel) ow222 f_8_142 rfl rfl (by decide)
theorem e222_31 : rf d 222 31 ls (.int x :: s) h = if x ≤ 0 then rf d 222 38 ls s h else rf d 222 34 ls s h := g_if (c := .le) (off := 7) _ (by decide +kernel) rfl cmp_d
theorem e222_34 : rf d 222 34 ls s h = rf d 222 35 ls (.int 0 :: s) h := rf_pure (i := .iconst (0)) (len := 1) (okD_ok (by decide +kernel)) rfl
theorem e222_35 : rf d 222 35 ls s h = rf d 222 50 ls s h := rf_goto ⟨okD_ok (i := .goto (15)) (len := 3) (by decide +kernel), rfl⟩
theorem e222_38 : rf d 222 38 [some (.ref a), l1, l2] s h = rf d 222 39 [some (.ref a), l1, l2] (.ref a :: s) h := rf_pure (i := .aload_n 0) (len := 1) (okD_ok (by decide +kernel)) rfl
theorem e222_39 (hR : LYR R) : rf d 222 39 ls (.ref 265 :: s) (SH n, I, L, R, nc, ns, nx) = rf d 222 42 ls (.ref 277 :: s) (SH n, I, L, R, nc, ns, nx) := g_R (idx := 48) (by decide +kernel) ow222 f_8_48 rfl rfl (by decide) (ly_265_23 hR)
theorem e222_42 : rf d 222 42 ls s h = rf d 222 43 ls (.int 3 :: s) h := rf_pure (i := .iconst (3)) (len := 1) (okD_ok (by decide +kernel)) rfl
theorem e222_43 : rf d 222 43 [l0, some (.int x), l2] s h = rf d 222 44 [l0, some (.int x), l2] (.int x :: s) h := rf_pure (i := .iload_n 1) (len := 1) (okD_ok (by decide +kernel)) rfl
theorem e222_44 : rf d 222 44 ls (.int y :: .int x :: s) h = rf d 222 45 ls (.int (x * y) :: s) h := rf_pure (i := .imul) (len := 1) (okD_ok (by decide +kernel)) rfl
theorem e222_45 : rf d 222 45 ls s h = rf d 222 46 ls (.int 3 :: s) h := rf_pure (i := .iconst (3)) (len := 1) (okD_ok (by decide +kernel)) rfl
theorem e222_46 : rf d 222 46 ls (.int y :: .int x :: s) h = rf d 222 47 ls (.int (x - y) :: s) h := rf_pure (i := .isub) (len := 1) (okD_ok (by decide +kernel)) rfl
theorem e222_47 : rf d 222 47 [l0, l1, some (.int x)] s h = rf d 222 48 [l0, l1, some (.int x)] (.int x :: s) h := rf_pure (i := .iload_n 2) (len := 1) (okD_ok (by decide +kernel)) rfl
theorem e222_48 : rf d 222 48 ls (.int y :: .int x :: s) h = rf d 222 49 ls (.int (x + y) :: s) h := rf_pure (i := .iadd) (len := 1) (okD_ok (by decide +kernel)) rfl
theorem e222_49 (q : ia n a j) : rf d 222 49 ls (.int j :: .ref a :: s) (SH n, I, L, R, nc, ns, nx) = rf d 222 50 ls (.int (I a j.toNatClampNeg) :: s) (SH n, I, L, R, nc, ns, nx) := g_ial (by decide +kernel) q
theorem e222_50 : rf d 222 50 ls [.int x] h = some (.inl (some (.int x)), h) := g_ri (by decide +kernel) rt222
end S06
