/-! STEPS, 3 (printed by wip/whole/gen_steps.py) -/
section S03
variable {n d a b t : Nat} {l0 l1 l2 l3 l4 l5 l6 l7 l8 l9 l10 l11 l12 l13 : Option Value} {ls : List (Option Value)} {s : List Value} {h : ip_H} {I : Nat → Nat → Int32} {L : Nat → Nat → Int64} {R : Nat → Nat → Option Nat} {nc ns : Nat} {nx : Bool} {x y j z sp dp x0 x1 x2 x3 x4 x5 : Int32} {u v u0 u1 u2 u3 : Int64} {a0 a1 a2 a3 a4 : Nat}
theorem en105 : cf d 105 [.ref a, .int x0] h = rf d 105 0 [some (.ref a), some (.int x0)] [] h := rfl
theorem e105_0 : rf d 105 0 [some (.ref a), l1] s h = rf d 105 1 [some (.ref a), l1] (.ref a :: s) h := rf_pure (i := .aload_n 0) (len := 1) (okD_ok (by decide +kernel)) rfl
theorem e105_1 (hR : LYR R) (ha : isN a) : rf d 105 1 ls (.ref a :: s) (SH n, I, L, R, nc, ns, nx) = rf d 105 4 ls (.ref (a + 2) :: s) (SH n, I, L, R, nc, ns, nx) := g_R (idx := 15) (by decide +kernel) ow105 f_1_15 rfl (kdN0 ha) (geN ha) (lyN13 hR ha)
theorem e105_4 : rf d 105 4 [l0, some (.int x)] s h = rf d 105 5 [l0, some (.int x)] (.int x :: s) h := rf_pure (i := .iload_n 1) (len := 1) (okD_ok (by decide +kernel)) rfl
theorem e105_5 : rf d 105 5 ls s h = rf d 105 6 ls (.int 1 :: s) h := rf_pure (i := .iconst (1)) (len := 1) (okD_ok (by decide +kernel)) rfl
theorem e105_6 : rf d 105 6 ls (.int y :: .int x :: s) h = rf d 105 7 ls (.int (x &&& y) :: s) h := rf_pure (i := .iand) (len := 1) (okD_ok (by decide +kernel)) rfl
theorem e105_7 (q : ia n a j) : rf d 105 7 ls (.int j :: .ref a :: s) (SH n, I, L, R, nc, ns, nx) = rf d 105 8 ls (.int (I a j.toNatClampNeg) :: s) (SH n, I, L, R, nc, ns, nx) := g_ial (by decide +kernel) q
theorem e105_8 : rf d 105 8 ls [.int x] h = some (.inl (some (.int x)), h) := g_ri (by decide +kernel) rt105
theorem en106 : cf d 106 [.ref a, .int x0] h = rf d 106 0 [some (.ref a), some (.int x0)] [] h := rfl
theorem e106_0 : rf d 106 0 [some (.ref a), l1] s h = rf d 106 1 [some (.ref a), l1] (.ref a :: s) h := rf_pure (i := .aload_n 0) (len := 1) (okD_ok (by decide +kernel)) rfl
theorem e106_1 (hR : LYR R) (ha : isN a) : rf d 106 1 ls (.ref a :: s) (SH n, I, L, R, nc, ns, nx) = rf d 106 4 ls (.ref (a + 1) :: s) (SH n, I, L, R, nc, ns, nx) := g_R (idx := 9) (by decide +kernel) ow106 f_1_9 rfl (kdN0 ha) (geN ha) (lyN12 hR ha)
theorem e106_4 : rf d 106 4 [l0, some (.int x)] s h = rf d 106 5 [l0, some (.int x)] (.int x :: s) h := rf_pure (i := .iload_n 1) (len := 1) (okD_ok (by decide +kernel)) rfl
theorem e106_5 : rf d 106 5 ls s h = rf d 106 6 ls (.int 1 :: s) h := rf_pure (i := .iconst (1)) (len := 1) (okD_ok (by decide +kernel)) rfl
theorem e106_6 : rf d 106 6 ls (.int y :: .int x :: s) h = rf d 106 7 ls (.int (x &&& y) :: s) h := rf_pure (i := .iand) (len := 1) (okD_ok (by decide +kernel)) rfl
theorem e106_7 (q : ia n a j) : rf d 106 7 ls (.int j :: .ref a :: s) (SH n, I, L, R, nc, ns, nx) = rf d 106 8 ls (.int (I a j.toNatClampNeg) :: s) (SH n, I, L, R, nc, ns, nx) := g_ial (by decide +kernel) q
theorem e106_8 : rf d 106 8 ls [.int x] h = some (.inl (some (.int x)), h) := g_ri (by decide +kernel) rt106
theorem en107 : cf d 107 [.ref a] h = rf d 107 0 [some (.ref a)] [] h := rfl
theorem e107_0 : rf d 107 0 [some (.ref a)] s h = rf d 107 1 [some (.ref a)] (.ref a :: s) h := rf_pure (i := .aload_n 0) (len := 1) (okD_ok (by decide +kernel)) rfl
theorem e107_1 : rf d 107 1 ls (.ref 2 :: s) (SH n, I, L, R, nc, ns, nx) = rf d 107 4 ls (.int (I 2 6) :: s) (SH n, I, L, R, nc, ns, nx) := g_I (idx := 40) (by decide +kernel) ow107 f_7_40 rfl rfl (by decide)
theorem e107_4 : rf d 107 4 ls s h = rf d 107 6 ls (.int 40 :: s) h := rf_pure (i := .bipush (40)) (len := 2) (okD_ok (by decide +kernel)) rfl
theorem e107_6 : rf d 107 6 ls (.int y :: .int x :: s) h = if x < y then rf d 107 20 ls s h else rf d 107 9 ls s h := g_ic (c := .lt) (off := 14) _ (by decide +kernel) rfl cmp_d
theorem e107_9 : rf d 107 9 ls [] h = some (.inr "java/lang/IllegalStateException", ip_hx h) := g_thr (idx := 147) (by decide +kernel) ow107 (by decide +kernel) (by decide +kernel)
theorem e107_20 : rf d 107 20 ls [] h = some (.inl none, h) := g_rv (by decide +kernel) rt107
theorem en108 : cf d 108 [.ref a, .int x0, .int x1] h = rf d 108 0 [some (.ref a), some (.int x0), some (.int x1), none, none, none] [] h := rfl
theorem e108_0 : rf d 108 0 [some (.ref a), l1, l2, l3, l4, l5] s h = rf d 108 1 [some (.ref a), l1, l2, l3, l4, l5] (.ref a :: s) h := rf_pure (i := .aload_n 0) (len := 1) (okD_ok (by decide +kernel)) rfl
theorem e108_1 (hR : LYR R) (ha : isC a) : rf d 108 1 ls (.ref a :: s) (SH n, I, L, R, nc, ns, nx) = rf d 108 4 ls (.ref (a + 15) :: s) (SH n, I, L, R, nc, ns, nx) := g_R (idx := 45) (by decide +kernel) ow108 f_0_45 rfl (kdC0 ha) (geC ha) (lyC13 hR ha)
theorem e108_4 : rf d 108 4 ls s h = rf d 108 5 ls (.int 0 :: s) h := rf_pure (i := .iconst (0)) (len := 1) (okD_ok (by decide +kernel)) rfl
theorem e108_5 : rf d 108 5 [l0, some (.int x), l2, l3, l4, l5] s h = rf d 108 6 [l0, some (.int x), l2, l3, l4, l5] (.int x :: s) h := rf_pure (i := .iload_n 1) (len := 1) (okD_ok (by decide +kernel)) rfl
theorem e108_6 (q : ia n a j) : rf d 108 6 ls (.int x :: .int j :: .ref a :: s) (SH n, I, L, R, nc, ns, nx) = rf d 108 7 ls s (SH n, ip_up I a j.toNatClampNeg x, L, R, nc, ns, nx) := g_ias (by decide +kernel) q
theorem e108_7 : rf d 108 7 [some (.ref a), l1, l2, l3, l4, l5] s h = rf d 108 8 [some (.ref a), l1, l2, l3, l4, l5] (.ref a :: s) h := rf_pure (i := .aload_n 0) (len := 1) (okD_ok (by decide +kernel)) rfl
theorem e108_8 (hR : LYR R) (ha : isC a) : rf d 108 8 ls (.ref a :: s) (SH n, I, L, R, nc, ns, nx) = rf d 108 11 ls (.ref (a + 15) :: s) (SH n, I, L, R, nc, ns, nx) := g_R (idx := 45) (by decide +kernel) ow108 f_0_45 rfl (kdC0 ha) (geC ha) (lyC13 hR ha)
theorem e108_11 : rf d 108 11 ls s h = rf d 108 12 ls (.int 1 :: s) h := rf_pure (i := .iconst (1)) (len := 1) (okD_ok (by decide +kernel)) rfl
theorem e108_12 : rf d 108 12 [l0, l1, some (.int x), l3, l4, l5] s h = rf d 108 13 [l0, l1, some (.int x), l3, l4, l5] (.int x :: s) h := rf_pure (i := .iload_n 2) (len := 1) (okD_ok (by decide +kernel)) rfl
theorem e108_13 (q : ia n a j) : rf d 108 13 ls (.int x :: .int j :: .ref a :: s) (SH n, I, L, R, nc, ns, nx) = rf d 108 14 ls s (SH n, ip_up I a j.toNatClampNeg x, L, R, nc, ns, nx) := g_ias (by decide +kernel) q
theorem e108_14 : rf d 108 14 [some (.ref a), l1, l2, l3, l4, l5] s h = rf d 108 15 [some (.ref a), l1, l2, l3, l4, l5] (.ref a :: s) h := rf_pure (i := .aload_n 0) (len := 1) (okD_ok (by decide +kernel)) rfl
theorem e108_15 (hR : LYR R) (ha : isC a) : rf d 108 15 ls (.ref a :: s) (SH n, I, L, R, nc, ns, nx) = rf d 108 18 ls (.ref (a + 15) :: s) (SH n, I, L, R, nc, ns, nx) := g_R (idx := 45) (by decide +kernel) ow108 f_0_45 rfl (kdC0 ha) (geC ha) (lyC13 hR ha)
theorem e108_18 : rf d 108 18 ls s h = rf d 108 19 ls (.int 1 :: s) h := rf_pure (i := .iconst (1)) (len := 1) (okD_ok (by decide +kernel)) rfl
theorem e108_19 : rf d 108 19 [some (.ref a), l1, l2, l3, l4, l5] s h = rf d 108 20 [some (.ref a), l1, l2, l3, l4, l5] (.ref a :: s) h := rf_pure (i := .aload_n 0) (len := 1) (okD_ok (by decide +kernel)) rfl
theorem e108_20 (ha : isC a) : rf d 108 20 ls (.ref a :: s) (SH n, I, L, R, nc, ns, nx) = rf d 108 23 ls (.int (I a 4) :: s) (SH n, I, L, R, nc, ns, nx) := g_I (idx := 32) (by decide +kernel) ow108 f_0_32 rfl (kdC0 ha) (geC ha)
theorem e108_23 : rf d 108 23 ls (.int y :: .int x :: s) h = rf d 108 24 ls (.int (x - y) :: s) h := rf_pure (i := .isub) (len := 1) (okD_ok (by decide +kernel)) rfl
theorem e108_24 (q : ia n a j) : rf d 108 24 ls (.int j :: .ref a :: s) (SH n, I, L, R, nc, ns, nx) = rf d 108 25 ls (.int (I a j.toNatClampNeg) :: s) (SH n, I, L, R, nc, ns, nx) := g_ial (by decide +kernel) q
theorem e108_25 : rf d 108 25 [some (.ref a), l1, l2, l3, l4, l5] s h = rf d 108 26 [some (.ref a), l1, l2, l3, l4, l5] (.ref a :: s) h := rf_pure (i := .aload_n 0) (len := 1) (okD_ok (by decide +kernel)) rfl
theorem e108_26 (hR : LYR R) (ha : isC a) : rf d 108 26 ls (.ref a :: s) (SH n, I, L, R, nc, ns, nx) = rf d 108 29 ls (.ref (a + 13) :: s) (SH n, I, L, R, nc, ns, nx) := g_R (idx := 38) (by decide +kernel) ow108 f_0_38 rfl (kdC0 ha) (geC ha) (lyC6 hR ha)
theorem e108_29 : rf d 108 29 ls s h = rf d 108 30 ls (.int 1 :: s) h := rf_pure (i := .iconst (1)) (len := 1) (okD_ok (by decide +kernel)) rfl
theorem e108_30 : rf d 108 30 [some (.ref a), l1, l2, l3, l4, l5] s h = rf d 108 31 [some (.ref a), l1, l2, l3, l4, l5] (.ref a :: s) h := rf_pure (i := .aload_n 0) (len := 1) (okD_ok (by decide +kernel)) rfl
theorem e108_31 (ha : isC a) : rf d 108 31 ls (.ref a :: s) (SH n, I, L, R, nc, ns, nx) = rf d 108 34 ls (.int (I a 4) :: s) (SH n, I, L, R, nc, ns, nx) := g_I (idx := 32) (by decide +kernel) ow108 f_0_32 rfl (kdC0 ha) (geC ha)
theorem e108_34 : rf d 108 34 ls (.int y :: .int x :: s) h = rf d 108 35 ls (.int (x - y) :: s) h := rf_pure (i := .isub) (len := 1) (okD_ok (by decide +kernel)) rfl
theorem e108_35 (q : ia n a j) : rf d 108 35 ls (.int j :: .ref a :: s) (SH n, I, L, R, nc, ns, nx) = rf d 108 36 ls (.int (I a j.toNatClampNeg) :: s) (SH n, I, L, R, nc, ns, nx) := g_ial (by decide +kernel) q
theorem e108_36 : rf d 108 36 ls (.int y :: .int x :: s) h = rf d 108 37 ls (.int (x &&& y) :: s) h := rf_pure (i := .iand) (len := 1) (okD_ok (by decide +kernel)) rfl
theorem e108_37 (hn : ip_nl l2 = true) : rf d 108 37 [l0, l1, l2, l3, l4, l5] (.int x :: s) h = rf d 108 38 [l0, l1, l2, some (.int x), l4, l5] s h := g_sti (i := .istore_n 3) (len := 1) (q := 2) (p := 1) (by decide +kernel) rfl rfl hn
theorem e108_38 : rf d 108 38 [some (.ref a), l1, l2, l3, l4, l5] s h = rf d 108 39 [some (.ref a), l1, l2, l3, l4, l5] (.ref a :: s) h := rf_pure (i := .aload_n 0) (len := 1) (okD_ok (by decide +kernel)) rfl
theorem e108_39 (hR : LYR R) (ha : isC a) : rf d 108 39 ls (.ref a :: s) (SH n, I, L, R, nc, ns, nx) = rf d 108 42 ls (.ref (a + 15) :: s) (SH n, I, L, R, nc, ns, nx) := g_R (idx := 45) (by decide +kernel) ow108 f_0_45 rfl (kdC0 ha) (geC ha) (lyC13 hR ha)
theorem e108_42 : rf d 108 42 [some (.ref a), l1, l2, l3, l4, l5] s h = rf d 108 43 [some (.ref a), l1, l2, l3, l4, l5] (.ref a :: s) h := rf_pure (i := .aload_n 0) (len := 1) (okD_ok (by decide +kernel)) rfl
theorem e108_43 (ha : isC a) : rf d 108 43 ls (.ref a :: s) (SH n, I, L, R, nc, ns, nx) = rf d 108 46 ls (.int (I a 4) :: s) (SH n, I, L, R, nc, ns, nx) := g_I (idx := 32) (by decide +kernel) ow108 f_0_32 rfl (kdC0 ha) (geC ha)
theorem e108_46 (q : ia n a j) : rf d 108 46 ls (.int j :: .ref a :: s) (SH n, I, L, R, nc, ns, nx) = rf d 108 47 ls (.int (I a j.toNatClampNeg) :: s) (SH n, I, L, R, nc, ns, nx) := g_ial (by decide +kernel) q
theorem e108_47 : rf d 108 47 [some (.ref a), l1, l2, l3, l4, l5] s h = rf d 108 48 [some (.ref a), l1, l2, l3, l4, l5] (.ref a :: s) h := rf_pure (i := .aload_n 0) (len := 1) (okD_ok (by decide +kernel)) rfl
theorem e108_48 (hR : LYR R) (ha : isC a) : rf d 108 48 ls (.ref a :: s) (SH n, I, L, R, nc, ns, nx) = rf d 108 51 ls (.ref (a + 13) :: s) (SH n, I, L, R, nc, ns, nx) := g_R (idx := 38) (by decide +kernel) ow108 f_0_38 rfl (kdC0 ha) (geC ha) (lyC6 hR ha)
theorem e108_51 : rf d 108 51 [some (.ref a), l1, l2, l3, l4, l5] s h = rf d 108 52 [some (.ref a), l1, l2, l3, l4, l5] (.ref a :: s) h := rf_pure (i := .aload_n 0) (len := 1) (okD_ok (by decide +kernel)) rfl
theorem e108_52 (ha : isC a) : rf d 108 52 ls (.ref a :: s) (SH n, I, L, R, nc, ns, nx) = rf d 108 55 ls (.int (I a 4) :: s) (SH n, I, L, R, nc, ns, nx) := g_I (idx := 32) (by decide +kernel) ow108 f_0_32 rfl (kdC0 ha) (geC ha)
theorem e108_55 (q : ia n a j) : rf d 108 55 ls (.int j :: .ref a :: s) (SH n, I, L, R, nc, ns, nx) = rf d 108 56 ls (.int (I a j.toNatClampNeg) :: s) (SH n, I, L, R, nc, ns, nx) := g_ial (by decide +kernel) q
theorem e108_56 : rf d 108 56 ls (.int y :: .int x :: s) h = rf d 108 57 ls (.int (x &&& y) :: s) h := rf_pure (i := .iand) (len := 1) (okD_ok (by decide +kernel)) rfl
theorem e108_57 (hn : ip_nl l3 = true) : rf d 108 57 [l0, l1, l2, l3, l4, l5] (.int x :: s) h = rf d 108 59 [l0, l1, l2, l3, some (.int x), l5] s h := g_sti (i := .istore 4) (len := 2) (q := 3) (p := 2) (by decide +kernel) rfl rfl hn
theorem e108_59 : rf d 108 59 [some (.ref a), l1, l2, l3, l4, l5] s h = rf d 108 60 [some (.ref a), l1, l2, l3, l4, l5] (.ref a :: s) h := rf_pure (i := .aload_n 0) (len := 1) (okD_ok (by decide +kernel)) rfl
theorem e108_60 : rf d 108 60 [some (.ref a), l1, l2, l3, l4, l5] s h = rf d 108 61 [some (.ref a), l1, l2, l3, l4, l5] (.ref a :: s) h := rf_pure (i := .aload_n 0) (len := 1) (okD_ok (by decide +kernel)) rfl
theorem e108_61 : rf d 108 61 [l0, l1, l2, some (.int x), l4, l5] s h = rf d 108 62 [l0, l1, l2, some (.int x), l4, l5] (.int x :: s) h := rf_pure (i := .iload_n 3) (len := 1) (okD_ok (by decide +kernel)) rfl
theorem e108_62 : rf d 108 62 [some (.ref a), l1, l2, l3, l4, l5] s h = rf d 108 63 [some (.ref a), l1, l2, l3, l4, l5] (.ref a :: s) h := rf_pure (i := .aload_n 0) (len := 1) (okD_ok (by decide +kernel)) rfl
theorem e108_63 (hb : isC b) (hcat : ip_cat s ≤ 8) : rf (d + 1) 108 63 ls (.ref b :: s) (SH n, I, L, R, nc, ns, nx) = rf_k (d + 1) 108 63 ls s (cf d 109 [.ref b] (SH n, I, L, R, nc, ns, nx)) := g_cv (idx := 122) (t := 0) [] (by decide +kernel) ow108 ms_0_122 mt_0_122 cy109_0 rfl rfl mL109 rfl (kdC0 hb) (geC hb) hcat
theorem e108_66 : rf d 108 66 ls (.int y :: .int x :: s) h = rf d 108 67 ls (.int (x &&& y) :: s) h := rf_pure (i := .iand) (len := 1) (okD_ok (by decide +kernel)) rfl
theorem e108_67 : rf d 108 67 [l0, l1, l2, l3, some (.int x), l5] s h = rf d 108 69 [l0, l1, l2, l3, some (.int x), l5] (.int x :: s) h := rf_pure (i := .iload 4) (len := 2) (okD_ok (by decide +kernel)) rfl
theorem e108_69 : rf d 108 69 [some (.ref a), l1, l2, l3, l4, l5] s h = rf d 108 70 [some (.ref a), l1, l2, l3, l4, l5] (.ref a :: s) h := rf_pure (i := .aload_n 0) (len := 1) (okD_ok (by decide +kernel)) rfl
theorem e108_70 (hb : isC b) (hcat : ip_cat s ≤ 8) : rf (d + 1) 108 70 ls (.ref b :: s) (SH n, I, L, R, nc, ns, nx) = rf_k (d + 1) 108 70 ls s (cf d 110 [.ref b] (SH n, I, L, R, nc, ns, nx)) := g_cv (idx := 126) (t := 0) [] (by decide +kernel) ow108 ms_0_126 mt_0_126 cy110_0 rfl rfl mL110 rfl (kdC0 hb) (geC hb) hcat
theorem e108_73 : rf d 108 73 ls (.int y :: .int x :: s) h = rf d 108 74 ls (.int (x &&& y) :: s) h := rf_pure (i := .iand) (len := 1) (okD_ok (by decide +kernel)) rfl
theorem e108_74 (hb : isC b) (hcat : ip_cat s ≤ 8) : rf (d + 1) 108 74 ls (.int x1 :: .int x0 :: .ref b :: s) (SH n, I, L, R, nc, ns, nx) = rf_k (d + 1) 108 74 ls s (cf d 111 [.ref b, .int x0, .int x1] (SH n, I, L, R, nc, ns, nx)) := g_cv (idx := 129) (t := 0) [.int x1, .int x0] (by decide +kernel) ow108 ms_0_129 mt_0_129 cy111_0 rfl rfl mL111 rfl (kdC0 hb) (geC hb) hcat
theorem e108_77 (ha : isC a) : rf d 108 77 ls (.int x :: .ref a :: s) (SH n, I, L, R, nc, ns, nx) = rf d 108 80 ls s (SH n, ip_up I a 8 x, L, R, nc, ns, nx) := g_pI (idx := 132) (by decide +kernel) ow108 f_0_132 rfl (by decide +kernel) (kdC0 ha) (geC ha)
theorem e108_80 : rf d 108 80 [some (.ref a), l1, l2, l3, l4, l5] s h = rf d 108 81 [some (.ref a), l1, l2, l3, l4, l5] (.ref a :: s) h := rf_pure (i := .aload_n 0) (len := 1) (okD_ok (by decide +kernel)) rfl
theorem e108_81 : rf d 108 81 [some (.ref a), l1, l2, l3, l4, l5] s h = rf d 108 82 [some (.ref a), l1, l2, l3, l4, l5] (.ref a :: s) h := rf_pure (i := .aload_n 0) (len := 1) (okD_ok (by decide +kernel)) rfl
theorem e108_82 (ha : isC a) : rf d 108 82 ls (.ref a :: s) (SH n, I, L, R, nc, ns, nx) = rf d 108 85 ls (.int (I a 8) :: s) (SH n, I, L, R, nc, ns, nx) := g_I (idx := 132) (by decide +kernel) ow108 f_0_132 rfl (kdC0 ha) (geC ha)
theorem e108_85 : rf d 108 85 ls (.int x :: s) h = if ¬ x = 0 then rf d 108 92 ls s h else rf d 108 88 ls s h := g_if (c := .ne) (off := 7) _ (by decide +kernel) rfl cmp_d
theorem e108_88 : rf d 108 88 [l0, l1, l2, some (.int x), l4, l5] s h = rf d 108 89 [l0, l1, l2, some (.int x), l4, l5] (.int x :: s) h := rf_pure (i := .iload_n 3) (len := 1) (okD_ok (by decide +kernel)) rfl
theorem e108_89 : rf d 108 89 ls s h = rf d 108 96 ls s h := rf_goto ⟨okD_ok (i := .goto (7)) (len := 3) (by decide +kernel), rfl⟩
theorem e108_92 : rf d 108 92 [l0, l1, l2, some (.int x), l4, l5] s h = rf d 108 93 [l0, l1, l2, some (.int x), l4, l5] (.int x :: s) h := rf_pure (i := .iload_n 3) (len := 1) (okD_ok (by decide +kernel)) rfl
theorem e108_93 : rf d 108 93 [l0, l1, l2, l3, some (.int x), l5] s h = rf d 108 95 [l0, l1, l2, l3, some (.int x), l5] (.int x :: s) h := rf_pure (i := .iload 4) (len := 2) (okD_ok (by decide +kernel)) rfl
theorem e108_95 : rf d 108 95 ls (.int y :: .int x :: s) h = rf d 108 96 ls (.int (x ||| y) :: s) h := rf_pure (i := .ior) (len := 1) (okD_ok (by decide +kernel)) rfl
theorem e108_96 (ha : isC a) : rf d 108 96 ls (.int x :: .ref a :: s) (SH n, I, L, R, nc, ns, nx) = rf d 108 99 ls s (SH n, ip_up I a 9 x, L, R, nc, ns, nx) := g_pI (idx := 133) (by decide +kernel) ow108 f_0_133 rfl (by decide +kernel) (kdC0 ha) (geC ha)
theorem e108_99 : rf d 108 99 [some (.ref a), l1, l2, l3, l4, l5] s h = rf d 108 100 [some (.ref a), l1, l2, l3, l4, l5] (.ref a :: s) h := rf_pure (i := .aload_n 0) (len := 1) (okD_ok (by decide +kernel)) rfl
theorem e108_100 : rf d 108 100 [some (.ref a), l1, l2, l3, l4, l5] s h = rf d 108 101 [some (.ref a), l1, l2, l3, l4, l5] (.ref a :: s) h := rf_pure (i := .aload_n 0) (len := 1) (okD_ok (by decide +kernel)) rfl
theorem e108_101 (ha : isC a) : rf d 108 101 ls (.ref a :: s) (SH n, I, L, R, nc, ns, nx) = rf d 108 104 ls (.int (I a 9) :: s) (SH n, I, L, R, nc, ns, nx) := g_I (idx := 133) (by decide +kernel) ow108 f_0_133 rfl (kdC0 ha) (geC ha)
theorem e108_104 : rf d 108 104 [some (.ref a), l1, l2, l3, l4, l5] s h = rf d 108 105 [some (.ref a), l1, l2, l3, l4, l5] (.ref a :: s) h := rf_pure (i := .aload_n 0) (len := 1) (okD_ok (by decide +kernel)) rfl
theorem e108_105 (hR : LYR R) (ha : isC a) : rf d 108 105 ls (.ref a :: s) (SH n, I, L, R, nc, ns, nx) = rf d 108 108 ls (.ref (a + 14) :: s) (SH n, I, L, R, nc, ns, nx) := g_R (idx := 42) (by decide +kernel) ow108 f_0_42 rfl (kdC0 ha) (geC ha) (lyC7 hR ha)
theorem e108_108 : rf d 108 108 ls s h = rf d 108 109 ls (.int 0 :: s) h := rf_pure (i := .iconst (0)) (len := 1) (okD_ok (by decide +kernel)) rfl
theorem e108_109 (q : ia n a j) : rf d 108 109 ls (.int j :: .ref a :: s) (SH n, I, L, R, nc, ns, nx) = rf d 108 110 ls (.int (I a j.toNatClampNeg) :: s) (SH n, I, L, R, nc, ns, nx) := g_ial (by decide +kernel) q
theorem e108_110 : rf d 108 110 [some (.ref a), l1, l2, l3, l4, l5] s h = rf d 108 111 [some (.ref a), l1, l2, l3, l4, l5] (.ref a :: s) h := rf_pure (i := .aload_n 0) (len := 1) (okD_ok (by decide +kernel)) rfl
theorem e108_111 (hR : LYR R) (ha : isC a) : rf d 108 111 ls (.ref a :: s) (SH n, I, L, R, nc, ns, nx) = rf d 108 114 ls (.ref (a + 14) :: s) (SH n, I, L, R, nc, ns, nx) := g_R (idx := 42) (by decide +kernel) ow108 f_0_42 rfl (kdC0 ha) (geC ha) (lyC7 hR ha)
theorem e108_114 : rf d 108 114 ls s h = rf d 108 115 ls (.int 1 :: s) h := rf_pure (i := .iconst (1)) (len := 1) (okD_ok (by decide +kernel)) rfl
theorem e108_115 (q : ia n a j) : rf d 108 115 ls (.int j :: .ref a :: s) (SH n, I, L, R, nc, ns, nx) = rf d 108 116 ls (.int (I a j.toNatClampNeg) :: s) (SH n, I, L, R, nc, ns, nx) := g_ial (by decide +kernel) q
theorem e108_116 : rf d 108 116 ls (.int y :: .int x :: s) h = rf d 108 117 ls (.int (x ||| y) :: s) h := rf_pure (i := .ior) (len := 1) (okD_ok (by decide +kernel)) rfl
theorem e108_117 : rf d 108 117 ls (.int y :: .int x :: s) h = rf d 108 118 ls (.int (x &&& y) :: s) h := rf_pure (i := .iand) (len := 1) (okD_ok (by decide +kernel)) rfl
theorem e108_118 (ha : isC a) : rf d 108 118 ls (.int x :: .ref a :: s) (SH n, I, L, R, nc, ns, nx) = rf d 108 121 ls s (SH n, ip_up I a 10 x, L, R, nc, ns, nx) := g_pI (idx := 136) (by decide +kernel) ow108 f_0_136 rfl (by decide +kernel) (kdC0 ha) (geC ha)
theorem e108_121 : rf d 108 121 [some (.ref a), l1, l2, l3, l4, l5] s h = rf d 108 122 [some (.ref a), l1, l2, l3, l4, l5] (.ref a :: s) h := rf_pure (i := .aload_n 0) (len := 1) (okD_ok (by decide +kernel)) rfl
theorem e108_122 (ha : isC a) : rf d 108 122 ls (.ref a :: s) (SH n, I, L, R, nc, ns, nx) = rf d 108 125 ls (.int (I a 8) :: s) (SH n, I, L, R, nc, ns, nx) := g_I (idx := 132) (by decide +kernel) ow108 f_0_132 rfl (kdC0 ha) (geC ha)
theorem e108_125 : rf d 108 125 ls (.int x :: s) h = if x = 0 then rf d 108 136 ls s h else rf d 108 128 ls s h := g_if (c := .eq) (off := 11) _ (by decide +kernel) rfl cmp_d
theorem e108_128 : rf d 108 128 [some (.ref a), l1, l2, l3, l4, l5] s h = rf d 108 129 [some (.ref a), l1, l2, l3, l4, l5] (.ref a :: s) h := rf_pure (i := .aload_n 0) (len := 1) (okD_ok (by decide +kernel)) rfl
theorem e108_129 (ha : isC a) : rf d 108 129 ls (.ref a :: s) (SH n, I, L, R, nc, ns, nx) = rf d 108 132 ls (.int (I a 8) :: s) (SH n, I, L, R, nc, ns, nx) := g_I (idx := 132) (by decide +kernel) ow108 f_0_132 rfl (kdC0 ha) (geC ha)
theorem e108_132 : rf d 108 132 ls s h = rf d 108 133 ls (.int 1 :: s) h := rf_pure (i := .iconst (1)) (len := 1) (okD_ok (by decide +kernel)) rfl
theorem e108_133 : rf d 108 133 ls (.int y :: .int x :: s) h = if ¬ x = y then rf d 108 140 ls s h else rf d 108 136 ls s h := g_ic (c := .ne) (off := 7) _ (by decide +kernel) rfl cmp_d
theorem e108_136 : rf d 108 136 ls s h = rf d 108 137 ls (.int 1 :: s) h := rf_pure (i := .iconst (1)) (len := 1) (okD_ok (by decide +kernel)) rfl
theorem e108_137 : rf d 108 137 ls s h = rf d 108 141 ls s h := rf_goto ⟨okD_ok (i := .goto (4)) (len := 3) (by decide +kernel), rfl⟩
theorem e108_140 : rf d 108 140 ls s h = rf d 108 141 ls (.int 0 :: s) h := rf_pure (i := .iconst (0)) (len := 1) (okD_ok (by decide +kernel)) rfl
theorem e108_141 (hn : ip_nl l4 = true) : rf d 108 141 [l0, l1, l2, l3, l4, l5] (.int x :: s) h = rf d 108 143 [l0, l1, l2, l3, l4, some (.int x)] s h := g_sti (i := .istore 5) (len := 2) (q := 4) (p := 2) (by decide +kernel) rfl rfl hn
theorem e108_143 : rf d 108 143 [some (.ref a), l1, l2, l3, l4, l5] s h = rf d 108 144 [some (.ref a), l1, l2, l3, l4, l5] (.ref a :: s) h := rf_pure (i := .aload_n 0) (len := 1) (okD_ok (by decide +kernel)) rfl
theorem e108_144 : rf d 108 144 [l0, l1, l2, l3, l4, some (.int x)] s h = rf d 108 146 [l0, l1, l2, l3, l4, some (.int x)] (.int x :: s) h := rf_pure (i := .iload 5) (len := 2) (okD_ok (by decide +kernel)) rfl
theorem e108_146 : rf d 108 146 ls (.int x :: s) h = if x = 0 then rf d 108 159 ls s h else rf d 108 149 ls s h := g_if (c := .eq) (off := 13) _ (by decide +kernel) rfl cmp_d
theorem e108_149 : rf d 108 149 [some (.ref a), l1, l2, l3, l4, l5] s h = rf d 108 150 [some (.ref a), l1, l2, l3, l4, l5] (.ref a :: s) h := rf_pure (i := .aload_n 0) (len := 1) (okD_ok (by decide +kernel)) rfl
theorem e108_150 (ha : isC a) : rf d 108 150 ls (.ref a :: s) (SH n, I, L, R, nc, ns, nx) = rf d 108 153 ls (ip_rf (R a 1) :: s) (SH n, I, L, R, nc, ns, nx) := g_R (idx := 21) (by decide +kernel) ow108 f_0_21 rfl (kdC0 ha) (geC ha) rfl
theorem e108_153 (ha : isN a) : rf d 108 153 ls (.ref a :: s) (SH n, I, L, R, nc, ns, nx) = rf d 108 156 ls (.int (I a 6) :: s) (SH n, I, L, R, nc, ns, nx) := g_I (idx := 55) (by decide +kernel) ow108 f_0_55 rfl (kdN0 ha) (geN ha)
theorem e108_156 : rf d 108 156 ls s h = rf d 108 167 ls s h := rf_goto ⟨okD_ok (i := .goto (11)) (len := 3) (by decide +kernel), rfl⟩
theorem e108_159 : rf d 108 159 [some (.ref a), l1, l2, l3, l4, l5] s h = rf d 108 160 [some (.ref a), l1, l2, l3, l4, l5] (.ref a :: s) h := rf_pure (i := .aload_n 0) (len := 1) (okD_ok (by decide +kernel)) rfl
theorem e108_160 : rf d 108 160 [some (.ref a), l1, l2, l3, l4, l5] s h = rf d 108 161 [some (.ref a), l1, l2, l3, l4, l5] (.ref a :: s) h := rf_pure (i := .aload_n 0) (len := 1) (okD_ok (by decide +kernel)) rfl
theorem e108_161 (ha : isC a) : rf d 108 161 ls (.ref a :: s) (SH n, I, L, R, nc, ns, nx) = rf d 108 164 ls (.int (I a 10) :: s) (SH n, I, L, R, nc, ns, nx) := g_I (idx := 136) (by decide +kernel) ow108 f_0_136 rfl (kdC0 ha) (geC ha)
theorem e108_164 (hb : isC b) (hcat : ip_cat s ≤ 8) : rf (d + 1) 108 164 ls (.int x0 :: .ref b :: s) (SH n, I, L, R, nc, ns, nx) = rf_k (d + 1) 108 164 ls s (cf d 113 [.ref b, .int x0] (SH n, I, L, R, nc, ns, nx)) := g_cv (idx := 116) (t := 0) [.int x0] (by decide +kernel) ow108 ms_0_116 mt_0_116 cy113_0 rfl rfl mL113 rfl (kdC0 hb) (geC hb) hcat
theorem e108_167 (ha : isC a) : rf d 108 167 ls (.int x :: .ref a :: s) (SH n, I, L, R, nc, ns, nx) = rf d 108 170 ls s (SH n, ip_up I a 12 x, L, R, nc, ns, nx) := g_pI (idx := 139) (by decide +kernel) ow108 f_0_139 rfl (by decide +kernel) (kdC0 ha) (geC ha)
theorem e108_170 : rf d 108 170 [some (.ref a), l1, l2, l3, l4, l5] s h = rf d 108 171 [some (.ref a), l1, l2, l3, l4, l5] (.ref a :: s) h := rf_pure (i := .aload_n 0) (len := 1) (okD_ok (by decide +kernel)) rfl
theorem e108_171 : rf d 108 171 [l0, l1, l2, l3, l4, some (.int x)] s h = rf d 108 173 [l0, l1, l2, l3, l4, some (.int x)] (.int x :: s) h := rf_pure (i := .iload 5) (len := 2) (okD_ok (by decide +kernel)) rfl
theorem e108_173 : rf d 108 173 ls (.int x :: s) h = if x = 0 then rf d 108 180 ls s h else rf d 108 176 ls s h := g_if (c := .eq) (off := 7) _ (by decide +kernel) rfl cmp_d
theorem e108_176 : rf d 108 176 ls s h = rf d 108 177 ls (.int 0 :: s) h := rf_pure (i := .iconst (0)) (len := 1) (okD_ok (by decide +kernel)) rfl
theorem e108_177 : rf d 108 177 ls s h = rf d 108 196 ls s h := rf_goto ⟨okD_ok (i := .goto (19)) (len := 3) (by decide +kernel), rfl⟩
theorem e108_180 : rf d 108 180 [some (.ref a), l1, l2, l3, l4, l5] s h = rf d 108 181 [some (.ref a), l1, l2, l3, l4, l5] (.ref a :: s) h := rf_pure (i := .aload_n 0) (len := 1) (okD_ok (by decide +kernel)) rfl
theorem e108_181 (ha : isC a) : rf d 108 181 ls (.ref a :: s) (SH n, I, L, R, nc, ns, nx) = rf d 108 184 ls (.int (I a 10) :: s) (SH n, I, L, R, nc, ns, nx) := g_I (idx := 136) (by decide +kernel) ow108 f_0_136 rfl (kdC0 ha) (geC ha)
theorem e108_184 : rf d 108 184 [some (.ref a), l1, l2, l3, l4, l5] s h = rf d 108 185 [some (.ref a), l1, l2, l3, l4, l5] (.ref a :: s) h := rf_pure (i := .aload_n 0) (len := 1) (okD_ok (by decide +kernel)) rfl
theorem e108_185 (ha : isC a) : rf d 108 185 ls (.ref a :: s) (SH n, I, L, R, nc, ns, nx) = rf d 108 188 ls (.int (I a 5) :: s) (SH n, I, L, R, nc, ns, nx) := g_I (idx := 35) (by decide +kernel) ow108 f_0_35 rfl (kdC0 ha) (geC ha)
theorem e108_188 : rf d 108 188 ls (.int y :: .int x :: s) h = rf d 108 189 ls (.int (x &&& y) :: s) h := rf_pure (i := .iand) (len := 1) (okD_ok (by decide +kernel)) rfl
theorem e108_189 : rf d 108 189 [some (.ref a), l1, l2, l3, l4, l5] s h = rf d 108 190 [some (.ref a), l1, l2, l3, l4, l5] (.ref a :: s) h := rf_pure (i := .aload_n 0) (len := 1) (okD_ok (by decide +kernel)) rfl
theorem e108_190 (ha : isC a) : rf d 108 190 ls (.ref a :: s) (SH n, I, L, R, nc, ns, nx) = rf d 108 193 ls (.int (I a 12) :: s) (SH n, I, L, R, nc, ns, nx) := g_I (idx := 139) (by decide +kernel) ow108 f_0_139 rfl (kdC0 ha) (geC ha)
theorem e108_193 : rf d 108 193 ls s h = rf d 108 194 ls (.int (-1) :: s) h := rf_pure (i := .iconst (-1)) (len := 1) (okD_ok (by decide +kernel)) rfl
theorem e108_194 : rf d 108 194 ls (.int y :: .int x :: s) h = rf d 108 195 ls (.int (x ^^^ y) :: s) h := rf_pure (i := .ixor) (len := 1) (okD_ok (by decide +kernel)) rfl
theorem e108_195 : rf d 108 195 ls (.int y :: .int x :: s) h = rf d 108 196 ls (.int (x &&& y) :: s) h := rf_pure (i := .iand) (len := 1) (okD_ok (by decide +kernel)) rfl
theorem e108_196 (ha : isC a) : rf d 108 196 ls (.int x :: .ref a :: s) (SH n, I, L, R, nc, ns, nx) = rf d 108 199 ls s (SH n, ip_up I a 11 x, L, R, nc, ns, nx) := g_pI (idx := 140) (by decide +kernel) ow108 f_0_140 rfl (by decide +kernel) (kdC0 ha) (geC ha)
theorem e108_199 : rf d 108 199 ls [] h = some (.inl none, h) := g_rv (by decide +kernel) rt108
theorem en109 : cf d 109 [.ref a] h = rf d 109 0 [some (.ref a)] [] h := rfl
theorem e109_0 : rf d 109 0 [some (.ref a)] s h = rf d 109 1 [some (.ref a)] (.ref a :: s) h := rf_pure (i := .aload_n 0) (len := 1) (okD_ok (by decide +kernel)) rfl
theorem e109_1 (hR : LYR R) (ha : isC a) : rf d 109 1 ls (.ref a :: s) (SH n, I, L, R, nc, ns, nx) = rf d 109 4 ls (.ref (a + 14) :: s) (SH n, I, L, R, nc, ns, nx) := g_R (idx := 42) (by decide +kernel) ow109 f_0_42 rfl (kdC0 ha) (geC ha) (lyC7 hR ha)
theorem e109_4 : rf d 109 4 ls s h = rf d 109 5 ls (.int 1 :: s) h := rf_pure (i := .iconst (1)) (len := 1) (okD_ok (by decide +kernel)) rfl
theorem e109_5 : rf d 109 5 [some (.ref a)] s h = rf d 109 6 [some (.ref a)] (.ref a :: s) h := rf_pure (i := .aload_n 0) (len := 1) (okD_ok (by decide +kernel)) rfl
theorem e109_6 (ha : isC a) : rf d 109 6 ls (.ref a :: s) (SH n, I, L, R, nc, ns, nx) = rf d 109 9 ls (.int (I a 4) :: s) (SH n, I, L, R, nc, ns, nx) := g_I (idx := 32) (by decide +kernel) ow109 f_0_32 rfl (kdC0 ha) (geC ha)
theorem e109_9 : rf d 109 9 ls (.int y :: .int x :: s) h = rf d 109 10 ls (.int (x - y) :: s) h := rf_pure (i := .isub) (len := 1) (okD_ok (by decide +kernel)) rfl
theorem e109_10 (q : ia n a j) : rf d 109 10 ls (.int j :: .ref a :: s) (SH n, I, L, R, nc, ns, nx) = rf d 109 11 ls (.int (I a j.toNatClampNeg) :: s) (SH n, I, L, R, nc, ns, nx) := g_ial (by decide +kernel) q
theorem e109_11 : rf d 109 11 ls [.int x] h = some (.inl (some (.int x)), h) := g_ri (by decide +kernel) rt109
theorem en110 : cf d 110 [.ref a] h = rf d 110 0 [some (.ref a)] [] h := rfl
theorem e110_0 : rf d 110 0 [some (.ref a)] s h = rf d 110 1 [some (.ref a)] (.ref a :: s) h := rf_pure (i := .aload_n 0) (len := 1) (okD_ok (by decide +kernel)) rfl
theorem e110_1 (hR : LYR R) (ha : isC a) : rf d 110 1 ls (.ref a :: s) (SH n, I, L, R, nc, ns, nx) = rf d 110 4 ls (.ref (a + 14) :: s) (SH n, I, L, R, nc, ns, nx) := g_R (idx := 42) (by decide +kernel) ow110 f_0_42 rfl (kdC0 ha) (geC ha) (lyC7 hR ha)
theorem e110_4 : rf d 110 4 [some (.ref a)] s h = rf d 110 5 [some (.ref a)] (.ref a :: s) h := rf_pure (i := .aload_n 0) (len := 1) (okD_ok (by decide +kernel)) rfl
theorem e110_5 (ha : isC a) : rf d 110 5 ls (.ref a :: s) (SH n, I, L, R, nc, ns, nx) = rf d 110 8 ls (.int (I a 4) :: s) (SH n, I, L, R, nc, ns, nx) := g_I (idx := 32) (by decide +kernel) ow110 f_0_32 rfl (kdC0 ha) (geC ha)
theorem e110_8 (q : ia n a j) : rf d 110 8 ls (.int j :: .ref a :: s) (SH n, I, L, R, nc, ns, nx) = rf d 110 9 ls (.int (I a j.toNatClampNeg) :: s) (SH n, I, L, R, nc, ns, nx) := g_ial (by decide +kernel) q
theorem e110_9 : rf d 110 9 ls [.int x] h = some (.inl (some (.int x)), h) := g_ri (by decide +kernel) rt110
theorem en111 : cf d 111 [.ref a, .int x0, .int x1] h = rf d 111 0 [some (.ref a), some (.int x0), some (.int x1), none] [] h := rfl
theorem e111_0 : rf d 111 0 [some (.ref a), l1, l2, l3] s h = rf d 111 1 [some (.ref a), l1, l2, l3] (.ref a :: s) h := rf_pure (i := .aload_n 0) (len := 1) (okD_ok (by decide +kernel)) rfl
theorem e111_1 : rf d 111 1 [l0, some (.int x), l2, l3] s h = rf d 111 2 [l0, some (.int x), l2, l3] (.int x :: s) h := rf_pure (i := .iload_n 1) (len := 1) (okD_ok (by decide +kernel)) rfl
theorem e111_2 (hb : isC b) (hcat : ip_cat s ≤ 8) : rf (d + 1) 111 2 ls (.int x0 :: .ref b :: s) (SH n, I, L, R, nc, ns, nx) = rf_k (d + 1) 111 2 ls s (cf d 112 [.ref b, .int x0] (SH n, I, L, R, nc, ns, nx)) := g_cv (idx := 119) (t := 0) [.int x0] (by decide +kernel) ow111 ms_0_119 mt_0_119 cy112_0 rfl rfl mL112 rfl (kdC0 hb) (geC hb) hcat
theorem e111_5 : rf d 111 5 [some (.ref a), l1, l2, l3] s h = rf d 111 6 [some (.ref a), l1, l2, l3] (.ref a :: s) h := rf_pure (i := .aload_n 0) (len := 1) (okD_ok (by decide +kernel)) rfl
theorem e111_6 (ha : isC a) : rf d 111 6 ls (.ref a :: s) (SH n, I, L, R, nc, ns, nx) = rf d 111 9 ls (.int (I a 4) :: s) (SH n, I, L, R, nc, ns, nx) := g_I (idx := 32) (by decide +kernel) ow111 f_0_32 rfl (kdC0 ha) (geC ha)
theorem e111_9 : rf d 111 9 ls (.int y :: .int x :: s) h = if ¬ x = y then rf d 111 14 ls s h else rf d 111 12 ls s h := g_ic (c := .ne) (off := 5) _ (by decide +kernel) rfl cmp_d
theorem e111_12 : rf d 111 12 ls s h = rf d 111 13 ls (.int 0 :: s) h := rf_pure (i := .iconst (0)) (len := 1) (okD_ok (by decide +kernel)) rfl
theorem e111_13 : rf d 111 13 ls [.int x] h = some (.inl (some (.int x)), h) := g_ri (by decide +kernel) rt111
theorem e111_14 : rf d 111 14 [some (.ref a), l1, l2, l3] s h = rf d 111 15 [some (.ref a), l1, l2, l3] (.ref a :: s) h := rf_pure (i := .aload_n 0) (len := 1) (okD_ok (by decide +kernel)) rfl
theorem e111_15 : rf d 111 15 [l0, some (.int x), l2, l3] s h = rf d 111 16 [l0, some (.int x), l2, l3] (.int x :: s) h := rf_pure (i := .iload_n 1) (len := 1) (okD_ok (by decide +kernel)) rfl
theorem e111_16 : rf d 111 16 [l0, l1, some (.int x), l3] s h = rf d 111 17 [l0, l1, some (.int x), l3] (.int x :: s) h := rf_pure (i := .iload_n 2) (len := 1) (okD_ok (by decide +kernel)) rfl
theorem e111_17 : rf d 111 17 ls (.int y :: .int x :: s) h = rf d 111 18 ls (.int (x ||| y) :: s) h := rf_pure (i := .ior) (len := 1) (okD_ok (by decide +kernel)) rfl
theorem e111_18 (hb : isC b) (hcat : ip_cat s ≤ 8) : rf (d + 1) 111 18 ls (.int x0 :: .ref b :: s) (SH n, I, L, R, nc, ns, nx) = rf_k (d + 1) 111 18 ls s (cf d 112 [.ref b, .int x0] (SH n, I, L, R, nc, ns, nx)) := g_cv (idx := 119) (t := 0) [.int x0] (by decide +kernel) ow111 ms_0_119 mt_0_119 cy112_0 rfl rfl mL112 rfl (kdC0 hb) (geC hb) hcat
theorem e111_21 (hn : ip_nl l2 = true) : rf d 111 21 [l0, l1, l2, l3] (.int x :: s) h = rf d 111 22 [l0, l1, l2, some (.int x)] s h := g_sti (i := .istore_n 3) (len := 1) (q := 2) (p := 1) (by decide +kernel) rfl rfl hn
theorem e111_22 : rf d 111 22 [l0, l1, l2, some (.int x)] s h = rf d 111 23 [l0, l1, l2, some (.int x)] (.int x :: s) h := rf_pure (i := .iload_n 3) (len := 1) (okD_ok (by decide +kernel)) rfl
theorem e111_23 : rf d 111 23 [some (.ref a), l1, l2, l3] s h = rf d 111 24 [some (.ref a), l1, l2, l3] (.ref a :: s) h := rf_pure (i := .aload_n 0) (len := 1) (okD_ok (by decide +kernel)) rfl
theorem e111_24 (ha : isC a) : rf d 111 24 ls (.ref a :: s) (SH n, I, L, R, nc, ns, nx) = rf d 111 27 ls (.int (I a 4) :: s) (SH n, I, L, R, nc, ns, nx) := g_I (idx := 32) (by decide +kernel) ow111 f_0_32 rfl (kdC0 ha) (geC ha)
theorem e111_27 : rf d 111 27 ls (.int y :: .int x :: s) h = if ¬ x = y then rf d 111 32 ls s h else rf d 111 30 ls s h := g_ic (c := .ne) (off := 5) _ (by decide +kernel) rfl cmp_d
theorem e111_30 : rf d 111 30 ls s h = rf d 111 31 ls (.int 1 :: s) h := rf_pure (i := .iconst (1)) (len := 1) (okD_ok (by decide +kernel)) rfl
theorem e111_31 : rf d 111 31 ls [.int x] h = some (.inl (some (.int x)), h) := g_ri (by decide +kernel) rt111
theorem e111_32 : rf d 111 32 [l0, l1, l2, some (.int x)] s h = rf d 111 33 [l0, l1, l2, some (.int x)] (.int x :: s) h := rf_pure (i := .iload_n 3) (len := 1) (okD_ok (by decide +kernel)) rfl
theorem e111_33 : rf d 111 33 ls s h = rf d 111 34 ls (.int (-1) :: s) h := rf_pure (i := .iconst (-1)) (len := 1) (okD_ok (by decide +kernel)) rfl
theorem e111_34 : rf d 111 34 ls (.int y :: .int x :: s) h = if ¬ x = y then rf d 111 41 ls s h else rf d 111 37 ls s h := g_ic (c := .ne) (off := 7) _ (by decide +kernel) rfl cmp_d
theorem e111_37 : rf d 111 37 ls s h = rf d 111 38 ls (.int 3 :: s) h := rf_pure (i := .iconst (3)) (len := 1) (okD_ok (by decide +kernel)) rfl
theorem e111_38 : rf d 111 38 ls s h = rf d 111 42 ls s h := rf_goto ⟨okD_ok (i := .goto (4)) (len := 3) (by decide +kernel), rfl⟩
theorem e111_41 : rf d 111 41 ls s h = rf d 111 42 ls (.int 2 :: s) h := rf_pure (i := .iconst (2)) (len := 1) (okD_ok (by decide +kernel)) rfl
theorem e111_42 : rf d 111 42 ls [.int x] h = some (.inl (some (.int x)), h) := g_ri (by decide +kernel) rt111
theorem en112 : cf d 112 [.ref a, .int x0] h = rf d 112 0 [some (.ref a), some (.int x0), none] [] h := rfl
theorem e112_0 : rf d 112 0 [some (.ref a), l1, l2] s h = rf d 112 1 [some (.ref a), l1, l2] (.ref a :: s) h := rf_pure (i := .aload_n 0) (len := 1) (okD_ok (by decide +kernel)) rfl
theorem e112_1 : rf d 112 1 [l0, some (.int x), l2] s h = rf d 112 2 [l0, some (.int x), l2] (.int x :: s) h := rf_pure (i := .iload_n 1) (len := 1) (okD_ok (by decide +kernel)) rfl
theorem e112_2 (hb : isC b) (hcat : ip_cat s ≤ 8) : rf (d + 1) 112 2 ls (.int x0 :: .ref b :: s) (SH n, I, L, R, nc, ns, nx) = rf_k (d + 1) 112 2 ls s (cf d 113 [.ref b, .int x0] (SH n, I, L, R, nc, ns, nx)) := g_cv (idx := 116) (t := 0) [.int x0] (by decide +kernel) ow112 ms_0_116 mt_0_116 cy113_0 rfl rfl mL113 rfl (kdC0 hb) (geC hb) hcat
theorem e112_5 (hn : ip_nl l1 = true) : rf d 112 5 [l0, l1, l2] (.int x :: s) h = rf d 112 6 [l0, l1, some (.int x)] s h := g_sti (i := .istore_n 2) (len := 1) (q := 1) (p := 1) (by decide +kernel) rfl rfl hn
theorem e112_6 : rf d 112 6 [some (.ref a), l1, l2] s h = rf d 112 7 [some (.ref a), l1, l2] (.ref a :: s) h := rf_pure (i := .aload_n 0) (len := 1) (okD_ok (by decide +kernel)) rfl
theorem e112_7 (ha : isC a) : rf d 112 7 ls (.ref a :: s) (SH n, I, L, R, nc, ns, nx) = rf d 112 10 ls (ip_rf (R a 0) :: s) (SH n, I, L, R, nc, ns, nx) := g_R (idx := 12) (by decide +kernel) ow112 f_0_12 rfl (kdC0 ha) (geC ha) rfl
theorem e112_10 : rf d 112 10 [some (.ref a), l1, l2] s h = rf d 112 11 [some (.ref a), l1, l2] (.ref a :: s) h := rf_pure (i := .aload_n 0) (len := 1) (okD_ok (by decide +kernel)) rfl
theorem e112_11 (ha : isC a) : rf d 112 11 ls (.ref a :: s) (SH n, I, L, R, nc, ns, nx) = rf d 112 14 ls (ip_rf (R a 1) :: s) (SH n, I, L, R, nc, ns, nx) := g_R (idx := 21) (by decide +kernel) ow112 f_0_21 rfl (kdC0 ha) (geC ha) rfl
theorem e112_14 (ha : isN a) : rf d 112 14 ls (.ref a :: s) (SH n, I, L, R, nc, ns, nx) = rf d 112 17 ls (.int (I a 4) :: s) (SH n, I, L, R, nc, ns, nx) := g_I (idx := 52) (by decide +kernel) ow112 f_0_52 rfl (kdN0 ha) (geN ha)
theorem e112_17 : rf d 112 17 [l0, some (.int x), l2] s h = rf d 112 18 [l0, some (.int x), l2] (.int x :: s) h := rf_pure (i := .iload_n 1) (len := 1) (okD_ok (by decide +kernel)) rfl
theorem e112_18 : rf d 112 18 [some (.ref a), l1, l2] s h = rf d 112 19 [some (.ref a), l1, l2] (.ref a :: s) h := rf_pure (i := .aload_n 0) (len := 1) (okD_ok (by decide +kernel)) rfl
theorem e112_19 (ha : isC a) : rf d 112 19 ls (.ref a :: s) (SH n, I, L, R, nc, ns, nx) = rf d 112 22 ls (.int (I a 5) :: s) (SH n, I, L, R, nc, ns, nx) := g_I (idx := 35) (by decide +kernel) ow112 f_0_35 rfl (kdC0 ha) (geC ha)
theorem e112_22 : rf d 112 22 ls (.int y :: .int x :: s) h = rf d 112 23 ls (.int (x &&& y) :: s) h := rf_pure (i := .iand) (len := 1) (okD_ok (by decide +kernel)) rfl
theorem e112_23 : rf d 112 23 ls (.int y :: .int x :: s) h = rf d 112 24 ls (.int (x ^^^ y) :: s) h := rf_pure (i := .ixor) (len := 1) (okD_ok (by decide +kernel)) rfl
theorem e112_24 : rf d 112 24 [l0, l1, some (.int x)] s h = rf d 112 25 [l0, l1, some (.int x)] (.int x :: s) h := rf_pure (i := .iload_n 2) (len := 1) (okD_ok (by decide +kernel)) rfl
theorem e112_25 (hb : isT b) (hcat : ip_cat s ≤ 8) : rf (d + 1) 112 25 ls (.int x1 :: .int x0 :: .ref b :: s) (SH n, I, L, R, nc, ns, nx) = rf_k (d + 1) 112 25 ls s (cf d 18 [.ref b, .int x0, .int x1] (SH n, I, L, R, nc, ns, nx)) := g_cv (idx := 58) (t := 6) [.int x1, .int x0] (by decide +kernel) ow112 ms_0_58 mt_0_58 cy18_6 rfl rfl mL18 rfl (kdT0 hb) (geT hb) hcat
theorem e112_28 : rf d 112 28 ls [.int x] h = some (.inl (some (.int x)), h) := g_ri (by decide +kernel) rt112
theorem en113 : cf d 113 [.ref a, .int x0] h = rf d 113 0 [some (.ref a), some (.int x0), none, none] [] h := rfl
theorem e113_0 : rf d 113 0 [some (.ref a), l1, l2, l3] s h = rf d 113 1 [some (.ref a), l1, l2, l3] (.ref a :: s) h := rf_pure (i := .aload_n 0) (len := 1) (okD_ok (by decide +kernel)) rfl
theorem e113_1 (ha : isC a) : rf d 113 1 ls (.ref a :: s) (SH n, I, L, R, nc, ns, nx) = rf d 113 4 ls (ip_rf (R a 1) :: s) (SH n, I, L, R, nc, ns, nx) := g_R (idx := 21) (by decide +kernel) ow113 f_0_21 rfl (kdC0 ha) (geC ha) rfl
theorem e113_4 (ha : isN a) : rf d 113 4 ls (.ref a :: s) (SH n, I, L, R, nc, ns, nx) = rf d 113 7 ls (.int (I a 6) :: s) (SH n, I, L, R, nc, ns, nx) := g_I (idx := 55) (by decide +kernel) ow113 f_0_55 rfl (kdN0 ha) (geN ha)
theorem e113_7 : rf d 113 7 [l0, some (.int x), l2, l3] s h = rf d 113 8 [l0, some (.int x), l2, l3] (.int x :: s) h := rf_pure (i := .iload_n 1) (len := 1) (okD_ok (by decide +kernel)) rfl
theorem e113_8 : rf d 113 8 [some (.ref a), l1, l2, l3] s h = rf d 113 9 [some (.ref a), l1, l2, l3] (.ref a :: s) h := rf_pure (i := .aload_n 0) (len := 1) (okD_ok (by decide +kernel)) rfl
theorem e113_9 (ha : isC a) : rf d 113 9 ls (.ref a :: s) (SH n, I, L, R, nc, ns, nx) = rf d 113 12 ls (.int (I a 5) :: s) (SH n, I, L, R, nc, ns, nx) := g_I (idx := 35) (by decide +kernel) ow113 f_0_35 rfl (kdC0 ha) (geC ha)
theorem e113_12 : rf d 113 12 ls s h = rf d 113 13 ls (.int (-1) :: s) h := rf_pure (i := .iconst (-1)) (len := 1) (okD_ok (by decide +kernel)) rfl
theorem e113_13 : rf d 113 13 ls (.int y :: .int x :: s) h = rf d 113 14 ls (.int (x ^^^ y) :: s) h := rf_pure (i := .ixor) (len := 1) (okD_ok (by decide +kernel)) rfl
theorem e113_14 : rf d 113 14 ls (.int y :: .int x :: s) h = rf d 113 15 ls (.int (x &&& y) :: s) h := rf_pure (i := .iand) (len := 1) (okD_ok (by decide +kernel)) rfl
theorem e113_15 : rf d 113 15 ls (.int y :: .int x :: s) h = rf d 113 16 ls (.int (x ||| y) :: s) h := rf_pure (i := .ior) (len := 1) (okD_ok (by decide +kernel)) rfl
theorem e113_16 (hn : ip_nl l1 = true) : rf d 113 16 [l0, l1, l2, l3] (.int x :: s) h = rf d 113 17 [l0, l1, some (.int x), l3] s h := g_sti (i := .istore_n 2) (len := 1) (q := 1) (p := 1) (by decide +kernel) rfl rfl hn
theorem e113_17 : rf d 113 17 ls s h = rf d 113 18 ls (.int 0 :: s) h := rf_pure (i := .iconst (0)) (len := 1) (okD_ok (by decide +kernel)) rfl
theorem e113_18 (hn : ip_nl l2 = true) : rf d 113 18 [l0, l1, l2, l3] (.int x :: s) h = rf d 113 19 [l0, l1, l2, some (.int x)] s h := g_sti (i := .istore_n 3) (len := 1) (q := 2) (p := 1) (by decide +kernel) rfl rfl hn
theorem e113_19 : rf d 113 19 [l0, l1, l2, some (.int x)] s h = rf d 113 20 [l0, l1, l2, some (.int x)] (.int x :: s) h := rf_pure (i := .iload_n 3) (len := 1) (okD_ok (by decide +kernel)) rfl
theorem e113_20 : rf d 113 20 [some (.ref a), l1, l2, l3] s h = rf d 113 21 [some (.ref a), l1, l2, l3] (.ref a :: s) h := rf_pure (i := .aload_n 0) (len := 1) (okD_ok (by decide +kernel)) rfl
theorem e113_21 (ha : isC a) : rf d 113 21 ls (.ref a :: s) (SH n, I, L, R, nc, ns, nx) = rf d 113 24 ls (ip_rf (R a 0) :: s) (SH n, I, L, R, nc, ns, nx) := g_R (idx := 12) (by decide +kernel) ow113 f_0_12 rfl (kdC0 ha) (geC ha) rfl
theorem e113_24 (ha : isT a) : rf d 113 24 ls (.ref a :: s) (SH n, I, L, R, nc, ns, nx) = rf d 113 27 ls (.int (I a 6) :: s) (SH n, I, L, R, nc, ns, nx) := g_I (idx := 77) (by decide +kernel) ow113 f_0_77 rfl (kdT0 ha) (geT ha)
theorem e113_27 : rf d 113 27 ls (.int y :: .int x :: s) h = if y ≤ x then rf d 113 56 ls s h else rf d 113 30 ls s h := g_ic (c := .ge) (off := 29) _ (by decide +kernel) rfl cmp_d
theorem e113_30 : rf d 113 30 [l0, some (.int x), l2, l3] s h = rf d 113 31 [l0, some (.int x), l2, l3] (.int x :: s) h := rf_pure (i := .iload_n 1) (len := 1) (okD_ok (by decide +kernel)) rfl
theorem e113_31 : rf d 113 31 ls s h = rf d 113 32 ls (.int 1 :: s) h := rf_pure (i := .iconst (1)) (len := 1) (okD_ok (by decide +kernel)) rfl
theorem e113_32 : rf d 113 32 [l0, l1, l2, some (.int x)] s h = rf d 113 33 [l0, l1, l2, some (.int x)] (.int x :: s) h := rf_pure (i := .iload_n 3) (len := 1) (okD_ok (by decide +kernel)) rfl
theorem e113_33 : rf d 113 33 ls (.int y :: .int x :: s) h = rf d 113 34 ls (.int (x <<< (y &&& 31)) :: s) h := rf_pure (i := .ishl) (len := 1) (okD_ok (by decide +kernel)) rfl
theorem e113_34 : rf d 113 34 ls (.int y :: .int x :: s) h = rf d 113 35 ls (.int (x &&& y) :: s) h := rf_pure (i := .iand) (len := 1) (okD_ok (by decide +kernel)) rfl
theorem e113_35 : rf d 113 35 ls (.int x :: s) h = if x = 0 then rf d 113 50 ls s h else rf d 113 38 ls s h := g_if (c := .eq) (off := 15) _ (by decide +kernel) rfl cmp_d
theorem e113_38 : rf d 113 38 [l0, l1, some (.int x), l3] s h = rf d 113 39 [l0, l1, some (.int x), l3] (.int x :: s) h := rf_pure (i := .iload_n 2) (len := 1) (okD_ok (by decide +kernel)) rfl
theorem e113_39 : rf d 113 39 [some (.ref a), l1, l2, l3] s h = rf d 113 40 [some (.ref a), l1, l2, l3] (.ref a :: s) h := rf_pure (i := .aload_n 0) (len := 1) (okD_ok (by decide +kernel)) rfl
theorem e113_40 (ha : isC a) : rf d 113 40 ls (.ref a :: s) (SH n, I, L, R, nc, ns, nx) = rf d 113 43 ls (ip_rf (R a 0) :: s) (SH n, I, L, R, nc, ns, nx) := g_R (idx := 12) (by decide +kernel) ow113 f_0_12 rfl (kdC0 ha) (geC ha) rfl
theorem e113_43 (hR : LYR R) (ha : isT a) : rf d 113 43 ls (.ref a :: s) (SH n, I, L, R, nc, ns, nx) = rf d 113 46 ls (.ref (a + 4) :: s) (SH n, I, L, R, nc, ns, nx) := g_R (idx := 113) (by decide +kernel) ow113 f_0_113 rfl (kdT0 ha) (geT ha) (lyT3 hR ha)
theorem e113_46 : rf d 113 46 [l0, l1, l2, some (.int x)] s h = rf d 113 47 [l0, l1, l2, some (.int x)] (.int x :: s) h := rf_pure (i := .iload_n 3) (len := 1) (okD_ok (by decide +kernel)) rfl
theorem e113_47 (q : ia n a j) : rf d 113 47 ls (.int j :: .ref a :: s) (SH n, I, L, R, nc, ns, nx) = rf d 113 48 ls (.int (I a j.toNatClampNeg) :: s) (SH n, I, L, R, nc, ns, nx) := g_ial (by decide +kernel) q
theorem e113_48 : rf d 113 48 ls (.int y :: .int x :: s) h = rf d 113 49 ls (.int (x ||| y) :: s) h := rf_pure (i := .ior) (len := 1) (okD_ok (by decide +kernel)) rfl
theorem e113_49 (hn : ip_nl l1 = true) : rf d 113 49 [l0, l1, l2, l3] (.int x :: s) h = rf d 113 50 [l0, l1, some (.int x), l3] s h := g_sti (i := .istore_n 2) (len := 1) (q := 1) (p := 1) (by decide +kernel) rfl rfl hn
theorem e113_50 (hn : ip_nl l2 = true) : rf d 113 50 [l0, l1, l2, some (.int x)] s h = rf d 113 53 [l0, l1, l2, some (.int (x + 1))] s h := g_inc (q := 2) (z := 1) (w := 1) (x := x) (by decide) (by decide +kernel) rfl rfl hn
theorem e113_53 : rf d 113 53 ls s h = rf d 113 19 ls s h := rf_goto ⟨okD_ok (i := .goto (-34)) (len := 3) (by decide +kernel), rfl⟩
theorem e113_56 : rf d 113 56 [l0, l1, some (.int x), l3] s h = rf d 113 57 [l0, l1, some (.int x), l3] (.int x :: s) h := rf_pure (i := .iload_n 2) (len := 1) (okD_ok (by decide +kernel)) rfl
theorem e113_57 : rf d 113 57 ls [.int x] h = some (.inl (some (.int x)), h) := g_ri (by decide +kernel) rt113
theorem en114 : cf d 114 [.ref a, .ref a0, .int x1, .int x2] h = rf d 114 0 [some (.ref a), some (.ref a0), some (.int x1), some (.int x2), none] [] h := rfl
theorem e114_0 : rf d 114 0 [l0, some (.ref a), l2, l3, l4] s h = rf d 114 1 [l0, some (.ref a), l2, l3, l4] (.ref a :: s) h := rf_pure (i := .aload_n 1) (len := 1) (okD_ok (by decide +kernel)) rfl
theorem e114_1 : rf d 114 1 [some (.ref a), l1, l2, l3, l4] s h = rf d 114 2 [some (.ref a), l1, l2, l3, l4] (.ref a :: s) h := rf_pure (i := .aload_n 0) (len := 1) (okD_ok (by decide +kernel)) rfl
theorem e114_2 (ha : isC a) : rf d 114 2 ls (.ref a :: s) (SH n, I, L, R, nc, ns, nx) = rf d 114 5 ls (ip_rf (R a 1) :: s) (SH n, I, L, R, nc, ns, nx) := g_R (idx := 21) (by decide +kernel) ow114 f_0_21 rfl (kdC0 ha) (geC ha) rfl
theorem e114_5 (hb : isN b) (hcat : ip_cat s ≤ 8) : rf (d + 1) 114 5 ls (.ref a0 :: .ref b :: s) (SH n, I, L, R, nc, ns, nx) = rf_k (d + 1) 114 5 ls s (cf d 115 [.ref b, .ref a0] (SH n, I, L, R, nc, ns, nx)) := g_cv (idx := 141) (t := 1) [.ref a0] (by decide +kernel) ow114 ms_0_141 mt_0_141 cy115_1 rfl rfl mL115 rfl (kdN0 hb) (geN hb) hcat
theorem e114_8 : rf d 114 8 [l0, some (.ref a), l2, l3, l4] s h = rf d 114 9 [l0, some (.ref a), l2, l3, l4] (.ref a :: s) h := rf_pure (i := .aload_n 1) (len := 1) (okD_ok (by decide +kernel)) rfl
theorem e114_9 : rf d 114 9 [some (.ref a), l1, l2, l3, l4] s h = rf d 114 10 [some (.ref a), l1, l2, l3, l4] (.ref a :: s) h := rf_pure (i := .aload_n 0) (len := 1) (okD_ok (by decide +kernel)) rfl
theorem e114_10 (ha : isC a) : rf d 114 10 ls (.ref a :: s) (SH n, I, L, R, nc, ns, nx) = rf d 114 13 ls (.int (I a 3) :: s) (SH n, I, L, R, nc, ns, nx) := g_I (idx := 28) (by decide +kernel) ow114 f_0_28 rfl (kdC0 ha) (geC ha)
theorem e114_13 (ha : isN a) : rf d 114 13 ls (.int x :: .ref a :: s) (SH n, I, L, R, nc, ns, nx) = rf d 114 16 ls s (SH n, ip_up I a 0 x, L, R, nc, ns, nx) := g_pI (idx := 70) (by decide +kernel) ow114 f_0_70 rfl (by decide +kernel) (kdN0 ha) (geN ha)
theorem e114_16 : rf d 114 16 [l0, some (.ref a), l2, l3, l4] s h = rf d 114 17 [l0, some (.ref a), l2, l3, l4] (.ref a :: s) h := rf_pure (i := .aload_n 1) (len := 1) (okD_ok (by decide +kernel)) rfl
theorem e114_17 : rf d 114 17 [l0, l1, some (.int x), l3, l4] s h = rf d 114 18 [l0, l1, some (.int x), l3, l4] (.int x :: s) h := rf_pure (i := .iload_n 2) (len := 1) (okD_ok (by decide +kernel)) rfl
theorem e114_18 (ha : isN a) : rf d 114 18 ls (.int x :: .ref a :: s) (SH n, I, L, R, nc, ns, nx) = rf d 114 21 ls s (SH n, ip_up I a 1 x, L, R, nc, ns, nx) := g_pI (idx := 145) (by decide +kernel) ow114 f_0_145 rfl (by decide +kernel) (kdN0 ha) (geN ha)
theorem e114_21 : rf d 114 21 [l0, some (.ref a), l2, l3, l4] s h = rf d 114 22 [l0, some (.ref a), l2, l3, l4] (.ref a :: s) h := rf_pure (i := .aload_n 1) (len := 1) (okD_ok (by decide +kernel)) rfl
theorem e114_22 : rf d 114 22 [some (.ref a), l1, l2, l3, l4] s h = rf d 114 23 [some (.ref a), l1, l2, l3, l4] (.ref a :: s) h := rf_pure (i := .aload_n 0) (len := 1) (okD_ok (by decide +kernel)) rfl
theorem e114_23 (ha : isC a) : rf d 114 23 ls (.ref a :: s) (SH n, I, L, R, nc, ns, nx) = rf d 114 26 ls (.int (I a 8) :: s) (SH n, I, L, R, nc, ns, nx) := g_I (idx := 132) (by decide +kernel) ow114 f_0_132 rfl (kdC0 ha) (geC ha)
theorem e114_26 (ha : isN a) : rf d 114 26 ls (.int x :: .ref a :: s) (SH n, I, L, R, nc, ns, nx) = rf d 114 29 ls s (SH n, ip_up I a 2 x, L, R, nc, ns, nx) := g_pI (idx := 74) (by decide +kernel) ow114 f_0_74 rfl (by decide +kernel) (kdN0 ha) (geN ha)
theorem e114_29 : rf d 114 29 [l0, some (.ref a), l2, l3, l4] s h = rf d 114 30 [l0, some (.ref a), l2, l3, l4] (.ref a :: s) h := rf_pure (i := .aload_n 1) (len := 1) (okD_ok (by decide +kernel)) rfl
theorem e114_30 : rf d 114 30 ls s h = rf d 114 31 ls (.int 1 :: s) h := rf_pure (i := .iconst (1)) (len := 1) (okD_ok (by decide +kernel)) rfl
theorem e114_31 : rf d 114 31 [some (.ref a), l1, l2, l3, l4] s h = rf d 114 32 [some (.ref a), l1, l2, l3, l4] (.ref a :: s) h := rf_pure (i := .aload_n 0) (len := 1) (okD_ok (by decide +kernel)) rfl
theorem e114_32 (ha : isC a) : rf d 114 32 ls (.ref a :: s) (SH n, I, L, R, nc, ns, nx) = rf d 114 35 ls (.int (I a 4) :: s) (SH n, I, L, R, nc, ns, nx) := g_I (idx := 32) (by decide +kernel) ow114 f_0_32 rfl (kdC0 ha) (geC ha)
theorem e114_35 : rf d 114 35 ls (.int y :: .int x :: s) h = rf d 114 36 ls (.int (x - y) :: s) h := rf_pure (i := .isub) (len := 1) (okD_ok (by decide +kernel)) rfl
theorem e114_36 (ha : isN a) : rf d 114 36 ls (.int x :: .ref a :: s) (SH n, I, L, R, nc, ns, nx) = rf d 114 39 ls s (SH n, ip_up I a 9 x, L, R, nc, ns, nx) := g_pI (idx := 148) (by decide +kernel) ow114 f_0_148 rfl (by decide +kernel) (kdN0 ha) (geN ha)
theorem e114_39 : rf d 114 39 [l0, some (.ref a), l2, l3, l4] s h = rf d 114 40 [l0, some (.ref a), l2, l3, l4] (.ref a :: s) h := rf_pure (i := .aload_n 1) (len := 1) (okD_ok (by decide +kernel)) rfl
theorem e114_40 : rf d 114 40 [some (.ref a), l1, l2, l3, l4] s h = rf d 114 41 [some (.ref a), l1, l2, l3, l4] (.ref a :: s) h := rf_pure (i := .aload_n 0) (len := 1) (okD_ok (by decide +kernel)) rfl
theorem e114_41 (ha : isC a) : rf d 114 41 ls (.ref a :: s) (SH n, I, L, R, nc, ns, nx) = rf d 114 44 ls (.int (I a 11) :: s) (SH n, I, L, R, nc, ns, nx) := g_I (idx := 140) (by decide +kernel) ow114 f_0_140 rfl (kdC0 ha) (geC ha)
theorem e114_44 (ha : isN a) : rf d 114 44 ls (.int x :: .ref a :: s) (SH n, I, L, R, nc, ns, nx) = rf d 114 47 ls s (SH n, ip_up I a 10 x, L, R, nc, ns, nx) := g_pI (idx := 110) (by decide +kernel) ow114 f_0_110 rfl (by decide +kernel) (kdN0 ha) (geN ha)
theorem e114_47 : rf d 114 47 [l0, some (.ref a), l2, l3, l4] s h = rf d 114 48 [l0, some (.ref a), l2, l3, l4] (.ref a :: s) h := rf_pure (i := .aload_n 1) (len := 1) (okD_ok (by decide +kernel)) rfl
theorem e114_48 : rf d 114 48 [some (.ref a), l1, l2, l3, l4] s h = rf d 114 49 [some (.ref a), l1, l2, l3, l4] (.ref a :: s) h := rf_pure (i := .aload_n 0) (len := 1) (okD_ok (by decide +kernel)) rfl
theorem e114_49 (hR : LYR R) (ha : isC a) : rf d 114 49 ls (.ref a :: s) (SH n, I, L, R, nc, ns, nx) = rf d 114 52 ls (.ref (a + 15) :: s) (SH n, I, L, R, nc, ns, nx) := g_R (idx := 45) (by decide +kernel) ow114 f_0_45 rfl (kdC0 ha) (geC ha) (lyC13 hR ha)
theorem e114_52 : rf d 114 52 ls s h = rf d 114 53 ls (.int 0 :: s) h := rf_pure (i := .iconst (0)) (len := 1) (okD_ok (by decide +kernel)) rfl
theorem e114_53 (q : ia n a j) : rf d 114 53 ls (.int j :: .ref a :: s) (SH n, I, L, R, nc, ns, nx) = rf d 114 54 ls (.int (I a j.toNatClampNeg) :: s) (SH n, I, L, R, nc, ns, nx) := g_ial (by decide +kernel) q
theorem e114_54 : rf d 114 54 [some (.ref a), l1, l2, l3, l4] s h = rf d 114 55 [some (.ref a), l1, l2, l3, l4] (.ref a :: s) h := rf_pure (i := .aload_n 0) (len := 1) (okD_ok (by decide +kernel)) rfl
theorem e114_55 (hR : LYR R) (ha : isC a) : rf d 114 55 ls (.ref a :: s) (SH n, I, L, R, nc, ns, nx) = rf d 114 58 ls (.ref (a + 15) :: s) (SH n, I, L, R, nc, ns, nx) := g_R (idx := 45) (by decide +kernel) ow114 f_0_45 rfl (kdC0 ha) (geC ha) (lyC13 hR ha)
theorem e114_58 : rf d 114 58 ls s h = rf d 114 59 ls (.int 1 :: s) h := rf_pure (i := .iconst (1)) (len := 1) (okD_ok (by decide +kernel)) rfl
theorem e114_59 (q : ia n a j) : rf d 114 59 ls (.int j :: .ref a :: s) (SH n, I, L, R, nc, ns, nx) = rf d 114 60 ls (.int (I a j.toNatClampNeg) :: s) (SH n, I, L, R, nc, ns, nx) := g_ial (by decide +kernel) q
theorem e114_60 (hb : isN b) (hcat : ip_cat s ≤ 8) : rf (d + 1) 114 60 ls (.int x1 :: .int x0 :: .ref b :: s) (SH n, I, L, R, nc, ns, nx) = rf_k (d + 1) 114 60 ls s (cf d 116 [.ref b, .int x0, .int x1] (SH n, I, L, R, nc, ns, nx)) := g_cv (idx := 151) (t := 1) [.int x1, .int x0] (by decide +kernel) ow114 ms_0_151 mt_0_151 cy116_1 rfl rfl mL116 rfl (kdN0 hb) (geN hb) hcat
theorem e114_63 : rf d 114 63 ls s h = rf d 114 64 ls (.int 0 :: s) h := rf_pure (i := .iconst (0)) (len := 1) (okD_ok (by decide +kernel)) rfl
theorem e114_64 (hn : ip_nl l3 = true) : rf d 114 64 [l0, l1, l2, l3, l4] (.int x :: s) h = rf d 114 66 [l0, l1, l2, l3, some (.int x)] s h := g_sti (i := .istore 4) (len := 2) (q := 3) (p := 2) (by decide +kernel) rfl rfl hn
theorem e114_66 : rf d 114 66 [l0, l1, l2, l3, some (.int x)] s h = rf d 114 68 [l0, l1, l2, l3, some (.int x)] (.int x :: s) h := rf_pure (i := .iload 4) (len := 2) (okD_ok (by decide +kernel)) rfl
theorem e114_68 : rf d 114 68 [some (.ref a), l1, l2, l3, l4] s h = rf d 114 69 [some (.ref a), l1, l2, l3, l4] (.ref a :: s) h := rf_pure (i := .aload_n 0) (len := 1) (okD_ok (by decide +kernel)) rfl
theorem e114_69 (ha : isC a) : rf d 114 69 ls (.ref a :: s) (SH n, I, L, R, nc, ns, nx) = rf d 114 72 ls (ip_rf (R a 0) :: s) (SH n, I, L, R, nc, ns, nx) := g_R (idx := 12) (by decide +kernel) ow114 f_0_12 rfl (kdC0 ha) (geC ha) rfl
theorem e114_72 (ha : isT a) : rf d 114 72 ls (.ref a :: s) (SH n, I, L, R, nc, ns, nx) = rf d 114 75 ls (.int (I a 6) :: s) (SH n, I, L, R, nc, ns, nx) := g_I (idx := 77) (by decide +kernel) ow114 f_0_77 rfl (kdT0 ha) (geT ha)
theorem e114_75 : rf d 114 75 ls (.int y :: .int x :: s) h = if y ≤ x then rf d 114 127 ls s h else rf d 114 78 ls s h := g_ic (c := .ge) (off := 52) _ (by decide +kernel) rfl cmp_d
theorem e114_78 : rf d 114 78 [some (.ref a), l1, l2, l3, l4] s h = rf d 114 79 [some (.ref a), l1, l2, l3, l4] (.ref a :: s) h := rf_pure (i := .aload_n 0) (len := 1) (okD_ok (by decide +kernel)) rfl
theorem e114_79 (ha : isC a) : rf d 114 79 ls (.ref a :: s) (SH n, I, L, R, nc, ns, nx) = rf d 114 82 ls (.int (I a 11) :: s) (SH n, I, L, R, nc, ns, nx) := g_I (idx := 140) (by decide +kernel) ow114 f_0_140 rfl (kdC0 ha) (geC ha)
theorem e114_82 : rf d 114 82 ls s h = rf d 114 83 ls (.int 1 :: s) h := rf_pure (i := .iconst (1)) (len := 1) (okD_ok (by decide +kernel)) rfl
theorem e114_83 : rf d 114 83 [l0, l1, l2, l3, some (.int x)] s h = rf d 114 85 [l0, l1, l2, l3, some (.int x)] (.int x :: s) h := rf_pure (i := .iload 4) (len := 2) (okD_ok (by decide +kernel)) rfl
theorem e114_85 : rf d 114 85 ls (.int y :: .int x :: s) h = rf d 114 86 ls (.int (x <<< (y &&& 31)) :: s) h := rf_pure (i := .ishl) (len := 1) (okD_ok (by decide +kernel)) rfl
theorem e114_86 : rf d 114 86 ls (.int y :: .int x :: s) h = rf d 114 87 ls (.int (x &&& y) :: s) h := rf_pure (i := .iand) (len := 1) (okD_ok (by decide +kernel)) rfl
theorem e114_87 : rf d 114 87 ls (.int x :: s) h = if x = 0 then rf d 114 121 ls s h else rf d 114 90 ls s h := g_if (c := .eq) (off := 34) _ (by decide +kernel) rfl cmp_d
theorem e114_90 : rf d 114 90 [l0, some (.ref a), l2, l3, l4] s h = rf d 114 91 [l0, some (.ref a), l2, l3, l4] (.ref a :: s) h := rf_pure (i := .aload_n 1) (len := 1) (okD_ok (by decide +kernel)) rfl
theorem e114_91 : rf d 114 91 [l0, l1, l2, l3, some (.int x)] s h = rf d 114 93 [l0, l1, l2, l3, some (.int x)] (.int x :: s) h := rf_pure (i := .iload 4) (len := 2) (okD_ok (by decide +kernel)) rfl
theorem e114_93 : rf d 114 93 ls s h = rf d 114 94 ls (.int 1 :: s) h := rf_pure (i := .iconst (1)) (len := 1) (okD_ok (by decide +kernel)) rfl
theorem e114_94 : rf d 114 94 [some (.ref a), l1, l2, l3, l4] s h = rf d 114 95 [some (.ref a), l1, l2, l3, l4] (.ref a :: s) h := rf_pure (i := .aload_n 0) (len := 1) (okD_ok (by decide +kernel)) rfl
theorem e114_95 (ha : isC a) : rf d 114 95 ls (.ref a :: s) (SH n, I, L, R, nc, ns, nx) = rf d 114 98 ls (ip_rf (R a 1) :: s) (SH n, I, L, R, nc, ns, nx) := g_R (idx := 21) (by decide +kernel) ow114 f_0_21 rfl (kdC0 ha) (geC ha) rfl
theorem e114_98 : rf d 114 98 [l0, l1, l2, l3, some (.int x)] s h = rf d 114 100 [l0, l1, l2, l3, some (.int x)] (.int x :: s) h := rf_pure (i := .iload 4) (len := 2) (okD_ok (by decide +kernel)) rfl
theorem e114_100 (hb : isN b) (hcat : ip_cat s ≤ 8) : rf (d + 1) 114 100 ls (.int x0 :: .ref b :: s) (SH n, I, L, R, nc, ns, nx) = rf_k (d + 1) 114 100 ls s (cf d 117 [.ref b, .int x0] (SH n, I, L, R, nc, ns, nx)) := g_cv (idx := 155) (t := 1) [.int x0] (by decide +kernel) ow114 ms_0_155 mt_0_155 cy117_1 rfl rfl mL117 rfl (kdN0 hb) (geN hb) hcat
theorem e114_103 : rf d 114 103 ls (.int y :: .int x :: s) h = rf d 114 104 ls (.int (x - y) :: s) h := rf_pure (i := .isub) (len := 1) (okD_ok (by decide +kernel)) rfl
theorem e114_104 : rf d 114 104 ls s h = rf d 114 106 ls (.int 9 :: s) h := rf_pure (i := .bipush (9)) (len := 2) (okD_ok (by decide +kernel)) rfl
theorem e114_106 : rf d 114 106 [some (.ref a), l1, l2, l3, l4] s h = rf d 114 107 [some (.ref a), l1, l2, l3, l4] (.ref a :: s) h := rf_pure (i := .aload_n 0) (len := 1) (okD_ok (by decide +kernel)) rfl
theorem e114_107 (ha : isC a) : rf d 114 107 ls (.ref a :: s) (SH n, I, L, R, nc, ns, nx) = rf d 114 110 ls (ip_rf (R a 1) :: s) (SH n, I, L, R, nc, ns, nx) := g_R (idx := 21) (by decide +kernel) ow114 f_0_21 rfl (kdC0 ha) (geC ha) rfl
theorem e114_110 (hR : LYR R) (ha : isN a) : rf d 114 110 ls (.ref a :: s) (SH n, I, L, R, nc, ns, nx) = rf d 114 113 ls (.ref (a + 3) :: s) (SH n, I, L, R, nc, ns, nx) := g_R (idx := 83) (by decide +kernel) ow114 f_0_83 rfl (kdN0 ha) (geN ha) (lyN14 hR ha)
theorem e114_113 : rf d 114 113 [l0, l1, l2, l3, some (.int x)] s h = rf d 114 115 [l0, l1, l2, l3, some (.int x)] (.int x :: s) h := rf_pure (i := .iload 4) (len := 2) (okD_ok (by decide +kernel)) rfl
theorem e114_115 (q : ia n a j) : rf d 114 115 ls (.int j :: .ref a :: s) (SH n, I, L, R, nc, ns, nx) = rf d 114 116 ls (.int (I a j.toNatClampNeg) :: s) (SH n, I, L, R, nc, ns, nx) := g_ial (by decide +kernel) q
theorem e114_116 : rf d 114 116 ls (.int y :: .int x :: s) h = rf d 114 117 ls (.int (x - y) :: s) h := rf_pure (i := .isub) (len := 1) (okD_ok (by decide +kernel)) rfl
theorem e114_117 : rf d 114 117 [l0, l1, l2, some (.int x), l4] s h = rf d 114 118 [l0, l1, l2, some (.int x), l4] (.int x :: s) h := rf_pure (i := .iload_n 3) (len := 1) (okD_ok (by decide +kernel)) rfl
theorem e114_118 (hb : isN b) (hcat : ip_cat s ≤ 8) : rf (d + 1) 114 118 ls (.int x3 :: .int x2 :: .int x1 :: .int x0 :: .ref b :: s) (SH n, I, L, R, nc, ns, nx) = rf_k (d + 1) 114 118 ls s (cf d 87 [.ref b, .int x0, .int x1, .int x2, .int x3] (SH n, I, L, R, nc, ns, nx)) := g_cv (idx := 158) (t := 1) [.int x3, .int x2, .int x1, .int x0] (by decide +kernel) ow114 ms_0_158 mt_0_158 cy87_1 rfl rfl mL87 rfl (kdN0 hb) (geN hb) hcat
theorem e114_121 (hn : ip_nl l3 = true) : rf d 114 121 [l0, l1, l2, l3, some (.int x)] s h = rf d 114 124 [l0, l1, l2, l3, some (.int (x + 1))] s h := g_inc (q := 3) (z := 1) (w := 1) (x := x) (by decide) (by decide +kernel) rfl rfl hn
theorem e114_124 : rf d 114 124 ls s h = rf d 114 66 ls s h := rf_goto ⟨okD_ok (i := .goto (-58)) (len := 3) (by decide +kernel), rfl⟩
theorem e114_127 : rf d 114 127 [l0, some (.ref a), l2, l3, l4] s h = rf d 114 128 [l0, some (.ref a), l2, l3, l4] (.ref a :: s) h := rf_pure (i := .aload_n 1) (len := 1) (okD_ok (by decide +kernel)) rfl
theorem e114_128 : rf d 114 128 [some (.ref a), l1, l2, l3, l4] s h = rf d 114 129 [some (.ref a), l1, l2, l3, l4] (.ref a :: s) h := rf_pure (i := .aload_n 0) (len := 1) (okD_ok (by decide +kernel)) rfl
theorem e114_129 (ha : isC a) : rf d 114 129 ls (.ref a :: s) (SH n, I, L, R, nc, ns, nx) = rf d 114 132 ls (.int (I a 12) :: s) (SH n, I, L, R, nc, ns, nx) := g_I (idx := 139) (by decide +kernel) ow114 f_0_139 rfl (kdC0 ha) (geC ha)
theorem e114_132 (hb : isN b) (hcat : ip_cat s ≤ 8) : rf (d + 1) 114 132 ls (.int x0 :: .ref b :: s) (SH n, I, L, R, nc, ns, nx) = rf_k (d + 1) 114 132 ls s (cf d 88 [.ref b, .int x0] (SH n, I, L, R, nc, ns, nx)) := g_cv (idx := 162) (t := 1) [.int x0] (by decide +kernel) ow114 ms_0_162 mt_0_162 cy88_1 rfl rfl mL88 rfl (kdN0 hb) (geN hb) hcat
theorem e114_135 : rf d 114 135 [l0, some (.ref a), l2, l3, l4] s h = rf d 114 136 [l0, some (.ref a), l2, l3, l4] (.ref a :: s) h := rf_pure (i := .aload_n 1) (len := 1) (okD_ok (by decide +kernel)) rfl
theorem e114_136 : rf d 114 136 [some (.ref a), l1, l2, l3, l4] s h = rf d 114 137 [some (.ref a), l1, l2, l3, l4] (.ref a :: s) h := rf_pure (i := .aload_n 0) (len := 1) (okD_ok (by decide +kernel)) rfl
theorem e114_137 (ha : isC a) : rf d 114 137 ls (.ref a :: s) (SH n, I, L, R, nc, ns, nx) = rf d 114 140 ls (.int (I a 12) :: s) (SH n, I, L, R, nc, ns, nx) := g_I (idx := 139) (by decide +kernel) ow114 f_0_139 rfl (kdC0 ha) (geC ha)
theorem e114_140 (ha : isN a) : rf d 114 140 ls (.int x :: .ref a :: s) (SH n, I, L, R, nc, ns, nx) = rf d 114 143 ls s (SH n, ip_up I a 3 x, L, R, nc, ns, nx) := g_pI (idx := 71) (by decide +kernel) ow114 f_0_71 rfl (by decide +kernel) (kdN0 ha) (geN ha)
theorem e114_143 : rf d 114 143 [some (.ref a), l1, l2, l3, l4] s h = rf d 114 144 [some (.ref a), l1, l2, l3, l4] (.ref a :: s) h := rf_pure (i := .aload_n 0) (len := 1) (okD_ok (by decide +kernel)) rfl
theorem e114_144 (ha : isC a) : rf d 114 144 ls (.ref a :: s) (SH n, I, L, R, nc, ns, nx) = rf d 114 147 ls (.int (I a 3) :: s) (SH n, I, L, R, nc, ns, nx) := g_I (idx := 28) (by decide +kernel) ow114 f_0_28 rfl (kdC0 ha) (geC ha)
theorem e114_147 : rf d 114 147 ls s h = rf d 114 148 ls (.int 1 :: s) h := rf_pure (i := .iconst (1)) (len := 1) (okD_ok (by decide +kernel)) rfl
theorem e114_148 : rf d 114 148 ls (.int y :: .int x :: s) h = if ¬ x = y then rf d 114 165 ls s h else rf d 114 151 ls s h := g_ic (c := .ne) (off := 17) _ (by decide +kernel) rfl cmp_d
theorem e114_151 : rf d 114 151 [some (.ref a), l1, l2, l3, l4] s h = rf d 114 152 [some (.ref a), l1, l2, l3, l4] (.ref a :: s) h := rf_pure (i := .aload_n 0) (len := 1) (okD_ok (by decide +kernel)) rfl
theorem e114_152 (ha : isC a) : rf d 114 152 ls (.ref a :: s) (SH n, I, L, R, nc, ns, nx) = rf d 114 155 ls (ip_rf (R a 1) :: s) (SH n, I, L, R, nc, ns, nx) := g_R (idx := 21) (by decide +kernel) ow114 f_0_21 rfl (kdC0 ha) (geC ha) rfl
theorem e114_155 : rf d 114 155 [some (.ref a), l1, l2, l3, l4] s h = rf d 114 156 [some (.ref a), l1, l2, l3, l4] (.ref a :: s) h := rf_pure (i := .aload_n 0) (len := 1) (okD_ok (by decide +kernel)) rfl
theorem e114_156 (ha : isC a) : rf d 114 156 ls (.ref a :: s) (SH n, I, L, R, nc, ns, nx) = rf d 114 159 ls (.int (I a 4) :: s) (SH n, I, L, R, nc, ns, nx) := g_I (idx := 32) (by decide +kernel) ow114 f_0_32 rfl (kdC0 ha) (geC ha)
theorem e114_159 (hb : isN b) (hcat : ip_cat s ≤ 8) : rf (d + 1) 114 159 ls (.int x0 :: .ref b :: s) (SH n, I, L, R, nc, ns, nx) = rf_k (d + 1) 114 159 ls s (cf d 92 [.ref b, .int x0] (SH n, I, L, R, nc, ns, nx)) := g_cv (idx := 95) (t := 1) [.int x0] (by decide +kernel) ow114 ms_0_95 mt_0_95 cy92_1 rfl rfl mL92 rfl (kdN0 hb) (geN hb) hcat
theorem e114_162 : rf d 114 162 ls s h = rf d 114 166 ls s h := rf_goto ⟨okD_ok (i := .goto (4)) (len := 3) (by decide +kernel), rfl⟩
theorem e114_165 : rf d 114 165 ls s h = rf d 114 166 ls (.int 0 :: s) h := rf_pure (i := .iconst (0)) (len := 1) (okD_ok (by decide +kernel)) rfl
theorem e114_166 (hn : ip_nl l3 = true) : rf d 114 166 [l0, l1, l2, l3, l4] (.int x :: s) h = rf d 114 168 [l0, l1, l2, l3, some (.int x)] s h := g_sti (i := .istore 4) (len := 2) (q := 3) (p := 2) (by decide +kernel) rfl rfl hn
theorem e114_168 : rf d 114 168 [l0, some (.ref a), l2, l3, l4] s h = rf d 114 169 [l0, some (.ref a), l2, l3, l4] (.ref a :: s) h := rf_pure (i := .aload_n 1) (len := 1) (okD_ok (by decide +kernel)) rfl
theorem e114_169 : rf d 114 169 [some (.ref a), l1, l2, l3, l4] s h = rf d 114 170 [some (.ref a), l1, l2, l3, l4] (.ref a :: s) h := rf_pure (i := .aload_n 0) (len := 1) (okD_ok (by decide +kernel)) rfl
theorem e114_170 (ha : isC a) : rf d 114 170 ls (.ref a :: s) (SH n, I, L, R, nc, ns, nx) = rf d 114 173 ls (ip_rf (R a 1) :: s) (SH n, I, L, R, nc, ns, nx) := g_R (idx := 21) (by decide +kernel) ow114 f_0_21 rfl (kdC0 ha) (geC ha) rfl
theorem e114_173 (ha : isN a) : rf d 114 173 ls (.ref a :: s) (SH n, I, L, R, nc, ns, nx) = rf d 114 176 ls (.int (I a 7) :: s) (SH n, I, L, R, nc, ns, nx) := g_I (idx := 98) (by decide +kernel) ow114 f_0_98 rfl (kdN0 ha) (geN ha)
theorem e114_176 : rf d 114 176 [some (.ref a), l1, l2, l3, l4] s h = rf d 114 177 [some (.ref a), l1, l2, l3, l4] (.ref a :: s) h := rf_pure (i := .aload_n 0) (len := 1) (okD_ok (by decide +kernel)) rfl
theorem e114_177 (ha : isC a) : rf d 114 177 ls (.ref a :: s) (SH n, I, L, R, nc, ns, nx) = rf d 114 180 ls (.int (I a 9) :: s) (SH n, I, L, R, nc, ns, nx) := g_I (idx := 133) (by decide +kernel) ow114 f_0_133 rfl (kdC0 ha) (geC ha)
theorem e114_180 : rf d 114 180 ls (.int y :: .int x :: s) h = rf d 114 181 ls (.int (x ||| y) :: s) h := rf_pure (i := .ior) (len := 1) (okD_ok (by decide +kernel)) rfl
theorem e114_181 : rf d 114 181 [l0, l1, l2, l3, some (.int x)] s h = rf d 114 183 [l0, l1, l2, l3, some (.int x)] (.int x :: s) h := rf_pure (i := .iload 4) (len := 2) (okD_ok (by decide +kernel)) rfl
theorem e114_183 : rf d 114 183 ls (.int y :: .int x :: s) h = rf d 114 184 ls (.int (x ||| y) :: s) h := rf_pure (i := .ior) (len := 1) (okD_ok (by decide +kernel)) rfl
theorem e114_184 : rf d 114 184 [some (.ref a), l1, l2, l3, l4] s h = rf d 114 185 [some (.ref a), l1, l2, l3, l4] (.ref a :: s) h := rf_pure (i := .aload_n 0) (len := 1) (okD_ok (by decide +kernel)) rfl
theorem e114_185 (ha : isC a) : rf d 114 185 ls (.ref a :: s) (SH n, I, L, R, nc, ns, nx) = rf d 114 188 ls (.int (I a 12) :: s) (SH n, I, L, R, nc, ns, nx) := g_I (idx := 139) (by decide +kernel) ow114 f_0_139 rfl (kdC0 ha) (geC ha)
theorem e114_188 : rf d 114 188 ls s h = rf d 114 189 ls (.int (-1) :: s) h := rf_pure (i := .iconst (-1)) (len := 1) (okD_ok (by decide +kernel)) rfl
theorem e114_189 : rf d 114 189 ls (.int y :: .int x :: s) h = rf d 114 190 ls (.int (x ^^^ y) :: s) h := rf_pure (i := .ixor) (len := 1) (okD_ok (by decide +kernel)) rfl
theorem e114_190 : rf d 114 190 ls (.int y :: .int x :: s) h = rf d 114 191 ls (.int (x &&& y) :: s) h := rf_pure (i := .iand) (len := 1) (okD_ok (by decide +kernel)) rfl
theorem e114_191 (ha : isN a) : rf d 114 191 ls (.int x :: .ref a :: s) (SH n, I, L, R, nc, ns, nx) = rf d 114 194 ls s (SH n, ip_up I a 7 x, L, R, nc, ns, nx) := g_pI (idx := 98) (by decide +kernel) ow114 f_0_98 rfl (by decide +kernel) (kdN0 ha) (geN ha)
theorem e114_194 : rf d 114 194 [l0, some (.ref a), l2, l3, l4] s h = rf d 114 195 [l0, some (.ref a), l2, l3, l4] (.ref a :: s) h := rf_pure (i := .aload_n 1) (len := 1) (okD_ok (by decide +kernel)) rfl
theorem e114_195 : rf d 114 195 [some (.ref a), l1, l2, l3, l4] s h = rf d 114 196 [some (.ref a), l1, l2, l3, l4] (.ref a :: s) h := rf_pure (i := .aload_n 0) (len := 1) (okD_ok (by decide +kernel)) rfl
theorem e114_196 (ha : isC a) : rf d 114 196 ls (.ref a :: s) (SH n, I, L, R, nc, ns, nx) = rf d 114 199 ls (ip_rf (R a 1) :: s) (SH n, I, L, R, nc, ns, nx) := g_R (idx := 21) (by decide +kernel) ow114 f_0_21 rfl (kdC0 ha) (geC ha) rfl
theorem e114_199 (ha : isN a) : rf d 114 199 ls (.ref a :: s) (SH n, I, L, R, nc, ns, nx) = rf d 114 202 ls (.int (I a 8) :: s) (SH n, I, L, R, nc, ns, nx) := g_I (idx := 101) (by decide +kernel) ow114 f_0_101 rfl (kdN0 ha) (geN ha)
theorem e114_202 : rf d 114 202 [some (.ref a), l1, l2, l3, l4] s h = rf d 114 203 [some (.ref a), l1, l2, l3, l4] (.ref a :: s) h := rf_pure (i := .aload_n 0) (len := 1) (okD_ok (by decide +kernel)) rfl
theorem e114_203 (ha : isC a) : rf d 114 203 ls (.ref a :: s) (SH n, I, L, R, nc, ns, nx) = rf d 114 206 ls (.int (I a 9) :: s) (SH n, I, L, R, nc, ns, nx) := g_I (idx := 133) (by decide +kernel) ow114 f_0_133 rfl (kdC0 ha) (geC ha)
theorem e114_206 : rf d 114 206 ls s h = rf d 114 207 ls (.int (-1) :: s) h := rf_pure (i := .iconst (-1)) (len := 1) (okD_ok (by decide +kernel)) rfl
theorem e114_207 : rf d 114 207 ls (.int y :: .int x :: s) h = rf d 114 208 ls (.int (x ^^^ y) :: s) h := rf_pure (i := .ixor) (len := 1) (okD_ok (by decide +kernel)) rfl
theorem e114_208 : rf d 114 208 ls (.int y :: .int x :: s) h = rf d 114 209 ls (.int (x &&& y) :: s) h := rf_pure (i := .iand) (len := 1) (okD_ok (by decide +kernel)) rfl
theorem e114_209 (ha : isN a) : rf d 114 209 ls (.int x :: .ref a :: s) (SH n, I, L, R, nc, ns, nx) = rf d 114 212 ls s (SH n, ip_up I a 8 x, L, R, nc, ns, nx) := g_pI (idx := 101) (by decide +kernel) ow114 f_0_101 rfl (by decide +kernel) (kdN0 ha) (geN ha)
theorem e114_212 : rf d 114 212 ls [] h = some (.inl none, h) := g_rv (by decide +kernel) rt114
theorem en115 : cf d 115 [.ref a, .ref a0] h = rf d 115 0 [some (.ref a), some (.ref a0)] [] h := rfl
theorem e115_0 : rf d 115 0 [some (.ref a), l1] s h = rf d 115 1 [some (.ref a), l1] (.ref a :: s) h := rf_pure (i := .aload_n 0) (len := 1) (okD_ok (by decide +kernel)) rfl
theorem e115_1 : rf d 115 1 [l0, some (.ref a)] s h = rf d 115 2 [l0, some (.ref a)] (.ref a :: s) h := rf_pure (i := .aload_n 1) (len := 1) (okD_ok (by decide +kernel)) rfl
theorem e115_2 (ha : isN a) : rf d 115 2 ls (.ref a :: s) (SH n, I, L, R, nc, ns, nx) = rf d 115 5 ls (.int (I a 4) :: s) (SH n, I, L, R, nc, ns, nx) := g_I (idx := 28) (by decide +kernel) ow115 f_1_28 rfl (kdN0 ha) (geN ha)
theorem e115_5 (ha : isN a) : rf d 115 5 ls (.int x :: .ref a :: s) (SH n, I, L, R, nc, ns, nx) = rf d 115 8 ls s (SH n, ip_up I a 4 x, L, R, nc, ns, nx) := g_pI (idx := 28) (by decide +kernel) ow115 f_1_28 rfl (by decide +kernel) (kdN0 ha) (geN ha)
theorem e115_8 : rf d 115 8 [some (.ref a), l1] s h = rf d 115 9 [some (.ref a), l1] (.ref a :: s) h := rf_pure (i := .aload_n 0) (len := 1) (okD_ok (by decide +kernel)) rfl
theorem e115_9 : rf d 115 9 [l0, some (.ref a)] s h = rf d 115 10 [l0, some (.ref a)] (.ref a :: s) h := rf_pure (i := .aload_n 1) (len := 1) (okD_ok (by decide +kernel)) rfl
theorem e115_10 (ha : isN a) : rf d 115 10 ls (.ref a :: s) (SH n, I, L, R, nc, ns, nx) = rf d 115 13 ls (.int (I a 5) :: s) (SH n, I, L, R, nc, ns, nx) := g_I (idx := 32) (by decide +kernel) ow115 f_1_32 rfl (kdN0 ha) (geN ha)
theorem e115_13 (ha : isN a) : rf d 115 13 ls (.int x :: .ref a :: s) (SH n, I, L, R, nc, ns, nx) = rf d 115 16 ls s (SH n, ip_up I a 5 x, L, R, nc, ns, nx) := g_pI (idx := 32) (by decide +kernel) ow115 f_1_32 rfl (by decide +kernel) (kdN0 ha) (geN ha)
theorem e115_16 : rf d 115 16 [some (.ref a), l1] s h = rf d 115 17 [some (.ref a), l1] (.ref a :: s) h := rf_pure (i := .aload_n 0) (len := 1) (okD_ok (by decide +kernel)) rfl
theorem e115_17 : rf d 115 17 [l0, some (.ref a)] s h = rf d 115 18 [l0, some (.ref a)] (.ref a :: s) h := rf_pure (i := .aload_n 1) (len := 1) (okD_ok (by decide +kernel)) rfl
theorem e115_18 (ha : isN a) : rf d 115 18 ls (.ref a :: s) (SH n, I, L, R, nc, ns, nx) = rf d 115 21 ls (.int (I a 6) :: s) (SH n, I, L, R, nc, ns, nx) := g_I (idx := 35) (by decide +kernel) ow115 f_1_35 rfl (kdN0 ha) (geN ha)
theorem e115_21 (ha : isN a) : rf d 115 21 ls (.int x :: .ref a :: s) (SH n, I, L, R, nc, ns, nx) = rf d 115 24 ls s (SH n, ip_up I a 6 x, L, R, nc, ns, nx) := g_pI (idx := 35) (by decide +kernel) ow115 f_1_35 rfl (by decide +kernel) (kdN0 ha) (geN ha)
theorem e115_24 : rf d 115 24 [some (.ref a), l1] s h = rf d 115 25 [some (.ref a), l1] (.ref a :: s) h := rf_pure (i := .aload_n 0) (len := 1) (okD_ok (by decide +kernel)) rfl
theorem e115_25 : rf d 115 25 [l0, some (.ref a)] s h = rf d 115 26 [l0, some (.ref a)] (.ref a :: s) h := rf_pure (i := .aload_n 1) (len := 1) (okD_ok (by decide +kernel)) rfl
theorem e115_26 (ha : isN a) : rf d 115 26 ls (.ref a :: s) (SH n, I, L, R, nc, ns, nx) = rf d 115 29 ls (.int (I a 7) :: s) (SH n, I, L, R, nc, ns, nx) := g_I (idx := 38) (by decide +kernel) ow115 f_1_38 rfl (kdN0 ha) (geN ha)
theorem e115_29 (ha : isN a) : rf d 115 29 ls (.int x :: .ref a :: s) (SH n, I, L, R, nc, ns, nx) = rf d 115 32 ls s (SH n, ip_up I a 7 x, L, R, nc, ns, nx) := g_pI (idx := 38) (by decide +kernel) ow115 f_1_38 rfl (by decide +kernel) (kdN0 ha) (geN ha)
theorem e115_32 : rf d 115 32 [some (.ref a), l1] s h = rf d 115 33 [some (.ref a), l1] (.ref a :: s) h := rf_pure (i := .aload_n 0) (len := 1) (okD_ok (by decide +kernel)) rfl
theorem e115_33 : rf d 115 33 [l0, some (.ref a)] s h = rf d 115 34 [l0, some (.ref a)] (.ref a :: s) h := rf_pure (i := .aload_n 1) (len := 1) (okD_ok (by decide +kernel)) rfl
theorem e115_34 (ha : isN a) : rf d 115 34 ls (.ref a :: s) (SH n, I, L, R, nc, ns, nx) = rf d 115 37 ls (.int (I a 8) :: s) (SH n, I, L, R, nc, ns, nx) := g_I (idx := 41) (by decide +kernel) ow115 f_1_41 rfl (kdN0 ha) (geN ha)
theorem e115_37 (ha : isN a) : rf d 115 37 ls (.int x :: .ref a :: s) (SH n, I, L, R, nc, ns, nx) = rf d 115 40 ls s (SH n, ip_up I a 8 x, L, R, nc, ns, nx) := g_pI (idx := 41) (by decide +kernel) ow115 f_1_41 rfl (by decide +kernel) (kdN0 ha) (geN ha)
theorem e115_40 : rf d 115 40 [some (.ref a), l1] s h = rf d 115 41 [some (.ref a), l1] (.ref a :: s) h := rf_pure (i := .aload_n 0) (len := 1) (okD_ok (by decide +kernel)) rfl
theorem e115_41 : rf d 115 41 [l0, some (.ref a)] s h = rf d 115 42 [l0, some (.ref a)] (.ref a :: s) h := rf_pure (i := .aload_n 1) (len := 1) (okD_ok (by decide +kernel)) rfl
theorem e115_42 (ha : isN a) : rf d 115 42 ls (.ref a :: s) (SH n, I, L, R, nc, ns, nx) = rf d 115 45 ls (.int (I a 11) :: s) (SH n, I, L, R, nc, ns, nx) := g_I (idx := 44) (by decide +kernel) ow115 f_1_44 rfl (kdN0 ha) (geN ha)
theorem e115_45 (ha : isN a) : rf d 115 45 ls (.int x :: .ref a :: s) (SH n, I, L, R, nc, ns, nx) = rf d 115 48 ls s (SH n, ip_up I a 11 x, L, R, nc, ns, nx) := g_pI (idx := 44) (by decide +kernel) ow115 f_1_44 rfl (by decide +kernel) (kdN0 ha) (geN ha)
theorem e115_48 : rf d 115 48 [l0, some (.ref a)] s h = rf d 115 49 [l0, some (.ref a)] (.ref a :: s) h := rf_pure (i := .aload_n 1) (len := 1) (okD_ok (by decide +kernel)) rfl
theorem e115_49 (hR : LYR R) (ha : isN a) : rf d 115 49 ls (.ref a :: s) (SH n, I, L, R, nc, ns, nx) = rf d 115 52 ls (.ref (a + 2) :: s) (SH n, I, L, R, nc, ns, nx) := g_R (idx := 15) (by decide +kernel) ow115 f_1_15 rfl (kdN0 ha) (geN ha) (lyN13 hR ha)
theorem e115_52 : rf d 115 52 ls s h = rf d 115 53 ls (.int 0 :: s) h := rf_pure (i := .iconst (0)) (len := 1) (okD_ok (by decide +kernel)) rfl
theorem e115_53 : rf d 115 53 [some (.ref a), l1] s h = rf d 115 54 [some (.ref a), l1] (.ref a :: s) h := rf_pure (i := .aload_n 0) (len := 1) (okD_ok (by decide +kernel)) rfl
theorem e115_54 (hR : LYR R) (ha : isN a) : rf d 115 54 ls (.ref a :: s) (SH n, I, L, R, nc, ns, nx) = rf d 115 57 ls (.ref (a + 2) :: s) (SH n, I, L, R, nc, ns, nx) := g_R (idx := 15) (by decide +kernel) ow115 f_1_15 rfl (kdN0 ha) (geN ha) (lyN13 hR ha)
theorem e115_57 : rf d 115 57 ls s h = rf d 115 58 ls (.int 0 :: s) h := rf_pure (i := .iconst (0)) (len := 1) (okD_ok (by decide +kernel)) rfl
theorem e115_58 : rf d 115 58 ls s h = rf d 115 59 ls (.int 2 :: s) h := rf_pure (i := .iconst (2)) (len := 1) (okD_ok (by decide +kernel)) rfl
theorem e115_59 (hcat : ip_cat s ≤ 8) (ka : kd (SH n) a = 100 ∧ 2 ≤ a) (kb : kd (SH n) b = 100 ∧ 2 ≤ b) (hsp : ¬ sp < 0 ∧ ¬ dp < 0 ∧ ¬ z < 0 ∧ sp.toNatClampNeg + z.toNatClampNeg ≤ ln (SH n) b ∧ dp.toNatClampNeg + z.toNatClampNeg ≤ ln (SH n) a) : rf d 115 59 ls (.int z :: .int dp :: .ref a :: .int sp :: .ref b :: s) (SH n, I, L, R, nc, ns, nx) = rf d 115 62 ls s (SH n, ip_row I a (va_cpy (I b) (I a) sp.toNatClampNeg dp.toNatClampNeg z.toNatClampNeg), L, R, nc, ns, true) := g_cpI (idx := 69) (by decide +kernel) ow115 (by decide +kernel) hcat ka kb hsp
theorem e115_59l (hcat : ip_cat s ≤ 8) (ka : kd (SH n) a = 101 ∧ 2 ≤ a) (kb : kd (SH n) b = 101 ∧ 2 ≤ b) (hsp : ¬ sp < 0 ∧ ¬ dp < 0 ∧ ¬ z < 0 ∧ sp.toNatClampNeg + z.toNatClampNeg ≤ ln (SH n) b ∧ dp.toNatClampNeg + z.toNatClampNeg ≤ ln (SH n) a) : rf d 115 59 ls (.int z :: .int dp :: .ref a :: .int sp :: .ref b :: s) (SH n, I, L, R, nc, ns, nx) = rf d 115 62 ls s (SH n, I, ip_row L a (va_cpy (L b) (L a) sp.toNatClampNeg dp.toNatClampNeg z.toNatClampNeg), R, nc, ns, true) := g_cpL (idx := 69) (by decide +kernel) ow115 (by decide +kernel) hcat ka kb hsp
theorem e115_62 : rf d 115 62 [l0, some (.ref a)] s h = rf d 115 63 [l0, some (.ref a)] (.ref a :: s) h := rf_pure (i := .aload_n 1) (len := 1) (okD_ok (by decide +kernel)) rfl
theorem e115_63 (hR : LYR R) (ha : isN a) : rf d 115 63 ls (.ref a :: s) (SH n, I, L, R, nc, ns, nx) = rf d 115 66 ls (.ref (a + 3) :: s) (SH n, I, L, R, nc, ns, nx) := g_R (idx := 18) (by decide +kernel) ow115 f_1_18 rfl (kdN0 ha) (geN ha) (lyN14 hR ha)
theorem e115_66 : rf d 115 66 ls s h = rf d 115 67 ls (.int 0 :: s) h := rf_pure (i := .iconst (0)) (len := 1) (okD_ok (by decide +kernel)) rfl
theorem e115_67 : rf d 115 67 [some (.ref a), l1] s h = rf d 115 68 [some (.ref a), l1] (.ref a :: s) h := rf_pure (i := .aload_n 0) (len := 1) (okD_ok (by decide +kernel)) rfl
theorem e115_68 (hR : LYR R) (ha : isN a) : rf d 115 68 ls (.ref a :: s) (SH n, I, L, R, nc, ns, nx) = rf d 115 71 ls (.ref (a + 3) :: s) (SH n, I, L, R, nc, ns, nx) := g_R (idx := 18) (by decide +kernel) ow115 f_1_18 rfl (kdN0 ha) (geN ha) (lyN14 hR ha)
theorem e115_71 : rf d 115 71 ls s h = rf d 115 72 ls (.int 0 :: s) h := rf_pure (i := .iconst (0)) (len := 1) (okD_ok (by decide +kernel)) rfl
theorem e115_72 : rf d 115 72 ls s h = rf d 115 74 ls (.int 8 :: s) h := rf_pure (i := .bipush (8)) (len := 2) (okD_ok (by decide +kernel)) rfl
theorem e115_74 (hcat : ip_cat s ≤ 8) (ka : kd (SH n) a = 100 ∧ 2 ≤ a) (kb : kd (SH n) b = 100 ∧ 2 ≤ b) (hsp : ¬ sp < 0 ∧ ¬ dp < 0 ∧ ¬ z < 0 ∧ sp.toNatClampNeg + z.toNatClampNeg ≤ ln (SH n) b ∧ dp.toNatClampNeg + z.toNatClampNeg ≤ ln (SH n) a) : rf d 115 74 ls (.int z :: .int dp :: .ref a :: .int sp :: .ref b :: s) (SH n, I, L, R, nc, ns, nx) = rf d 115 77 ls s (SH n, ip_row I a (va_cpy (I b) (I a) sp.toNatClampNeg dp.toNatClampNeg z.toNatClampNeg), L, R, nc, ns, true) := g_cpI (idx := 69) (by decide +kernel) ow115 (by decide +kernel) hcat ka kb hsp
theorem e115_74l (hcat : ip_cat s ≤ 8) (ka : kd (SH n) a = 101 ∧ 2 ≤ a) (kb : kd (SH n) b = 101 ∧ 2 ≤ b) (hsp : ¬ sp < 0 ∧ ¬ dp < 0 ∧ ¬ z < 0 ∧ sp.toNatClampNeg + z.toNatClampNeg ≤ ln (SH n) b ∧ dp.toNatClampNeg + z.toNatClampNeg ≤ ln (SH n) a) : rf d 115 74 ls (.int z :: .int dp :: .ref a :: .int sp :: .ref b :: s) (SH n, I, L, R, nc, ns, nx) = rf d 115 77 ls s (SH n, I, ip_row L a (va_cpy (L b) (L a) sp.toNatClampNeg dp.toNatClampNeg z.toNatClampNeg), R, nc, ns, true) := g_cpL (idx := 69) (by decide +kernel) ow115 (by decide +kernel) hcat ka kb hsp
theorem e115_77 : rf d 115 77 [l0, some (.ref a)] s h = rf d 115 78 [l0, some (.ref a)] (.ref a :: s) h := rf_pure (i := .aload_n 1) (len := 1) (okD_ok (by decide +kernel)) rfl
theorem e115_78 (hR : LYR R) (ha : isN a) : rf d 115 78 ls (.ref a :: s) (SH n, I, L, R, nc, ns, nx) = rf d 115 81 ls (.ref (a + 4) :: s) (SH n, I, L, R, nc, ns, nx) := g_R (idx := 21) (by decide +kernel) ow115 f_1_21 rfl (kdN0 ha) (geN ha) (lyN15 hR ha)
theorem e115_81 : rf d 115 81 ls s h = rf d 115 82 ls (.int 0 :: s) h := rf_pure (i := .iconst (0)) (len := 1) (okD_ok (by decide +kernel)) rfl
theorem e115_82 : rf d 115 82 [some (.ref a), l1] s h = rf d 115 83 [some (.ref a), l1] (.ref a :: s) h := rf_pure (i := .aload_n 0) (len := 1) (okD_ok (by decide +kernel)) rfl
theorem e115_83 (hR : LYR R) (ha : isN a) : rf d 115 83 ls (.ref a :: s) (SH n, I, L, R, nc, ns, nx) = rf d 115 86 ls (.ref (a + 4) :: s) (SH n, I, L, R, nc, ns, nx) := g_R (idx := 21) (by decide +kernel) ow115 f_1_21 rfl (kdN0 ha) (geN ha) (lyN15 hR ha)
theorem e115_86 : rf d 115 86 ls s h = rf d 115 87 ls (.int 0 :: s) h := rf_pure (i := .iconst (0)) (len := 1) (okD_ok (by decide +kernel)) rfl
theorem e115_87 : rf d 115 87 ls s h = rf d 115 89 ls (.int 8 :: s) h := rf_pure (i := .bipush (8)) (len := 2) (okD_ok (by decide +kernel)) rfl
theorem e115_89 (hcat : ip_cat s ≤ 8) (ka : kd (SH n) a = 100 ∧ 2 ≤ a) (kb : kd (SH n) b = 100 ∧ 2 ≤ b) (hsp : ¬ sp < 0 ∧ ¬ dp < 0 ∧ ¬ z < 0 ∧ sp.toNatClampNeg + z.toNatClampNeg ≤ ln (SH n) b ∧ dp.toNatClampNeg + z.toNatClampNeg ≤ ln (SH n) a) : rf d 115 89 ls (.int z :: .int dp :: .ref a :: .int sp :: .ref b :: s) (SH n, I, L, R, nc, ns, nx) = rf d 115 92 ls s (SH n, ip_row I a (va_cpy (I b) (I a) sp.toNatClampNeg dp.toNatClampNeg z.toNatClampNeg), L, R, nc, ns, true) := g_cpI (idx := 69) (by decide +kernel) ow115 (by decide +kernel) hcat ka kb hsp
theorem e115_89l (hcat : ip_cat s ≤ 8) (ka : kd (SH n) a = 101 ∧ 2 ≤ a) (kb : kd (SH n) b = 101 ∧ 2 ≤ b) (hsp : ¬ sp < 0 ∧ ¬ dp < 0 ∧ ¬ z < 0 ∧ sp.toNatClampNeg + z.toNatClampNeg ≤ ln (SH n) b ∧ dp.toNatClampNeg + z.toNatClampNeg ≤ ln (SH n) a) : rf d 115 89 ls (.int z :: .int dp :: .ref a :: .int sp :: .ref b :: s) (SH n, I, L, R, nc, ns, nx) = rf d 115 92 ls s (SH n, I, ip_row L a (va_cpy (L b) (L a) sp.toNatClampNeg dp.toNatClampNeg z.toNatClampNeg), R, nc, ns, true) := g_cpL (idx := 69) (by decide +kernel) ow115 (by decide +kernel) hcat ka kb hsp
theorem e115_92 : rf d 115 92 ls [] h = some (.inl none, h) := g_rv (by decide +kernel) rt115
theorem en116 : cf d 116 [.ref a, .int x0, .int x1] h = rf d 116 0 [some (.ref a), some (.int x0), some (.int x1)] [] h := rfl
theorem e116_0 : rf d 116 0 [some (.ref a), l1, l2] s h = rf d 116 1 [some (.ref a), l1, l2] (.ref a :: s) h := rf_pure (i := .aload_n 0) (len := 1) (okD_ok (by decide +kernel)) rfl
theorem e116_1 (hR : LYR R) (ha : isN a) : rf d 116 1 ls (.ref a :: s) (SH n, I, L, R, nc, ns, nx) = rf d 116 4 ls (.ref (a + 1) :: s) (SH n, I, L, R, nc, ns, nx) := g_R (idx := 9) (by decide +kernel) ow116 f_1_9 rfl (kdN0 ha) (geN ha) (lyN12 hR ha)
theorem e116_4 : rf d 116 4 ls s h = rf d 116 5 ls (.int 0 :: s) h := rf_pure (i := .iconst (0)) (len := 1) (okD_ok (by decide +kernel)) rfl
theorem e116_5 : rf d 116 5 [l0, some (.int x), l2] s h = rf d 116 6 [l0, some (.int x), l2] (.int x :: s) h := rf_pure (i := .iload_n 1) (len := 1) (okD_ok (by decide +kernel)) rfl
theorem e116_6 (q : ia n a j) : rf d 116 6 ls (.int x :: .int j :: .ref a :: s) (SH n, I, L, R, nc, ns, nx) = rf d 116 7 ls s (SH n, ip_up I a j.toNatClampNeg x, L, R, nc, ns, nx) := g_ias (by decide +kernel) q
theorem e116_7 : rf d 116 7 [some (.ref a), l1, l2] s h = rf d 116 8 [some (.ref a), l1, l2] (.ref a :: s) h := rf_pure (i := .aload_n 0) (len := 1) (okD_ok (by decide +kernel)) rfl
theorem e116_8 (hR : LYR R) (ha : isN a) : rf d 116 8 ls (.ref a :: s) (SH n, I, L, R, nc, ns, nx) = rf d 116 11 ls (.ref (a + 1) :: s) (SH n, I, L, R, nc, ns, nx) := g_R (idx := 9) (by decide +kernel) ow116 f_1_9 rfl (kdN0 ha) (geN ha) (lyN12 hR ha)
theorem e116_11 : rf d 116 11 ls s h = rf d 116 12 ls (.int 1 :: s) h := rf_pure (i := .iconst (1)) (len := 1) (okD_ok (by decide +kernel)) rfl
theorem e116_12 : rf d 116 12 [l0, l1, some (.int x)] s h = rf d 116 13 [l0, l1, some (.int x)] (.int x :: s) h := rf_pure (i := .iload_n 2) (len := 1) (okD_ok (by decide +kernel)) rfl
theorem e116_13 (q : ia n a j) : rf d 116 13 ls (.int x :: .int j :: .ref a :: s) (SH n, I, L, R, nc, ns, nx) = rf d 116 14 ls s (SH n, ip_up I a j.toNatClampNeg x, L, R, nc, ns, nx) := g_ias (by decide +kernel) q
theorem e116_14 : rf d 116 14 ls [] h = some (.inl none, h) := g_rv (by decide +kernel) rt116
theorem en117 : cf d 117 [.ref a, .int x0] h = rf d 117 0 [some (.ref a), some (.int x0)] [] h := rfl
theorem e117_0 : rf d 117 0 [some (.ref a), l1] s h = rf d 117 1 [some (.ref a), l1] (.ref a :: s) h := rf_pure (i := .aload_n 0) (len := 1) (okD_ok (by decide +kernel)) rfl
theorem e117_1 (ha : isN a) : rf d 117 1 ls (.ref a :: s) (SH n, I, L, R, nc, ns, nx) = rf d 117 4 ls (.int (I a 4) :: s) (SH n, I, L, R, nc, ns, nx) := g_I (idx := 28) (by decide +kernel) ow117 f_1_28 rfl (kdN0 ha) (geN ha)
theorem e117_4 : rf d 117 4 ls s h = rf d 117 5 ls (.int 1 :: s) h := rf_pure (i := .iconst (1)) (len := 1) (okD_ok (by decide +kernel)) rfl
theorem e117_5 : rf d 117 5 [l0, some (.int x)] s h = rf d 117 6 [l0, some (.int x)] (.int x :: s) h := rf_pure (i := .iload_n 1) (len := 1) (okD_ok (by decide +kernel)) rfl
theorem e117_6 : rf d 117 6 ls (.int y :: .int x :: s) h = rf d 117 7 ls (.int (x <<< (y &&& 31)) :: s) h := rf_pure (i := .ishl) (len := 1) (okD_ok (by decide +kernel)) rfl
theorem e117_7 : rf d 117 7 ls (.int y :: .int x :: s) h = rf d 117 8 ls (.int (x &&& y) :: s) h := rf_pure (i := .iand) (len := 1) (okD_ok (by decide +kernel)) rfl
theorem e117_8 : rf d 117 8 ls (.int x :: s) h = if x = 0 then rf d 117 15 ls s h else rf d 117 11 ls s h := g_if (c := .eq) (off := 7) _ (by decide +kernel) rfl cmp_d
theorem e117_11 : rf d 117 11 ls s h = rf d 117 12 ls (.int 0 :: s) h := rf_pure (i := .iconst (0)) (len := 1) (okD_ok (by decide +kernel)) rfl
theorem e117_12 : rf d 117 12 ls s h = rf d 117 16 ls s h := rf_goto ⟨okD_ok (i := .goto (4)) (len := 3) (by decide +kernel), rfl⟩
theorem e117_15 : rf d 117 15 ls s h = rf d 117 16 ls (.int 1 :: s) h := rf_pure (i := .iconst (1)) (len := 1) (okD_ok (by decide +kernel)) rfl
theorem e117_16 : rf d 117 16 ls [.int x] h = some (.inl (some (.int x)), h) := g_ri (by decide +kernel) rt117
theorem en118 : cf d 118 [.ref a] h = rf d 118 0 [some (.ref a)] [] h := rfl
theorem e118_0 : rf d 118 0 [some (.ref a)] s h = rf d 118 1 [some (.ref a)] (.ref a :: s) h := rf_pure (i := .aload_n 0) (len := 1) (okD_ok (by decide +kernel)) rfl
theorem e118_1 : rf d 118 1 [some (.ref a)] s h = rf d 118 2 [some (.ref a)] (.ref a :: s) h := rf_pure (i := .aload_n 0) (len := 1) (okD_ok (by decide +kernel)) rfl
theorem e118_2 : rf d 118 2 ls (.ref 2 :: s) (SH n, I, L, R, nc, ns, nx) = rf d 118 5 ls (.int (I 2 6) :: s) (SH n, I, L, R, nc, ns, nx) := g_I (idx := 40) (by decide +kernel) ow118 f_7_40 rfl rfl (by decide)
theorem e118_5 : rf d 118 5 ls (.int x :: .ref 2 :: s) (SH n, I, L, R, nc, ns, nx) = rf d 118 8 ls s (SH n, ip_up I 2 7 x, L, R, nc, ns, nx) := g_pI (idx := 43) (by decide +kernel) ow118 f_7_43 rfl (by decide +kernel) rfl (by decide)
theorem e118_8 : rf d 118 8 [some (.ref a)] s h = rf d 118 9 [some (.ref a)] (.ref a :: s) h := rf_pure (i := .aload_n 0) (len := 1) (okD_ok (by decide +kernel)) rfl
theorem e118_9 : rf d 118 9 ls (.int x :: s) h = rf d 118 10 ls (.int x :: .int x :: s) h := rf_pure (i := .dup) (len := 1) (okD_ok (by decide +kernel)) rfl
theorem e118_9r : rf d 118 9 ls (.ref a :: s) h = rf d 118 10 ls (.ref a :: .ref a :: s) h := rf_pure (i := .dup) (len := 1) (okD_ok (by decide +kernel)) rfl
theorem e118_10 : rf d 118 10 ls (.ref 2 :: s) (SH n, I, L, R, nc, ns, nx) = rf d 118 13 ls (.int (I 2 6) :: s) (SH n, I, L, R, nc, ns, nx) := g_I (idx := 40) (by decide +kernel) ow118 f_7_40 rfl rfl (by decide)
theorem e118_13 : rf d 118 13 ls s h = rf d 118 14 ls (.int 1 :: s) h := rf_pure (i := .iconst (1)) (len := 1) (okD_ok (by decide +kernel)) rfl
theorem e118_14 : rf d 118 14 ls (.int y :: .int x :: s) h = rf d 118 15 ls (.int (x + y) :: s) h := rf_pure (i := .iadd) (len := 1) (okD_ok (by decide +kernel)) rfl
theorem e118_15 : rf d 118 15 ls (.int x :: .ref 2 :: s) (SH n, I, L, R, nc, ns, nx) = rf d 118 18 ls s (SH n, ip_up I 2 6 x, L, R, nc, ns, nx) := g_pI (idx := 40) (by decide +kernel) ow118 f_7_40 rfl (by decide +kernel) rfl (by decide)
theorem e118_18 : rf d 118 18 [some (.ref a)] s h = rf d 118 19 [some (.ref a)] (.ref a :: s) h := rf_pure (i := .aload_n 0) (len := 1) (okD_ok (by decide +kernel)) rfl
theorem e118_19 : rf d 118 19 ls (.ref 2 :: s) (SH n, I, L, R, nc, ns, nx) = rf d 118 22 ls (.int (I 2 7) :: s) (SH n, I, L, R, nc, ns, nx) := g_I (idx := 43) (by decide +kernel) ow118 f_7_43 rfl rfl (by decide)
theorem e118_22 : rf d 118 22 ls [.int x] h = some (.inl (some (.int x)), h) := g_ri (by decide +kernel) rt118
theorem en119 : cf d 119 [.ref a0, .ref a1] h = rf d 119 0 [some (.ref a0), some (.ref a1), none] [] h := rfl
theorem e119_0 : rf d 119 0 [l0, some (.ref a), l2] s h = rf d 119 1 [l0, some (.ref a), l2] (.ref a :: s) h := rf_pure (i := .aload_n 1) (len := 1) (okD_ok (by decide +kernel)) rfl
theorem e119_1 : rf d 119 1 ls s h = rf d 119 2 ls (.int 0 :: s) h := rf_pure (i := .iconst (0)) (len := 1) (okD_ok (by decide +kernel)) rfl
theorem e119_2 : rf d 119 2 [some (.ref a), l1, l2] s h = rf d 119 3 [some (.ref a), l1, l2] (.ref a :: s) h := rf_pure (i := .aload_n 0) (len := 1) (okD_ok (by decide +kernel)) rfl
theorem e119_3 (hcat : ip_cat s ≤ 8) : rf (d + 1) 119 3 ls (.ref 2 :: s) (SH n, I, L, R, nc, ns, nx) = rf_k (d + 1) 119 3 ls s (cf d 120 [.ref 2] (SH n, I, L, R, nc, ns, nx)) := g_cv (idx := 49) (t := 7) [] (by decide +kernel) ow119 ms_9_49 mt_9_49 cy120_7 rfl rfl mL120 rfl rfl (by decide) hcat
theorem e119_6 : rf d 119 6 ls (.int x :: s) h = rf d 119 7 ls (.long x.toInt64 :: s) h := rf_pure (i := .i2l) (len := 1) (okD_ok (by decide +kernel)) rfl
theorem e119_7 (q : la n a j) : rf d 119 7 ls (.long u :: .int j :: .ref a :: s) (SH n, I, L, R, nc, ns, nx) = rf d 119 8 ls s (SH n, I, ip_up L a j.toNatClampNeg u, R, nc, ns, nx) := g_las (by decide +kernel) q
theorem e119_8 : rf d 119 8 ls s h = rf d 119 14 ls s h := rf_goto ⟨okD_ok (i := .goto (6)) (len := 3) (by decide +kernel), rfl⟩
theorem e119_14 : rf d 119 14 ls s h = rf d 119 15 ls (.int 0 :: s) h := rf_pure (i := .iconst (0)) (len := 1) (okD_ok (by decide +kernel)) rfl
theorem e119_15 : rf d 119 15 ls [.int x] h = some (.inl (some (.int x)), h) := g_ri (by decide +kernel) rt119
theorem en120 : cf d 120 [.ref a] h = rf d 120 0 [some (.ref a), none] [] h := rfl
theorem e120_0 : rf d 120 0 [some (.ref a), l1] s h = rf d 120 1 [some (.ref a), l1] (.ref a :: s) h := rf_pure (i := .aload_n 0) (len := 1) (okD_ok (by decide +kernel)) rfl
theorem e120_1 (hR : LYR R) : rf d 120 1 ls (.ref 2 :: s) (SH n, I, L, R, nc, ns, nx) = rf d 120 4 ls (.ref 23 :: s) (SH n, I, L, R, nc, ns, nx) := g_R (idx := 36) (by decide +kernel) ow120 f_7_36 rfl rfl (by decide) (ly_2_5 hR)
theorem e120_4 : rf d 120 4 [some (.ref a), l1] s h = rf d 120 5 [some (.ref a), l1] (.ref a :: s) h := rf_pure (i := .aload_n 0) (len := 1) (okD_ok (by decide +kernel)) rfl
theorem e120_5 : rf d 120 5 ls (.ref 2 :: s) (SH n, I, L, R, nc, ns, nx) = rf d 120 8 ls (.int (I 2 7) :: s) (SH n, I, L, R, nc, ns, nx) := g_I (idx := 43) (by decide +kernel) ow120 f_7_43 rfl rfl (by decide)
theorem e120_8 (hR : LYR R) (q : inb j 40) : rf d 120 8 ls (.int j :: .ref 23 :: s) (SH n, I, L, R, nc, ns, nx) = rf d 120 9 ls (.ref (nd j) :: s) (SH n, I, L, R, nc, ns, nx) := g_aal (by decide +kernel) hR q
theorem e120_9 (hn : ip_nl l0 = true) : rf d 120 9 [l0, l1] (.ref a :: s) h = rf d 120 10 [l0, some (.ref a)] s h := g_sta (i := .astore_n 1) (len := 1) (q := 0) (p := 1) (by decide +kernel) rfl rfl hn
theorem e120_10 : rf d 120 10 [l0, some (.ref a)] s h = rf d 120 11 [l0, some (.ref a)] (.ref a :: s) h := rf_pure (i := .aload_n 1) (len := 1) (okD_ok (by decide +kernel)) rfl
theorem e120_11 (ha : isN a) : rf d 120 11 ls (.ref a :: s) (SH n, I, L, R, nc, ns, nx) = rf d 120 14 ls (.int (I a 0) :: s) (SH n, I, L, R, nc, ns, nx) := g_I (idx := 138) (by decide +kernel) ow120 f_7_138 rfl (kdN0 ha) (geN ha)
theorem e120_14 : rf d 120 14 ls (.int x :: s) h = if x = 0 then rf d 120 25 ls s h else rf d 120 17 ls s h := g_if (c := .eq) (off := 11) _ (by decide +kernel) rfl cmp_d
theorem e120_17 : rf d 120 17 [l0, some (.ref a)] s h = rf d 120 18 [l0, some (.ref a)] (.ref a :: s) h := rf_pure (i := .aload_n 1) (len := 1) (okD_ok (by decide +kernel)) rfl
theorem e120_18 (ha : isN a) : rf d 120 18 ls (.ref a :: s) (SH n, I, L, R, nc, ns, nx) = rf d 120 21 ls (.int (I a 2) :: s) (SH n, I, L, R, nc, ns, nx) := g_I (idx := 201) (by decide +kernel) ow120 f_7_201 rfl (kdN0 ha) (geN ha)
theorem e120_21 : rf d 120 21 ls s h = rf d 120 22 ls (.int 3 :: s) h := rf_pure (i := .iconst (3)) (len := 1) (okD_ok (by decide +kernel)) rfl
theorem e120_22 : rf d 120 22 ls (.int y :: .int x :: s) h = if x = y then rf d 120 35 ls s h else rf d 120 25 ls s h := g_ic (c := .eq) (off := 13) _ (by decide +kernel) rfl cmp_d
theorem e120_25 : rf d 120 25 ls [] h = some (.inr "java/lang/IllegalStateException", ip_hx h) := g_thr (idx := 147) (by decide +kernel) ow120 (by decide +kernel) (by decide +kernel)
theorem e120_35 : rf d 120 35 [some (.ref a), l1] s h = rf d 120 36 [some (.ref a), l1] (.ref a :: s) h := rf_pure (i := .aload_n 0) (len := 1) (okD_ok (by decide +kernel)) rfl
theorem e120_36 (hcat : ip_cat s ≤ 8) : rf (d + 1) 120 36 ls (.ref 2 :: s) (SH n, I, L, R, nc, ns, nx) = rf_k (d + 1) 120 36 ls s (cf d 107 [.ref 2] (SH n, I, L, R, nc, ns, nx)) := g_cv (idx := 188) (t := 7) [] (by decide +kernel) ow120 ms_7_188 mt_7_188 cy107_7 rfl rfl mL107 rfl rfl (by decide) hcat
theorem e120_39 : rf d 120 39 [some (.ref a), l1] s h = rf d 120 40 [some (.ref a), l1] (.ref a :: s) h := rf_pure (i := .aload_n 0) (len := 1) (okD_ok (by decide +kernel)) rfl
theorem e120_40 (hR : LYR R) : rf d 120 40 ls (.ref 2 :: s) (SH n, I, L, R, nc, ns, nx) = rf d 120 43 ls (.ref 23 :: s) (SH n, I, L, R, nc, ns, nx) := g_R (idx := 36) (by decide +kernel) ow120 f_7_36 rfl rfl (by decide) (ly_2_5 hR)
theorem e120_43 : rf d 120 43 [some (.ref a), l1] s h = rf d 120 44 [some (.ref a), l1] (.ref a :: s) h := rf_pure (i := .aload_n 0) (len := 1) (okD_ok (by decide +kernel)) rfl
theorem e120_44 : rf d 120 44 ls (.ref 2 :: s) (SH n, I, L, R, nc, ns, nx) = rf d 120 47 ls (.int (I 2 6) :: s) (SH n, I, L, R, nc, ns, nx) := g_I (idx := 40) (by decide +kernel) ow120 f_7_40 rfl rfl (by decide)
theorem e120_47 (hR : LYR R) (q : inb j 40) : rf d 120 47 ls (.int j :: .ref 23 :: s) (SH n, I, L, R, nc, ns, nx) = rf d 120 48 ls (.ref (nd j) :: s) (SH n, I, L, R, nc, ns, nx) := g_aal (by decide +kernel) hR q
theorem e120_48 : rf d 120 48 [l0, some (.ref a)] s h = rf d 120 49 [l0, some (.ref a)] (.ref a :: s) h := rf_pure (i := .aload_n 1) (len := 1) (okD_ok (by decide +kernel)) rfl
theorem e120_49 : rf d 120 49 [some (.ref a), l1] s h = rf d 120 50 [some (.ref a), l1] (.ref a :: s) h := rf_pure (i := .aload_n 0) (len := 1) (okD_ok (by decide +kernel)) rfl
theorem e120_50 : rf d 120 50 ls (.ref 2 :: s) (SH n, I, L, R, nc, ns, nx) = rf d 120 53 ls (.int (I 2 7) :: s) (SH n, I, L, R, nc, ns, nx) := g_I (idx := 43) (by decide +kernel) ow120 f_7_43 rfl rfl (by decide)
theorem e120_53 (hb : isN b) (hcat : ip_cat s ≤ 8) : rf (d + 1) 120 53 ls (.int x1 :: .ref a0 :: .ref b :: s) (SH n, I, L, R, nc, ns, nx) = rf_k (d + 1) 120 53 ls s (cf d 121 [.ref b, .ref a0, .int x1] (SH n, I, L, R, nc, ns, nx)) := g_cv (idx := 206) (t := 1) [.int x1, .ref a0] (by decide +kernel) ow120 ms_7_206 mt_7_206 cy121_1 rfl rfl mL121 rfl (kdN0 hb) (geN hb) hcat
theorem e120_56 : rf d 120 56 [some (.ref a), l1] s h = rf d 120 57 [some (.ref a), l1] (.ref a :: s) h := rf_pure (i := .aload_n 0) (len := 1) (okD_ok (by decide +kernel)) rfl
theorem e120_57 (hcat : ip_cat s ≤ 8) : rf (d + 1) 120 57 ls (.ref 2 :: s) (SH n, I, L, R, nc, ns, nx) = rf_k (d + 1) 120 57 ls s (cf d 118 [.ref 2] (SH n, I, L, R, nc, ns, nx)) := g_cv (idx := 198) (t := 7) [] (by decide +kernel) ow120 ms_7_198 mt_7_198 cy118_7 rfl rfl mL118 rfl rfl (by decide) hcat
theorem e120_60 : rf d 120 60 ls [.int x] h = some (.inl (some (.int x)), h) := g_ri (by decide +kernel) rt120
theorem en121 : cf d 121 [.ref a, .ref a0, .int x1] h = rf d 121 0 [some (.ref a), some (.ref a0), some (.int x1)] [] h := rfl
theorem e121_0 : rf d 121 0 [some (.ref a), l1, l2] s h = rf d 121 1 [some (.ref a), l1, l2] (.ref a :: s) h := rf_pure (i := .aload_n 0) (len := 1) (okD_ok (by decide +kernel)) rfl
theorem e121_1 : rf d 121 1 [l0, some (.ref a), l2] s h = rf d 121 2 [l0, some (.ref a), l2] (.ref a :: s) h := rf_pure (i := .aload_n 1) (len := 1) (okD_ok (by decide +kernel)) rfl
theorem e121_2 (hb : isN b) (hcat : ip_cat s ≤ 8) : rf (d + 1) 121 2 ls (.ref a0 :: .ref b :: s) (SH n, I, L, R, nc, ns, nx) = rf_k (d + 1) 121 2 ls s (cf d 115 [.ref b, .ref a0] (SH n, I, L, R, nc, ns, nx)) := g_cv (idx := 47) (t := 1) [.ref a0] (by decide +kernel) ow121 ms_1_47 mt_1_47 cy115_1 rfl rfl mL115 rfl (kdN0 hb) (geN hb) hcat
theorem e121_5 : rf d 121 5 [some (.ref a), l1, l2] s h = rf d 121 6 [some (.ref a), l1, l2] (.ref a :: s) h := rf_pure (i := .aload_n 0) (len := 1) (okD_ok (by decide +kernel)) rfl
theorem e121_6 : rf d 121 6 [l0, l1, some (.int x)] s h = rf d 121 7 [l0, l1, some (.int x)] (.int x :: s) h := rf_pure (i := .iload_n 2) (len := 1) (okD_ok (by decide +kernel)) rfl
theorem e121_7 : rf d 121 7 [l0, some (.ref a), l2] s h = rf d 121 8 [l0, some (.ref a), l2] (.ref a :: s) h := rf_pure (i := .aload_n 1) (len := 1) (okD_ok (by decide +kernel)) rfl
theorem e121_8 (ha : isN a) : rf d 121 8 ls (.ref a :: s) (SH n, I, L, R, nc, ns, nx) = rf d 121 11 ls (.int (I a 6) :: s) (SH n, I, L, R, nc, ns, nx) := g_I (idx := 35) (by decide +kernel) ow121 f_1_35 rfl (kdN0 ha) (geN ha)
theorem e121_11 (hb : isN b) (hcat : ip_cat s ≤ 8) : rf (d + 1) 121 11 ls (.int x1 :: .int x0 :: .ref b :: s) (SH n, I, L, R, nc, ns, nx) = rf_k (d + 1) 121 11 ls s (cf d 12 [.ref b, .int x0, .int x1] (SH n, I, L, R, nc, ns, nx)) := g_cv (idx := 24) (t := 1) [.int x1, .int x0] (by decide +kernel) ow121 ms_1_24 mt_1_24 cy12_1 rfl rfl mL12 rfl (kdN0 hb) (geN hb) hcat
theorem e121_14 : rf d 121 14 [some (.ref a), l1, l2] s h = rf d 121 15 [some (.ref a), l1, l2] (.ref a :: s) h := rf_pure (i := .aload_n 0) (len := 1) (okD_ok (by decide +kernel)) rfl
theorem e121_15 : rf d 121 15 [l0, some (.ref a), l2] s h = rf d 121 16 [l0, some (.ref a), l2] (.ref a :: s) h := rf_pure (i := .aload_n 1) (len := 1) (okD_ok (by decide +kernel)) rfl
theorem e121_16 (ha : isN a) : rf d 121 16 ls (.ref a :: s) (SH n, I, L, R, nc, ns, nx) = rf d 121 19 ls (.int (I a 11) :: s) (SH n, I, L, R, nc, ns, nx) := g_I (idx := 44) (by decide +kernel) ow121 f_1_44 rfl (kdN0 ha) (geN ha)
theorem e121_19 : rf d 121 19 ls s h = rf d 121 20 ls (.int 1 :: s) h := rf_pure (i := .iconst (1)) (len := 1) (okD_ok (by decide +kernel)) rfl
theorem e121_20 : rf d 121 20 ls (.int y :: .int x :: s) h = rf d 121 21 ls (.int (x + y) :: s) h := rf_pure (i := .iadd) (len := 1) (okD_ok (by decide +kernel)) rfl
theorem e121_21 (ha : isN a) : rf d 121 21 ls (.int x :: .ref a :: s) (SH n, I, L, R, nc, ns, nx) = rf d 121 24 ls s (SH n, ip_up I a 11 x, L, R, nc, ns, nx) := g_pI (idx := 44) (by decide +kernel) ow121 f_1_44 rfl (by decide +kernel) (kdN0 ha) (geN ha)
theorem e121_24 : rf d 121 24 ls [] h = some (.inl none, h) := g_rv (by decide +kernel) rt121
theorem en122 : cf d 122 [.ref a0, .int x1, .ref a2] h = rf d 122 0 [some (.ref a0), some (.int x1), some (.ref a2), none] [] h := rfl
theorem e122_0 : rf d 122 0 [l0, l1, some (.ref a), l3] s h = rf d 122 1 [l0, l1, some (.ref a), l3] (.ref a :: s) h := rf_pure (i := .aload_n 2) (len := 1) (okD_ok (by decide +kernel)) rfl
theorem e122_1 : rf d 122 1 ls s h = rf d 122 2 ls (.int 0 :: s) h := rf_pure (i := .iconst (0)) (len := 1) (okD_ok (by decide +kernel)) rfl
theorem e122_2 : rf d 122 2 [some (.ref a), l1, l2, l3] s h = rf d 122 3 [some (.ref a), l1, l2, l3] (.ref a :: s) h := rf_pure (i := .aload_n 0) (len := 1) (okD_ok (by decide +kernel)) rfl
theorem e122_3 : rf d 122 3 [l0, some (.int x), l2, l3] s h = rf d 122 4 [l0, some (.int x), l2, l3] (.int x :: s) h := rf_pure (i := .iload_n 1) (len := 1) (okD_ok (by decide +kernel)) rfl
theorem e122_4 (hcat : ip_cat s ≤ 8) : rf (d + 1) 122 4 ls (.int x0 :: .ref 2 :: s) (SH n, I, L, R, nc, ns, nx) = rf_k (d + 1) 122 4 ls s (cf d 123 [.ref 2, .int x0] (SH n, I, L, R, nc, ns, nx)) := g_cv (idx := 52) (t := 7) [.int x0] (by decide +kernel) ow122 ms_9_52 mt_9_52 cy123_7 rfl rfl mL123 rfl rfl (by decide) hcat
theorem e122_7 : rf d 122 7 ls (.int x :: s) h = rf d 122 8 ls (.long x.toInt64 :: s) h := rf_pure (i := .i2l) (len := 1) (okD_ok (by decide +kernel)) rfl
theorem e122_8 (q : la n a j) : rf d 122 8 ls (.long u :: .int j :: .ref a :: s) (SH n, I, L, R, nc, ns, nx) = rf d 122 9 ls s (SH n, I, ip_up L a j.toNatClampNeg u, R, nc, ns, nx) := g_las (by decide +kernel) q
theorem e122_9 : rf d 122 9 ls s h = rf d 122 15 ls s h := rf_goto ⟨okD_ok (i := .goto (6)) (len := 3) (by decide +kernel), rfl⟩
theorem e122_15 : rf d 122 15 ls s h = rf d 122 16 ls (.int 0 :: s) h := rf_pure (i := .iconst (0)) (len := 1) (okD_ok (by decide +kernel)) rfl
theorem e122_16 : rf d 122 16 ls [.int x] h = some (.inl (some (.int x)), h) := g_ri (by decide +kernel) rt122
theorem en123 : cf d 123 [.ref a, .int x0] h = rf d 123 0 [some (.ref a), some (.int x0), none] [] h := rfl
theorem e123_0 : rf d 123 0 [some (.ref a), l1, l2] s h = rf d 123 1 [some (.ref a), l1, l2] (.ref a :: s) h := rf_pure (i := .aload_n 0) (len := 1) (okD_ok (by decide +kernel)) rfl
theorem e123_1 : rf d 123 1 [l0, some (.int x), l2] s h = rf d 123 2 [l0, some (.int x), l2] (.int x :: s) h := rf_pure (i := .iload_n 1) (len := 1) (okD_ok (by decide +kernel)) rfl
theorem e123_2 (hcat : ip_cat s ≤ 8) : rf (d + 1) 123 2 ls (.int x0 :: .ref 2 :: s) (SH n, I, L, R, nc, ns, nx) = rf_k (d + 1) 123 2 ls s (cf d 124 [.ref 2, .int x0] (SH n, I, L, R, nc, ns, nx)) := g_cv (idx := 210) (t := 7) [.int x0] (by decide +kernel) ow123 ms_7_210 mt_7_210 cy124_7 rfl rfl mL124 rfl rfl (by decide) hcat
theorem e123_5 : rf d 123 5 [some (.ref a), l1, l2] s h = rf d 123 6 [some (.ref a), l1, l2] (.ref a :: s) h := rf_pure (i := .aload_n 0) (len := 1) (okD_ok (by decide +kernel)) rfl
theorem e123_6 : rf d 123 6 ls (.ref 2 :: s) (SH n, I, L, R, nc, ns, nx) = rf d 123 9 ls (.int (I 2 7) :: s) (SH n, I, L, R, nc, ns, nx) := g_I (idx := 43) (by decide +kernel) ow123 f_7_43 rfl rfl (by decide)
theorem e123_9 (hn : ip_nl l1 = true) : rf d 123 9 [l0, l1, l2] (.int x :: s) h = rf d 123 10 [l0, l1, some (.int x)] s h := g_sti (i := .istore_n 2) (len := 1) (q := 1) (p := 1) (by decide +kernel) rfl rfl hn
theorem e123_10 : rf d 123 10 [some (.ref a), l1, l2] s h = rf d 123 11 [some (.ref a), l1, l2] (.ref a :: s) h := rf_pure (i := .aload_n 0) (len := 1) (okD_ok (by decide +kernel)) rfl
theorem e123_11 : rf d 123 11 [l0, some (.int x), l2] s h = rf d 123 12 [l0, some (.int x), l2] (.int x :: s) h := rf_pure (i := .iload_n 1) (len := 1) (okD_ok (by decide +kernel)) rfl
theorem e123_12 : rf d 123 12 ls (.int x :: .ref 2 :: s) (SH n, I, L, R, nc, ns, nx) = rf d 123 15 ls s (SH n, ip_up I 2 7 x, L, R, nc, ns, nx) := g_pI (idx := 43) (by decide +kernel) ow123 f_7_43 rfl (by decide +kernel) rfl (by decide)
theorem e123_15 : rf d 123 15 [l0, l1, some (.int x)] s h = rf d 123 16 [l0, l1, some (.int x)] (.int x :: s) h := rf_pure (i := .iload_n 2) (len := 1) (okD_ok (by decide +kernel)) rfl
theorem e123_16 : rf d 123 16 ls [.int x] h = some (.inl (some (.int x)), h) := g_ri (by decide +kernel) rt123
theorem en124 : cf d 124 [.ref a, .int x0] h = rf d 124 0 [some (.ref a), some (.int x0)] [] h := rfl
theorem e124_0 : rf d 124 0 [l0, some (.int x)] s h = rf d 124 1 [l0, some (.int x)] (.int x :: s) h := rf_pure (i := .iload_n 1) (len := 1) (okD_ok (by decide +kernel)) rfl
theorem e124_1 : rf d 124 1 ls (.int x :: s) h = if x < 0 then rf d 124 12 ls s h else rf d 124 4 ls s h := g_if (c := .lt) (off := 11) _ (by decide +kernel) rfl cmp_d
theorem e124_4 : rf d 124 4 [l0, some (.int x)] s h = rf d 124 5 [l0, some (.int x)] (.int x :: s) h := rf_pure (i := .iload_n 1) (len := 1) (okD_ok (by decide +kernel)) rfl
theorem e124_5 : rf d 124 5 [some (.ref a), l1] s h = rf d 124 6 [some (.ref a), l1] (.ref a :: s) h := rf_pure (i := .aload_n 0) (len := 1) (okD_ok (by decide +kernel)) rfl
theorem e124_6 : rf d 124 6 ls (.ref 2 :: s) (SH n, I, L, R, nc, ns, nx) = rf d 124 9 ls (.int (I 2 6) :: s) (SH n, I, L, R, nc, ns, nx) := g_I (idx := 40) (by decide +kernel) ow124 f_7_40 rfl rfl (by decide)
theorem e124_9 : rf d 124 9 ls (.int y :: .int x :: s) h = if x < y then rf d 124 23 ls s h else rf d 124 12 ls s h := g_ic (c := .lt) (off := 14) _ (by decide +kernel) rfl cmp_d
theorem e124_12 : rf d 124 12 ls [] h = some (.inr "java/lang/IndexOutOfBoundsException", ip_hx h) := g_thr (idx := 387) (by decide +kernel) ow124 (by decide +kernel) (by decide +kernel)
theorem e124_23 : rf d 124 23 ls [] h = some (.inl none, h) := g_rv (by decide +kernel) rt124
theorem en125 : cf d 125 [.ref a0, .int x1, .int x2, .int x3, .ref a4] h = rf d 125 0 [some (.ref a0), some (.int x1), some (.int x2), some (.int x3), some (.ref a4), none] [] h := rfl
theorem e125_0 : rf d 125 0 [l0, l1, l2, l3, some (.ref a), l5] s h = rf d 125 2 [l0, l1, l2, l3, some (.ref a), l5] (.ref a :: s) h := rf_pure (i := .aload 4) (len := 2) (okD_ok (by decide +kernel)) rfl
theorem e125_2 : rf d 125 2 ls s h = rf d 125 3 ls (.int 0 :: s) h := rf_pure (i := .iconst (0)) (len := 1) (okD_ok (by decide +kernel)) rfl
theorem e125_3 : rf d 125 3 [some (.ref a), l1, l2, l3, l4, l5] s h = rf d 125 4 [some (.ref a), l1, l2, l3, l4, l5] (.ref a :: s) h := rf_pure (i := .aload_n 0) (len := 1) (okD_ok (by decide +kernel)) rfl
theorem e125_4 : rf d 125 4 [l0, some (.int x), l2, l3, l4, l5] s h = rf d 125 5 [l0, some (.int x), l2, l3, l4, l5] (.int x :: s) h := rf_pure (i := .iload_n 1) (len := 1) (okD_ok (by decide +kernel)) rfl
theorem e125_5 : rf d 125 5 [l0, l1, some (.int x), l3, l4, l5] s h = rf d 125 6 [l0, l1, some (.int x), l3, l4, l5] (.int x :: s) h := rf_pure (i := .iload_n 2) (len := 1) (okD_ok (by decide +kernel)) rfl
theorem e125_6 : rf d 125 6 [l0, l1, l2, some (.int x), l4, l5] s h = rf d 125 7 [l0, l1, l2, some (.int x), l4, l5] (.int x :: s) h := rf_pure (i := .iload_n 3) (len := 1) (okD_ok (by decide +kernel)) rfl
theorem e125_7 (hcat : ip_cat s ≤ 8) : rf (d + 1) 125 7 ls (.int x2 :: .int x1 :: .int x0 :: .ref 2 :: s) (SH n, I, L, R, nc, ns, nx) = rf_k (d + 1) 125 7 ls s (cf d 126 [.ref 2, .int x0, .int x1, .int x2] (SH n, I, L, R, nc, ns, nx)) := g_cv (idx := 56) (t := 7) [.int x2, .int x1, .int x0] (by decide +kernel) ow125 ms_9_56 mt_9_56 cy126_7 rfl rfl mL126 rfl rfl (by decide) hcat
theorem e125_10 : rf d 125 10 ls (.int x :: s) h = rf d 125 11 ls (.long x.toInt64 :: s) h := rf_pure (i := .i2l) (len := 1) (okD_ok (by decide +kernel)) rfl
theorem e125_11 (q : la n a j) : rf d 125 11 ls (.long u :: .int j :: .ref a :: s) (SH n, I, L, R, nc, ns, nx) = rf d 125 12 ls s (SH n, I, ip_up L a j.toNatClampNeg u, R, nc, ns, nx) := g_las (by decide +kernel) q
theorem e125_12 : rf d 125 12 ls s h = rf d 125 27 ls s h := rf_goto ⟨okD_ok (i := .goto (15)) (len := 3) (by decide +kernel), rfl⟩
theorem e125_27 : rf d 125 27 ls s h = rf d 125 28 ls (.int 0 :: s) h := rf_pure (i := .iconst (0)) (len := 1) (okD_ok (by decide +kernel)) rfl
theorem e125_28 : rf d 125 28 ls [.int x] h = some (.inl (some (.int x)), h) := g_ri (by decide +kernel) rt125
theorem en126 : cf d 126 [.ref a, .int x0, .int x1, .int x2] h = rf d 126 0 [some (.ref a), some (.int x0), some (.int x1), some (.int x2)] [] h := rfl
theorem e126_0 : rf d 126 0 [some (.ref a), l1, l2, l3] s h = rf d 126 1 [some (.ref a), l1, l2, l3] (.ref a :: s) h := rf_pure (i := .aload_n 0) (len := 1) (okD_ok (by decide +kernel)) rfl
theorem e126_1 : rf d 126 1 [l0, some (.int x), l2, l3] s h = rf d 126 2 [l0, some (.int x), l2, l3] (.int x :: s) h := rf_pure (i := .iload_n 1) (len := 1) (okD_ok (by decide +kernel)) rfl
theorem e126_2 (hcat : ip_cat s ≤ 8) : rf (d + 1) 126 2 ls (.int x0 :: .ref 2 :: s) (SH n, I, L, R, nc, ns, nx) = rf_k (d + 1) 126 2 ls s (cf d 98 [.ref 2, .int x0] (SH n, I, L, R, nc, ns, nx)) := g_cv (idx := 182) (t := 7) [.int x0] (by decide +kernel) ow126 ms_7_182 mt_7_182 cy98_7 rfl rfl mL98 rfl rfl (by decide) hcat
theorem e126_5 : rf d 126 5 [some (.ref a), l1, l2, l3] s h = rf d 126 6 [some (.ref a), l1, l2, l3] (.ref a :: s) h := rf_pure (i := .aload_n 0) (len := 1) (okD_ok (by decide +kernel)) rfl
theorem e126_6 : rf d 126 6 [l0, l1, some (.int x), l3] s h = rf d 126 7 [l0, l1, some (.int x), l3] (.int x :: s) h := rf_pure (i := .iload_n 2) (len := 1) (okD_ok (by decide +kernel)) rfl
theorem e126_7 (hcat : ip_cat s ≤ 8) : rf (d + 1) 126 7 ls (.int x0 :: .ref 2 :: s) (SH n, I, L, R, nc, ns, nx) = rf_k (d + 1) 126 7 ls s (cf d 98 [.ref 2, .int x0] (SH n, I, L, R, nc, ns, nx)) := g_cv (idx := 182) (t := 7) [.int x0] (by decide +kernel) ow126 ms_7_182 mt_7_182 cy98_7 rfl rfl mL98 rfl rfl (by decide) hcat
theorem e126_10 : rf d 126 10 [some (.ref a), l1, l2, l3] s h = rf d 126 11 [some (.ref a), l1, l2, l3] (.ref a :: s) h := rf_pure (i := .aload_n 0) (len := 1) (okD_ok (by decide +kernel)) rfl
theorem e126_11 (hcat : ip_cat s ≤ 8) : rf (d + 1) 126 11 ls (.ref 2 :: s) (SH n, I, L, R, nc, ns, nx) = rf_k (d + 1) 126 11 ls s (cf d 99 [.ref 2] (SH n, I, L, R, nc, ns, nx)) := g_cv (idx := 185) (t := 7) [] (by decide +kernel) ow126 ms_7_185 mt_7_185 cy99_7 rfl rfl mL99 rfl rfl (by decide) hcat
theorem e126_14 : rf d 126 14 [some (.ref a), l1, l2, l3] s h = rf d 126 15 [some (.ref a), l1, l2, l3] (.ref a :: s) h := rf_pure (i := .aload_n 0) (len := 1) (okD_ok (by decide +kernel)) rfl
theorem e126_15 (hR : LYR R) : rf d 126 15 ls (.ref 2 :: s) (SH n, I, L, R, nc, ns, nx) = rf d 126 18 ls (.ref 24 :: s) (SH n, I, L, R, nc, ns, nx) := g_R (idx := 49) (by decide +kernel) ow126 f_7_49 rfl rfl (by decide) (ly_2_8 hR)
theorem e126_18 : rf d 126 18 [l0, some (.int x), l2, l3] s h = rf d 126 19 [l0, some (.int x), l2, l3] (.int x :: s) h := rf_pure (i := .iload_n 1) (len := 1) (okD_ok (by decide +kernel)) rfl
theorem e126_19 : rf d 126 19 [l0, l1, some (.int x), l3] s h = rf d 126 20 [l0, l1, some (.int x), l3] (.int x :: s) h := rf_pure (i := .iload_n 2) (len := 1) (okD_ok (by decide +kernel)) rfl
theorem e126_20 (hb : isC b) (hcat : ip_cat s ≤ 8) : rf (d + 1) 126 20 ls (.int x1 :: .int x0 :: .ref b :: s) (SH n, I, L, R, nc, ns, nx) = rf_k (d + 1) 126 20 ls s (cf d 108 [.ref b, .int x0, .int x1] (SH n, I, L, R, nc, ns, nx)) := g_cv (idx := 191) (t := 0) [.int x1, .int x0] (by decide +kernel) ow126 ms_7_191 mt_7_191 cy108_0 rfl rfl mL108 rfl (kdC0 hb) (geC hb) hcat
theorem e126_23 : rf d 126 23 [l0, l1, l2, some (.int x)] s h = rf d 126 24 [l0, l1, l2, some (.int x)] (.int x :: s) h := rf_pure (i := .iload_n 3) (len := 1) (okD_ok (by decide +kernel)) rfl
theorem e126_60 : rf d 126 60 [some (.ref a), l1, l2, l3] s h = rf d 126 61 [some (.ref a), l1, l2, l3] (.ref a :: s) h := rf_pure (i := .aload_n 0) (len := 1) (okD_ok (by decide +kernel)) rfl
theorem e126_61 (hR : LYR R) : rf d 126 61 ls (.ref 2 :: s) (SH n, I, L, R, nc, ns, nx) = rf d 126 64 ls (.ref 24 :: s) (SH n, I, L, R, nc, ns, nx) := g_R (idx := 49) (by decide +kernel) ow126 f_7_49 rfl rfl (by decide) (ly_2_8 hR)
theorem e126_64 (ha : isC a) : rf d 126 64 ls (.ref a :: s) (SH n, I, L, R, nc, ns, nx) = rf d 126 67 ls (.int (I a 8) :: s) (SH n, I, L, R, nc, ns, nx) := g_I (idx := 213) (by decide +kernel) ow126 f_7_213 rfl (kdC0 ha) (geC ha)
theorem e126_67 : rf d 126 67 ls [.int x] h = some (.inl (some (.int x)), h) := g_ri (by decide +kernel) rt126
theorem e126_68 : rf d 126 68 [some (.ref a), l1, l2, l3] s h = rf d 126 69 [some (.ref a), l1, l2, l3] (.ref a :: s) h := rf_pure (i := .aload_n 0) (len := 1) (okD_ok (by decide +kernel)) rfl
theorem e126_69 (hR : LYR R) : rf d 126 69 ls (.ref 2 :: s) (SH n, I, L, R, nc, ns, nx) = rf d 126 72 ls (.ref 24 :: s) (SH n, I, L, R, nc, ns, nx) := g_R (idx := 49) (by decide +kernel) ow126 f_7_49 rfl rfl (by decide) (ly_2_8 hR)
theorem e126_72 (ha : isC a) : rf d 126 72 ls (.ref a :: s) (SH n, I, L, R, nc, ns, nx) = rf d 126 75 ls (.int (I a 10) :: s) (SH n, I, L, R, nc, ns, nx) := g_I (idx := 214) (by decide +kernel) ow126 f_7_214 rfl (kdC0 ha) (geC ha)
theorem e126_75 : rf d 126 75 ls [.int x] h = some (.inl (some (.int x)), h) := g_ri (by decide +kernel) rt126
theorem e126_76 : rf d 126 76 [some (.ref a), l1, l2, l3] s h = rf d 126 77 [some (.ref a), l1, l2, l3] (.ref a :: s) h := rf_pure (i := .aload_n 0) (len := 1) (okD_ok (by decide +kernel)) rfl
theorem e126_77 (hR : LYR R) : rf d 126 77 ls (.ref 2 :: s) (SH n, I, L, R, nc, ns, nx) = rf d 126 80 ls (.ref 24 :: s) (SH n, I, L, R, nc, ns, nx) := g_R (idx := 49) (by decide +kernel) ow126 f_7_49 rfl rfl (by decide) (ly_2_8 hR)
theorem e126_80 (ha : isC a) : rf d 126 80 ls (.ref a :: s) (SH n, I, L, R, nc, ns, nx) = rf d 126 83 ls (.int (I a 9) :: s) (SH n, I, L, R, nc, ns, nx) := g_I (idx := 217) (by decide +kernel) ow126 f_7_217 rfl (kdC0 ha) (geC ha)
theorem e126_83 : rf d 126 83 ls [.int x] h = some (.inl (some (.int x)), h) := g_ri (by decide +kernel) rt126
theorem e126_84 : rf d 126 84 [some (.ref a), l1, l2, l3] s h = rf d 126 85 [some (.ref a), l1, l2, l3] (.ref a :: s) h := rf_pure (i := .aload_n 0) (len := 1) (okD_ok (by decide +kernel)) rfl
theorem e126_85 (hR : LYR R) : rf d 126 85 ls (.ref 2 :: s) (SH n, I, L, R, nc, ns, nx) = rf d 126 88 ls (.ref 24 :: s) (SH n, I, L, R, nc, ns, nx) := g_R (idx := 49) (by decide +kernel) ow126 f_7_49 rfl rfl (by decide) (ly_2_8 hR)
theorem e126_88 (ha : isC a) : rf d 126 88 ls (.ref a :: s) (SH n, I, L, R, nc, ns, nx) = rf d 126 91 ls (.int (I a 11) :: s) (SH n, I, L, R, nc, ns, nx) := g_I (idx := 220) (by decide +kernel) ow126 f_7_220 rfl (kdC0 ha) (geC ha)
theorem e126_91 : rf d 126 91 ls [.int x] h = some (.inl (some (.int x)), h) := g_ri (by decide +kernel) rt126
theorem e126_92 : rf d 126 92 [some (.ref a), l1, l2, l3] s h = rf d 126 93 [some (.ref a), l1, l2, l3] (.ref a :: s) h := rf_pure (i := .aload_n 0) (len := 1) (okD_ok (by decide +kernel)) rfl
theorem e126_93 (hR : LYR R) : rf d 126 93 ls (.ref 2 :: s) (SH n, I, L, R, nc, ns, nx) = rf d 126 96 ls (.ref 24 :: s) (SH n, I, L, R, nc, ns, nx) := g_R (idx := 49) (by decide +kernel) ow126 f_7_49 rfl rfl (by decide) (ly_2_8 hR)
theorem e126_96 (ha : isC a) : rf d 126 96 ls (.ref a :: s) (SH n, I, L, R, nc, ns, nx) = rf d 126 99 ls (.int (I a 12) :: s) (SH n, I, L, R, nc, ns, nx) := g_I (idx := 223) (by decide +kernel) ow126 f_7_223 rfl (kdC0 ha) (geC ha)
theorem e126_99 : rf d 126 99 ls [.int x] h = some (.inl (some (.int x)), h) := g_ri (by decide +kernel) rt126
theorem e126_100 : rf d 126 100 ls [] h = some (.inr "java/util/NoSuchElementException", ip_hx h) := g_thr (idx := 112) (by decide +kernel) ow126 (by decide +kernel) (by decide +kernel)
theorem en127 : cf d 127 [.ref a0, .int x1, .int x2, .ref a3] h = rf d 127 0 [some (.ref a0), some (.int x1), some (.int x2), some (.ref a3), none] [] h := rfl
theorem e127_0 : rf d 127 0 [l0, l1, l2, some (.ref a), l4] s h = rf d 127 1 [l0, l1, l2, some (.ref a), l4] (.ref a :: s) h := rf_pure (i := .aload_n 3) (len := 1) (okD_ok (by decide +kernel)) rfl
theorem e127_1 : rf d 127 1 ls s h = rf d 127 2 ls (.int 0 :: s) h := rf_pure (i := .iconst (0)) (len := 1) (okD_ok (by decide +kernel)) rfl
theorem e127_2 : rf d 127 2 [some (.ref a), l1, l2, l3, l4] s h = rf d 127 3 [some (.ref a), l1, l2, l3, l4] (.ref a :: s) h := rf_pure (i := .aload_n 0) (len := 1) (okD_ok (by decide +kernel)) rfl
theorem e127_3 : rf d 127 3 [l0, some (.int x), l2, l3, l4] s h = rf d 127 4 [l0, some (.int x), l2, l3, l4] (.int x :: s) h := rf_pure (i := .iload_n 1) (len := 1) (okD_ok (by decide +kernel)) rfl
theorem e127_4 : rf d 127 4 [l0, l1, some (.int x), l3, l4] s h = rf d 127 5 [l0, l1, some (.int x), l3, l4] (.int x :: s) h := rf_pure (i := .iload_n 2) (len := 1) (okD_ok (by decide +kernel)) rfl
theorem e127_5 (hcat : ip_cat s ≤ 8) : rf (d + 1) 127 5 ls (.int x1 :: .int x0 :: .ref 2 :: s) (SH n, I, L, R, nc, ns, nx) = rf_k (d + 1) 127 5 ls s (cf d 128 [.ref 2, .int x0, .int x1] (SH n, I, L, R, nc, ns, nx)) := g_cv (idx := 59) (t := 7) [.int x1, .int x0] (by decide +kernel) ow127 ms_9_59 mt_9_59 cy128_7 rfl rfl mL128 rfl rfl (by decide) hcat
theorem e127_8 : rf d 127 8 ls (.int x :: s) h = rf d 127 9 ls (.long x.toInt64 :: s) h := rf_pure (i := .i2l) (len := 1) (okD_ok (by decide +kernel)) rfl
theorem e127_9 (q : la n a j) : rf d 127 9 ls (.long u :: .int j :: .ref a :: s) (SH n, I, L, R, nc, ns, nx) = rf d 127 10 ls s (SH n, I, ip_up L a j.toNatClampNeg u, R, nc, ns, nx) := g_las (by decide +kernel) q
theorem e127_10 : rf d 127 10 ls s h = rf d 127 21 ls s h := rf_goto ⟨okD_ok (i := .goto (11)) (len := 3) (by decide +kernel), rfl⟩
theorem e127_21 : rf d 127 21 ls s h = rf d 127 22 ls (.int 0 :: s) h := rf_pure (i := .iconst (0)) (len := 1) (okD_ok (by decide +kernel)) rfl
theorem e127_22 : rf d 127 22 ls [.int x] h = some (.inl (some (.int x)), h) := g_ri (by decide +kernel) rt127
theorem en128 : cf d 128 [.ref a, .int x0, .int x1] h = rf d 128 0 [some (.ref a), some (.int x0), some (.int x1), none] [] h := rfl
theorem e128_0 : rf d 128 0 [l0, some (.int x), l2, l3] s h = rf d 128 1 [l0, some (.int x), l2, l3] (.int x :: s) h := rf_pure (i := .iload_n 1) (len := 1) (okD_ok (by decide +kernel)) rfl
theorem e128_1 (hcat : ip_cat s ≤ 8) : rf (d + 1) 128 1 ls (.int x0 :: s) h = rf_k (d + 1) 128 1 ls s (cf d 129 [.int x0] h) := g_cs (idx := 224) [.int x0] (by decide +kernel) ow128 ms_7_224 mt_7_224 (by decide) rfl mL129 rfl hcat
theorem e128_4 : rf d 128 4 [some (.ref a), l1, l2, l3] s h = rf d 128 5 [some (.ref a), l1, l2, l3] (.ref a :: s) h := rf_pure (i := .aload_n 0) (len := 1) (okD_ok (by decide +kernel)) rfl
theorem e128_5 (hcat : ip_cat s ≤ 8) : rf (d + 1) 128 5 ls (.ref 2 :: s) (SH n, I, L, R, nc, ns, nx) = rf_k (d + 1) 128 5 ls s (cf d 99 [.ref 2] (SH n, I, L, R, nc, ns, nx)) := g_cv (idx := 185) (t := 7) [] (by decide +kernel) ow128 ms_7_185 mt_7_185 cy99_7 rfl rfl mL99 rfl rfl (by decide) hcat
theorem e128_8 : rf d 128 8 [some (.ref a), l1, l2, l3] s h = rf d 128 9 [some (.ref a), l1, l2, l3] (.ref a :: s) h := rf_pure (i := .aload_n 0) (len := 1) (okD_ok (by decide +kernel)) rfl
theorem e128_9 (hR : LYR R) : rf d 128 9 ls (.ref 2 :: s) (SH n, I, L, R, nc, ns, nx) = rf d 128 12 ls (.ref 24 :: s) (SH n, I, L, R, nc, ns, nx) := g_R (idx := 49) (by decide +kernel) ow128 f_7_49 rfl rfl (by decide) (ly_2_8 hR)
theorem e128_12 : rf d 128 12 [some (.ref a), l1, l2, l3] s h = rf d 128 13 [some (.ref a), l1, l2, l3] (.ref a :: s) h := rf_pure (i := .aload_n 0) (len := 1) (okD_ok (by decide +kernel)) rfl
theorem e128_13 (hR : LYR R) : rf d 128 13 ls (.ref 2 :: s) (SH n, I, L, R, nc, ns, nx) = rf d 128 16 ls (.ref 24 :: s) (SH n, I, L, R, nc, ns, nx) := g_R (idx := 49) (by decide +kernel) ow128 f_7_49 rfl rfl (by decide) (ly_2_8 hR)
theorem e128_16 (hb : isC b) (hcat : ip_cat s ≤ 8) : rf (d + 1) 128 16 ls (.ref b :: s) (SH n, I, L, R, nc, ns, nx) = rf_k (d + 1) 128 16 ls s (cf d 109 [.ref b] (SH n, I, L, R, nc, ns, nx)) := g_cv (idx := 227) (t := 0) [] (by decide +kernel) ow128 ms_7_227 mt_7_227 cy109_0 rfl rfl mL109 rfl (kdC0 hb) (geC hb) hcat
theorem e128_19 : rf d 128 19 [l0, some (.int x), l2, l3] s h = rf d 128 20 [l0, some (.int x), l2, l3] (.int x :: s) h := rf_pure (i := .iload_n 1) (len := 1) (okD_ok (by decide +kernel)) rfl
theorem e128_20 (hb : isC b) (hcat : ip_cat s ≤ 8) : rf (d + 1) 128 20 ls (.int x1 :: .int x0 :: .ref b :: s) (SH n, I, L, R, nc, ns, nx) = rf_k (d + 1) 128 20 ls s (cf d 130 [.ref b, .int x0, .int x1] (SH n, I, L, R, nc, ns, nx)) := g_cv (idx := 230) (t := 0) [.int x1, .int x0] (by decide +kernel) ow128 ms_7_230 mt_7_230 cy130_0 rfl rfl mL130 rfl (kdC0 hb) (geC hb) hcat
theorem e128_23 (hn : ip_nl l2 = true) : rf d 128 23 [l0, l1, l2, l3] (.int x :: s) h = rf d 128 24 [l0, l1, l2, some (.int x)] s h := g_sti (i := .istore_n 3) (len := 1) (q := 2) (p := 1) (by decide +kernel) rfl rfl hn
theorem e128_24 : rf d 128 24 [l0, l1, some (.int x), l3] s h = rf d 128 25 [l0, l1, some (.int x), l3] (.int x :: s) h := rf_pure (i := .iload_n 2) (len := 1) (okD_ok (by decide +kernel)) rfl
theorem e128_25 : rf d 128 25 ls (.int x :: s) h = if x = 0 then rf d 128 32 ls s h else rf d 128 28 ls s h := g_if (c := .eq) (off := 7) _ (by decide +kernel) rfl cmp_d
theorem e128_28 : rf d 128 28 [l0, l1, l2, some (.int x)] s h = rf d 128 29 [l0, l1, l2, some (.int x)] (.int x :: s) h := rf_pure (i := .iload_n 3) (len := 1) (okD_ok (by decide +kernel)) rfl
theorem e128_29 : rf d 128 29 ls s h = rf d 128 41 ls s h := rf_goto ⟨okD_ok (i := .goto (12)) (len := 3) (by decide +kernel), rfl⟩
theorem e128_32 : rf d 128 32 [some (.ref a), l1, l2, l3] s h = rf d 128 33 [some (.ref a), l1, l2, l3] (.ref a :: s) h := rf_pure (i := .aload_n 0) (len := 1) (okD_ok (by decide +kernel)) rfl
theorem e128_33 (hR : LYR R) : rf d 128 33 ls (.ref 2 :: s) (SH n, I, L, R, nc, ns, nx) = rf d 128 36 ls (.ref 24 :: s) (SH n, I, L, R, nc, ns, nx) := g_R (idx := 49) (by decide +kernel) ow128 f_7_49 rfl rfl (by decide) (ly_2_8 hR)
theorem e128_36 : rf d 128 36 [l0, l1, l2, some (.int x)] s h = rf d 128 37 [l0, l1, l2, some (.int x)] (.int x :: s) h := rf_pure (i := .iload_n 3) (len := 1) (okD_ok (by decide +kernel)) rfl
theorem e128_37 : rf d 128 37 ls s h = rf d 128 38 ls (.int 0 :: s) h := rf_pure (i := .iconst (0)) (len := 1) (okD_ok (by decide +kernel)) rfl
theorem e128_38 (hb : isC b) (hcat : ip_cat s ≤ 8) : rf (d + 1) 128 38 ls (.int x1 :: .int x0 :: .ref b :: s) (SH n, I, L, R, nc, ns, nx) = rf_k (d + 1) 128 38 ls s (cf d 111 [.ref b, .int x0, .int x1] (SH n, I, L, R, nc, ns, nx)) := g_cv (idx := 233) (t := 0) [.int x1, .int x0] (by decide +kernel) ow128 ms_7_233 mt_7_233 cy111_0 rfl rfl mL111 rfl (kdC0 hb) (geC hb) hcat
theorem e128_41 : rf d 128 41 ls [.int x] h = some (.inl (some (.int x)), h) := g_ri (by decide +kernel) rt128
theorem en129 : cf d 129 [.int x0] h = rf d 129 0 [some (.int x0)] [] h := rfl
theorem e129_0 : rf d 129 0 [some (.int x)] s h = rf d 129 1 [some (.int x)] (.int x :: s) h := rf_pure (i := .iload_n 0) (len := 1) (okD_ok (by decide +kernel)) rfl
theorem e129_1 : rf d 129 1 ls (.int x :: s) h = if x < 0 then rf d 129 10 ls s h else rf d 129 4 ls s h := g_if (c := .lt) (off := 9) _ (by decide +kernel) rfl cmp_d
theorem e129_4 : rf d 129 4 [some (.int x)] s h = rf d 129 5 [some (.int x)] (.int x :: s) h := rf_pure (i := .iload_n 0) (len := 1) (okD_ok (by decide +kernel)) rfl
theorem e129_5 : rf d 129 5 ls s h = rf d 129 7 ls (.int 99 :: s) h := rf_pure (i := .bipush (99)) (len := 2) (okD_ok (by decide +kernel)) rfl
theorem e129_7 : rf d 129 7 ls (.int y :: .int x :: s) h = if x ≤ y then rf d 129 21 ls s h else rf d 129 10 ls s h := g_ic (c := .le) (off := 14) _ (by decide +kernel) rfl cmp_d
theorem e129_10 : rf d 129 10 ls [] h = some (.inr "java/lang/IllegalArgumentException", ip_hx h) := g_thr (idx := 86) (by decide +kernel) ow129 (by decide +kernel) (by decide +kernel)
theorem e129_21 : rf d 129 21 ls [] h = some (.inl none, h) := g_rv (by decide +kernel) rt129
theorem en130 : cf d 130 [.ref a, .int x0, .int x1] h = rf d 130 0 [some (.ref a), some (.int x0), some (.int x1), none, none, none, none, none] [] h := rfl
theorem e130_0 : rf d 130 0 ls s h = rf d 130 1 ls (.int 0 :: s) h := rf_pure (i := .iconst (0)) (len := 1) (okD_ok (by decide +kernel)) rfl
theorem e130_1 (hn : ip_nl l2 = true) : rf d 130 1 [l0, l1, l2, l3, l4, l5, l6, l7] (.int x :: s) h = rf d 130 2 [l0, l1, l2, some (.int x), l4, l5, l6, l7] s h := g_sti (i := .istore_n 3) (len := 1) (q := 2) (p := 1) (by decide +kernel) rfl rfl hn
theorem e130_2 : rf d 130 2 ls s h = rf d 130 3 ls (.int (-1) :: s) h := rf_pure (i := .iconst (-1)) (len := 1) (okD_ok (by decide +kernel)) rfl
theorem e130_3 (hn : ip_nl l3 = true) : rf d 130 3 [l0, l1, l2, l3, l4, l5, l6, l7] (.int x :: s) h = rf d 130 5 [l0, l1, l2, l3, some (.int x), l5, l6, l7] s h := g_sti (i := .istore 4) (len := 2) (q := 3) (p := 2) (by decide +kernel) rfl rfl hn
theorem e130_5 : rf d 130 5 ls s h = rf d 130 6 ls (.int 0 :: s) h := rf_pure (i := .iconst (0)) (len := 1) (okD_ok (by decide +kernel)) rfl
theorem e130_6 (hn : ip_nl l4 = true) : rf d 130 6 [l0, l1, l2, l3, l4, l5, l6, l7] (.int x :: s) h = rf d 130 8 [l0, l1, l2, l3, l4, some (.int x), l6, l7] s h := g_sti (i := .istore 5) (len := 2) (q := 4) (p := 2) (by decide +kernel) rfl rfl hn
theorem e130_8 : rf d 130 8 ls s h = rf d 130 9 ls (.int 0 :: s) h := rf_pure (i := .iconst (0)) (len := 1) (okD_ok (by decide +kernel)) rfl
theorem e130_9 (hn : ip_nl l5 = true) : rf d 130 9 [l0, l1, l2, l3, l4, l5, l6, l7] (.int x :: s) h = rf d 130 11 [l0, l1, l2, l3, l4, l5, some (.int x), l7] s h := g_sti (i := .istore 6) (len := 2) (q := 5) (p := 2) (by decide +kernel) rfl rfl hn
theorem e130_11 : rf d 130 11 [l0, l1, l2, l3, l4, l5, some (.int x), l7] s h = rf d 130 13 [l0, l1, l2, l3, l4, l5, some (.int x), l7] (.int x :: s) h := rf_pure (i := .iload 6) (len := 2) (okD_ok (by decide +kernel)) rfl
theorem e130_13 : rf d 130 13 ls s h = rf d 130 14 ls (.int 1 :: s) h := rf_pure (i := .iconst (1)) (len := 1) (okD_ok (by decide +kernel)) rfl
theorem e130_14 : rf d 130 14 [l0, some (.int x), l2, l3, l4, l5, l6, l7] s h = rf d 130 15 [l0, some (.int x), l2, l3, l4, l5, l6, l7] (.int x :: s) h := rf_pure (i := .iload_n 1) (len := 1) (okD_ok (by decide +kernel)) rfl
theorem e130_15 (hcat : ip_cat s ≤ 8) : rf (d + 1) 130 15 ls (.int x0 :: s) h = rf_k (d + 1) 130 15 ls s (cf d 19 [.int x0] h) := g_cs (idx := 165) [.int x0] (by decide +kernel) ow130 ms_0_165 mt_0_165 (by decide) rfl mL19 rfl hcat
theorem e130_18 : rf d 130 18 ls (.int y :: .int x :: s) h = rf d 130 19 ls (.int (x <<< (y &&& 31)) :: s) h := rf_pure (i := .ishl) (len := 1) (okD_ok (by decide +kernel)) rfl
theorem e130_19 : rf d 130 19 ls (.int y :: .int x :: s) h = if y ≤ x then rf d 130 91 ls s h else rf d 130 22 ls s h := g_ic (c := .ge) (off := 72) _ (by decide +kernel) rfl cmp_d
theorem e130_22 : rf d 130 22 [some (.ref a), l1, l2, l3, l4, l5, l6, l7] s h = rf d 130 23 [some (.ref a), l1, l2, l3, l4, l5, l6, l7] (.ref a :: s) h := rf_pure (i := .aload_n 0) (len := 1) (okD_ok (by decide +kernel)) rfl
theorem e130_23 (ha : isC a) : rf d 130 23 ls (.ref a :: s) (SH n, I, L, R, nc, ns, nx) = rf d 130 26 ls (ip_rf (R a 0) :: s) (SH n, I, L, R, nc, ns, nx) := g_R (idx := 12) (by decide +kernel) ow130 f_0_12 rfl (kdC0 ha) (geC ha) rfl
theorem e130_26 : rf d 130 26 [l0, l1, l2, l3, l4, some (.int x), l6, l7] s h = rf d 130 28 [l0, l1, l2, l3, l4, some (.int x), l6, l7] (.int x :: s) h := rf_pure (i := .iload 5) (len := 2) (okD_ok (by decide +kernel)) rfl
theorem e130_28 (hb : isT b) (hcat : ip_cat s ≤ 8) : rf (d + 1) 130 28 ls (.int x0 :: .ref b :: s) (SH n, I, L, R, nc, ns, nx) = rf_k (d + 1) 130 28 ls s (cf d 131 [.ref b, .int x0] (SH n, I, L, R, nc, ns, nx)) := g_cv (idx := 170) (t := 6) [.int x0] (by decide +kernel) ow130 ms_0_170 mt_0_170 cy131_6 rfl rfl mL131 rfl (kdT0 hb) (geT hb) hcat
theorem e130_31 : rf d 130 31 [l0, l1, some (.int x), l3, l4, l5, l6, l7] s h = rf d 130 32 [l0, l1, some (.int x), l3, l4, l5, l6, l7] (.int x :: s) h := rf_pure (i := .iload_n 2) (len := 1) (okD_ok (by decide +kernel)) rfl
theorem e130_32 : rf d 130 32 ls (.int y :: .int x :: s) h = if y < x then rf d 130 77 ls s h else rf d 130 35 ls s h := g_ic (c := .gt) (off := 45) _ (by decide +kernel) rfl cmp_d
theorem e130_35 : rf d 130 35 [some (.ref a), l1, l2, l3, l4, l5, l6, l7] s h = rf d 130 36 [some (.ref a), l1, l2, l3, l4, l5, l6, l7] (.ref a :: s) h := rf_pure (i := .aload_n 0) (len := 1) (okD_ok (by decide +kernel)) rfl
theorem e130_36 : rf d 130 36 [l0, l1, l2, l3, l4, some (.int x), l6, l7] s h = rf d 130 38 [l0, l1, l2, l3, l4, some (.int x), l6, l7] (.int x :: s) h := rf_pure (i := .iload 5) (len := 2) (okD_ok (by decide +kernel)) rfl
theorem e130_38 : rf d 130 38 ls s h = rf d 130 39 ls (.int 0 :: s) h := rf_pure (i := .iconst (0)) (len := 1) (okD_ok (by decide +kernel)) rfl
theorem e130_39 (hb : isC b) (hcat : ip_cat s ≤ 8) : rf (d + 1) 130 39 ls (.int x1 :: .int x0 :: .ref b :: s) (SH n, I, L, R, nc, ns, nx) = rf_k (d + 1) 130 39 ls s (cf d 111 [.ref b, .int x0, .int x1] (SH n, I, L, R, nc, ns, nx)) := g_cv (idx := 129) (t := 0) [.int x1, .int x0] (by decide +kernel) ow130 ms_0_129 mt_0_129 cy111_0 rfl rfl mL111 rfl (kdC0 hb) (geC hb) hcat
theorem e130_42 (hcat : ip_cat s ≤ 8) : rf (d + 1) 130 42 ls (.int x0 :: s) h = rf_k (d + 1) 130 42 ls s (cf d 132 [.int x0] h) := g_cs (idx := 173) [.int x0] (by decide +kernel) ow130 ms_0_173 mt_0_173 (by decide) rfl mL132 rfl hcat
theorem e130_45 (hn : ip_nl l6 = true) : rf d 130 45 [l0, l1, l2, l3, l4, l5, l6, l7] (.int x :: s) h = rf d 130 47 [l0, l1, l2, l3, l4, l5, l6, some (.int x)] s h := g_sti (i := .istore 7) (len := 2) (q := 6) (p := 2) (by decide +kernel) rfl rfl hn
theorem e130_47 : rf d 130 47 [l0, l1, l2, l3, l4, l5, l6, some (.int x)] s h = rf d 130 49 [l0, l1, l2, l3, l4, l5, l6, some (.int x)] (.int x :: s) h := rf_pure (i := .iload 7) (len := 2) (okD_ok (by decide +kernel)) rfl
theorem e130_49 : rf d 130 49 [l0, l1, l2, l3, some (.int x), l5, l6, l7] s h = rf d 130 51 [l0, l1, l2, l3, some (.int x), l5, l6, l7] (.int x :: s) h := rf_pure (i := .iload 4) (len := 2) (okD_ok (by decide +kernel)) rfl
theorem e130_51 : rf d 130 51 ls (.int y :: .int x :: s) h = if y < x then rf d 130 70 ls s h else rf d 130 54 ls s h := g_ic (c := .gt) (off := 19) _ (by decide +kernel) rfl cmp_d
theorem e130_54 : rf d 130 54 [l0, l1, l2, l3, l4, l5, l6, some (.int x)] s h = rf d 130 56 [l0, l1, l2, l3, l4, l5, l6, some (.int x)] (.int x :: s) h := rf_pure (i := .iload 7) (len := 2) (okD_ok (by decide +kernel)) rfl
theorem e130_56 : rf d 130 56 [l0, l1, l2, l3, some (.int x), l5, l6, l7] s h = rf d 130 58 [l0, l1, l2, l3, some (.int x), l5, l6, l7] (.int x :: s) h := rf_pure (i := .iload 4) (len := 2) (okD_ok (by decide +kernel)) rfl
theorem e130_58 : rf d 130 58 ls (.int y :: .int x :: s) h = if ¬ x = y then rf d 130 77 ls s h else rf d 130 61 ls s h := g_ic (c := .ne) (off := 19) _ (by decide +kernel) rfl cmp_d
theorem e130_61 : rf d 130 61 [l0, l1, l2, l3, l4, some (.int x), l6, l7] s h = rf d 130 63 [l0, l1, l2, l3, l4, some (.int x), l6, l7] (.int x :: s) h := rf_pure (i := .iload 5) (len := 2) (okD_ok (by decide +kernel)) rfl
theorem e130_63 : rf d 130 63 [l0, l1, l2, some (.int x), l4, l5, l6, l7] s h = rf d 130 64 [l0, l1, l2, some (.int x), l4, l5, l6, l7] (.int x :: s) h := rf_pure (i := .iload_n 3) (len := 1) (okD_ok (by decide +kernel)) rfl
theorem e130_64 (hcat : ip_cat s ≤ 8) : rf (d + 1) 130 64 ls (.int x1 :: .int x0 :: s) h = rf_k (d + 1) 130 64 ls s (cf d 133 [.int x0, .int x1] h) := g_cs (idx := 176) [.int x1, .int x0] (by decide +kernel) ow130 ms_0_176 mt_0_176 (by decide) rfl mL133 rfl hcat
theorem e130_67 : rf d 130 67 ls (.int x :: s) h = if x = 0 then rf d 130 77 ls s h else rf d 130 70 ls s h := g_if (c := .eq) (off := 10) _ (by decide +kernel) rfl cmp_d
theorem e130_70 : rf d 130 70 [l0, l1, l2, l3, l4, l5, l6, some (.int x)] s h = rf d 130 72 [l0, l1, l2, l3, l4, l5, l6, some (.int x)] (.int x :: s) h := rf_pure (i := .iload 7) (len := 2) (okD_ok (by decide +kernel)) rfl
theorem e130_72 (hn : ip_nl l3 = true) : rf d 130 72 [l0, l1, l2, l3, l4, l5, l6, l7] (.int x :: s) h = rf d 130 74 [l0, l1, l2, l3, some (.int x), l5, l6, l7] s h := g_sti (i := .istore 4) (len := 2) (q := 3) (p := 2) (by decide +kernel) rfl rfl hn
theorem e130_74 : rf d 130 74 [l0, l1, l2, l3, l4, some (.int x), l6, l7] s h = rf d 130 76 [l0, l1, l2, l3, l4, some (.int x), l6, l7] (.int x :: s) h := rf_pure (i := .iload 5) (len := 2) (okD_ok (by decide +kernel)) rfl
theorem e130_76 (hn : ip_nl l2 = true) : rf d 130 76 [l0, l1, l2, l3, l4, l5, l6, l7] (.int x :: s) h = rf d 130 77 [l0, l1, l2, some (.int x), l4, l5, l6, l7] s h := g_sti (i := .istore_n 3) (len := 1) (q := 2) (p := 1) (by decide +kernel) rfl rfl hn
theorem e130_77 : rf d 130 77 [l0, l1, l2, l3, l4, some (.int x), l6, l7] s h = rf d 130 79 [l0, l1, l2, l3, l4, some (.int x), l6, l7] (.int x :: s) h := rf_pure (i := .iload 5) (len := 2) (okD_ok (by decide +kernel)) rfl
theorem e130_79 : rf d 130 79 [l0, some (.int x), l2, l3, l4, l5, l6, l7] s h = rf d 130 80 [l0, some (.int x), l2, l3, l4, l5, l6, l7] (.int x :: s) h := rf_pure (i := .iload_n 1) (len := 1) (okD_ok (by decide +kernel)) rfl
theorem e130_80 (hcat : ip_cat s ≤ 8) : rf (d + 1) 130 80 ls (.int x1 :: .int x0 :: s) h = rf_k (d + 1) 130 80 ls s (cf d 20 [.int x0, .int x1] h) := g_cs (idx := 180) [.int x1, .int x0] (by decide +kernel) ow130 ms_0_180 mt_0_180 (by decide) rfl mL20 rfl hcat
theorem e130_83 (hn : ip_nl l4 = true) : rf d 130 83 [l0, l1, l2, l3, l4, l5, l6, l7] (.int x :: s) h = rf d 130 85 [l0, l1, l2, l3, l4, some (.int x), l6, l7] s h := g_sti (i := .istore 5) (len := 2) (q := 4) (p := 2) (by decide +kernel) rfl rfl hn
theorem e130_85 (hn : ip_nl l5 = true) : rf d 130 85 [l0, l1, l2, l3, l4, l5, some (.int x), l7] s h = rf d 130 88 [l0, l1, l2, l3, l4, l5, some (.int (x + 1)), l7] s h := g_inc (q := 5) (z := 1) (w := 1) (x := x) (by decide) (by decide +kernel) rfl rfl hn
theorem e130_88 : rf d 130 88 ls s h = rf d 130 11 ls s h := rf_goto ⟨okD_ok (i := .goto (-77)) (len := 3) (by decide +kernel), rfl⟩
theorem e130_91 : rf d 130 91 [l0, l1, l2, some (.int x), l4, l5, l6, l7] s h = rf d 130 92 [l0, l1, l2, some (.int x), l4, l5, l6, l7] (.int x :: s) h := rf_pure (i := .iload_n 3) (len := 1) (okD_ok (by decide +kernel)) rfl
theorem e130_92 : rf d 130 92 ls [.int x] h = some (.inl (some (.int x)), h) := g_ri (by decide +kernel) rt130
theorem en131 : cf d 131 [.ref a, .int x0] h = rf d 131 0 [some (.ref a), some (.int x0), none, none] [] h := rfl
theorem e131_0 : rf d 131 0 [l0, some (.int x), l2, l3] s h = rf d 131 1 [l0, some (.int x), l2, l3] (.int x :: s) h := rf_pure (i := .iload_n 1) (len := 1) (okD_ok (by decide +kernel)) rfl
theorem e131_1 (hcat : ip_cat s ≤ 8) : rf (d + 1) 131 1 ls (.int x0 :: s) h = rf_k (d + 1) 131 1 ls s (cf d 19 [.int x0] h) := g_cs (idx := 47) [.int x0] (by decide +kernel) ow131 ms_6_47 mt_6_47 (by decide) rfl mL19 rfl hcat
theorem e131_4 (hn : ip_nl l1 = true) : rf d 131 4 [l0, l1, l2, l3] (.int x :: s) h = rf d 131 5 [l0, l1, some (.int x), l3] s h := g_sti (i := .istore_n 2) (len := 1) (q := 1) (p := 1) (by decide +kernel) rfl rfl hn
theorem e131_5 : rf d 131 5 ls s h = rf d 131 6 ls (.int 0 :: s) h := rf_pure (i := .iconst (0)) (len := 1) (okD_ok (by decide +kernel)) rfl
theorem e131_6 (hn : ip_nl l2 = true) : rf d 131 6 [l0, l1, l2, l3] (.int x :: s) h = rf d 131 7 [l0, l1, l2, some (.int x)] s h := g_sti (i := .istore_n 3) (len := 1) (q := 2) (p := 1) (by decide +kernel) rfl rfl hn
theorem e131_7 : rf d 131 7 [l0, l1, l2, some (.int x)] s h = rf d 131 8 [l0, l1, l2, some (.int x)] (.int x :: s) h := rf_pure (i := .iload_n 3) (len := 1) (okD_ok (by decide +kernel)) rfl
theorem e131_8 : rf d 131 8 [some (.ref a), l1, l2, l3] s h = rf d 131 9 [some (.ref a), l1, l2, l3] (.ref a :: s) h := rf_pure (i := .aload_n 0) (len := 1) (okD_ok (by decide +kernel)) rfl
theorem e131_9 (ha : isT a) : rf d 131 9 ls (.ref a :: s) (SH n, I, L, R, nc, ns, nx) = rf d 131 12 ls (.int (I a 6) :: s) (SH n, I, L, R, nc, ns, nx) := g_I (idx := 36) (by decide +kernel) ow131 f_6_36 rfl (kdT0 ha) (geT ha)
theorem e131_12 : rf d 131 12 ls (.int y :: .int x :: s) h = if y ≤ x then rf d 131 41 ls s h else rf d 131 15 ls s h := g_ic (c := .ge) (off := 29) _ (by decide +kernel) rfl cmp_d
theorem e131_15 : rf d 131 15 [l0, some (.int x), l2, l3] s h = rf d 131 16 [l0, some (.int x), l2, l3] (.int x :: s) h := rf_pure (i := .iload_n 1) (len := 1) (okD_ok (by decide +kernel)) rfl
theorem e131_16 : rf d 131 16 ls s h = rf d 131 17 ls (.int 1 :: s) h := rf_pure (i := .iconst (1)) (len := 1) (okD_ok (by decide +kernel)) rfl
theorem e131_17 : rf d 131 17 [l0, l1, l2, some (.int x)] s h = rf d 131 18 [l0, l1, l2, some (.int x)] (.int x :: s) h := rf_pure (i := .iload_n 3) (len := 1) (okD_ok (by decide +kernel)) rfl
theorem e131_18 : rf d 131 18 ls (.int y :: .int x :: s) h = rf d 131 19 ls (.int (x <<< (y &&& 31)) :: s) h := rf_pure (i := .ishl) (len := 1) (okD_ok (by decide +kernel)) rfl
theorem e131_19 : rf d 131 19 ls (.int y :: .int x :: s) h = rf d 131 20 ls (.int (x &&& y) :: s) h := rf_pure (i := .iand) (len := 1) (okD_ok (by decide +kernel)) rfl
theorem e131_20 : rf d 131 20 ls (.int x :: s) h = if x = 0 then rf d 131 35 ls s h else rf d 131 23 ls s h := g_if (c := .eq) (off := 15) _ (by decide +kernel) rfl cmp_d
theorem e131_23 : rf d 131 23 [l0, l1, some (.int x), l3] s h = rf d 131 24 [l0, l1, some (.int x), l3] (.int x :: s) h := rf_pure (i := .iload_n 2) (len := 1) (okD_ok (by decide +kernel)) rfl
theorem e131_24 : rf d 131 24 [some (.ref a), l1, l2, l3] s h = rf d 131 25 [some (.ref a), l1, l2, l3] (.ref a :: s) h := rf_pure (i := .aload_n 0) (len := 1) (okD_ok (by decide +kernel)) rfl
theorem e131_25 (hR : LYR R) (ha : isT a) : rf d 131 25 ls (.ref a :: s) (SH n, I, L, R, nc, ns, nx) = rf d 131 28 ls (.ref (a + 3) :: s) (SH n, I, L, R, nc, ns, nx) := g_R (idx := 18) (by decide +kernel) ow131 f_6_18 rfl (kdT0 ha) (geT ha) (lyT2 hR ha)
theorem e131_28 : rf d 131 28 [l0, l1, l2, some (.int x)] s h = rf d 131 29 [l0, l1, l2, some (.int x)] (.int x :: s) h := rf_pure (i := .iload_n 3) (len := 1) (okD_ok (by decide +kernel)) rfl
theorem e131_29 (q : ia n a j) : rf d 131 29 ls (.int j :: .ref a :: s) (SH n, I, L, R, nc, ns, nx) = rf d 131 30 ls (.int (I a j.toNatClampNeg) :: s) (SH n, I, L, R, nc, ns, nx) := g_ial (by decide +kernel) q
theorem e131_30 (hcat : ip_cat s ≤ 8) : rf (d + 1) 131 30 ls (.int x0 :: s) h = rf_k (d + 1) 131 30 ls s (cf d 19 [.int x0] h) := g_cs (idx := 47) [.int x0] (by decide +kernel) ow131 ms_6_47 mt_6_47 (by decide) rfl mL19 rfl hcat
theorem e131_33 : rf d 131 33 ls (.int y :: .int x :: s) h = rf d 131 34 ls (.int (x + y) :: s) h := rf_pure (i := .iadd) (len := 1) (okD_ok (by decide +kernel)) rfl
theorem e131_34 (hn : ip_nl l1 = true) : rf d 131 34 [l0, l1, l2, l3] (.int x :: s) h = rf d 131 35 [l0, l1, some (.int x), l3] s h := g_sti (i := .istore_n 2) (len := 1) (q := 1) (p := 1) (by decide +kernel) rfl rfl hn
theorem e131_35 (hn : ip_nl l2 = true) : rf d 131 35 [l0, l1, l2, some (.int x)] s h = rf d 131 38 [l0, l1, l2, some (.int (x + 1))] s h := g_inc (q := 2) (z := 1) (w := 1) (x := x) (by decide) (by decide +kernel) rfl rfl hn
theorem e131_38 : rf d 131 38 ls s h = rf d 131 7 ls s h := rf_goto ⟨okD_ok (i := .goto (-31)) (len := 3) (by decide +kernel), rfl⟩
theorem e131_41 : rf d 131 41 [l0, l1, some (.int x), l3] s h = rf d 131 42 [l0, l1, some (.int x), l3] (.int x :: s) h := rf_pure (i := .iload_n 2) (len := 1) (okD_ok (by decide +kernel)) rfl
theorem e131_42 : rf d 131 42 ls [.int x] h = some (.inl (some (.int x)), h) := g_ri (by decide +kernel) rt131
theorem en132 : cf d 132 [.int x0] h = rf d 132 0 [some (.int x0)] [] h := rfl
theorem e132_0 : rf d 132 0 [some (.int x)] s h = rf d 132 1 [some (.int x)] (.int x :: s) h := rf_pure (i := .iload_n 0) (len := 1) (okD_ok (by decide +kernel)) rfl
theorem e132_1 : rf d 132 1 ls s h = rf d 132 2 ls (.int 2 :: s) h := rf_pure (i := .iconst (2)) (len := 1) (okD_ok (by decide +kernel)) rfl
theorem e132_2 : rf d 132 2 ls (.int y :: .int x :: s) h = if ¬ x = y then rf d 132 9 ls s h else rf d 132 5 ls s h := g_ic (c := .ne) (off := 7) _ (by decide +kernel) rfl cmp_d
theorem e132_5 : rf d 132 5 ls s h = rf d 132 6 ls (.int 2 :: s) h := rf_pure (i := .iconst (2)) (len := 1) (okD_ok (by decide +kernel)) rfl
theorem e132_6 : rf d 132 6 ls s h = rf d 132 19 ls s h := rf_goto ⟨okD_ok (i := .goto (13)) (len := 3) (by decide +kernel), rfl⟩
theorem e132_9 : rf d 132 9 [some (.int x)] s h = rf d 132 10 [some (.int x)] (.int x :: s) h := rf_pure (i := .iload_n 0) (len := 1) (okD_ok (by decide +kernel)) rfl
theorem e132_10 : rf d 132 10 ls s h = rf d 132 11 ls (.int 3 :: s) h := rf_pure (i := .iconst (3)) (len := 1) (okD_ok (by decide +kernel)) rfl
theorem e132_11 : rf d 132 11 ls (.int y :: .int x :: s) h = if ¬ x = y then rf d 132 18 ls s h else rf d 132 14 ls s h := g_ic (c := .ne) (off := 7) _ (by decide +kernel) rfl cmp_d
theorem e132_14 : rf d 132 14 ls s h = rf d 132 15 ls (.int 1 :: s) h := rf_pure (i := .iconst (1)) (len := 1) (okD_ok (by decide +kernel)) rfl
theorem e132_15 : rf d 132 15 ls s h = rf d 132 19 ls s h := rf_goto ⟨okD_ok (i := .goto (4)) (len := 3) (by decide +kernel), rfl⟩
theorem e132_18 : rf d 132 18 ls s h = rf d 132 19 ls (.int 0 :: s) h := rf_pure (i := .iconst (0)) (len := 1) (okD_ok (by decide +kernel)) rfl
theorem e132_19 : rf d 132 19 ls [.int x] h = some (.inl (some (.int x)), h) := g_ri (by decide +kernel) rt132
theorem en133 : cf d 133 [.int x0, .int x1] h = rf d 133 0 [some (.int x0), some (.int x1), none] [] h := rfl
theorem e133_0 : rf d 133 0 [some (.int x), l1, l2] s h = rf d 133 1 [some (.int x), l1, l2] (.int x :: s) h := rf_pure (i := .iload_n 0) (len := 1) (okD_ok (by decide +kernel)) rfl
theorem e133_1 (hcat : ip_cat s ≤ 8) : rf (d + 1) 133 1 ls (.int x0 :: s) h = rf_k (d + 1) 133 1 ls s (cf d 19 [.int x0] h) := g_cs (idx := 156) [.int x0] (by decide +kernel) ow133 ms_7_156 mt_7_156 (by decide) rfl mL19 rfl hcat
theorem e133_4 : rf d 133 4 [l0, some (.int x), l2] s h = rf d 133 5 [l0, some (.int x), l2] (.int x :: s) h := rf_pure (i := .iload_n 1) (len := 1) (okD_ok (by decide +kernel)) rfl
theorem e133_5 (hcat : ip_cat s ≤ 8) : rf (d + 1) 133 5 ls (.int x0 :: s) h = rf_k (d + 1) 133 5 ls s (cf d 19 [.int x0] h) := g_cs (idx := 156) [.int x0] (by decide +kernel) ow133 ms_7_156 mt_7_156 (by decide) rfl mL19 rfl hcat
theorem e133_8 : rf d 133 8 ls (.int y :: .int x :: s) h = rf d 133 9 ls (.int (x - y) :: s) h := rf_pure (i := .isub) (len := 1) (okD_ok (by decide +kernel)) rfl
theorem e133_9 (hn : ip_nl l1 = true) : rf d 133 9 [l0, l1, l2] (.int x :: s) h = rf d 133 10 [l0, l1, some (.int x)] s h := g_sti (i := .istore_n 2) (len := 1) (q := 1) (p := 1) (by decide +kernel) rfl rfl hn
theorem e133_10 : rf d 133 10 [l0, l1, some (.int x)] s h = rf d 133 11 [l0, l1, some (.int x)] (.int x :: s) h := rf_pure (i := .iload_n 2) (len := 1) (okD_ok (by decide +kernel)) rfl
theorem e133_11 : rf d 133 11 ls (.int x :: s) h = if x < 0 then rf d 133 23 ls s h else rf d 133 14 ls s h := g_if (c := .lt) (off := 12) _ (by decide +kernel) rfl cmp_d
theorem e133_14 : rf d 133 14 [l0, l1, some (.int x)] s h = rf d 133 15 [l0, l1, some (.int x)] (.int x :: s) h := rf_pure (i := .iload_n 2) (len := 1) (okD_ok (by decide +kernel)) rfl
theorem e133_15 : rf d 133 15 ls (.int x :: s) h = if ¬ x = 0 then rf d 133 27 ls s h else rf d 133 18 ls s h := g_if (c := .ne) (off := 12) _ (by decide +kernel) rfl cmp_d
theorem e133_18 : rf d 133 18 [some (.int x), l1, l2] s h = rf d 133 19 [some (.int x), l1, l2] (.int x :: s) h := rf_pure (i := .iload_n 0) (len := 1) (okD_ok (by decide +kernel)) rfl
theorem e133_19 : rf d 133 19 [l0, some (.int x), l2] s h = rf d 133 20 [l0, some (.int x), l2] (.int x :: s) h := rf_pure (i := .iload_n 1) (len := 1) (okD_ok (by decide +kernel)) rfl
theorem e133_20 : rf d 133 20 ls (.int y :: .int x :: s) h = if y ≤ x then rf d 133 27 ls s h else rf d 133 23 ls s h := g_ic (c := .ge) (off := 7) _ (by decide +kernel) rfl cmp_d
theorem e133_23 : rf d 133 23 ls s h = rf d 133 24 ls (.int 1 :: s) h := rf_pure (i := .iconst (1)) (len := 1) (okD_ok (by decide +kernel)) rfl
theorem e133_24 : rf d 133 24 ls s h = rf d 133 28 ls s h := rf_goto ⟨okD_ok (i := .goto (4)) (len := 3) (by decide +kernel), rfl⟩
theorem e133_27 : rf d 133 27 ls s h = rf d 133 28 ls (.int 0 :: s) h := rf_pure (i := .iconst (0)) (len := 1) (okD_ok (by decide +kernel)) rfl
theorem e133_28 (hx : x = 0 ∨ x = 1) : rf d 133 28 ls [.int x] h = some (.inl (some (.int x)), h) := g_rz (by decide +kernel) rt133 hx
theorem en134 : cf d 134 [.ref a0, .int x1, .int x2, .ref a3] h = rf d 134 0 [some (.ref a0), some (.int x1), some (.int x2), some (.ref a3), none] [] h := rfl
theorem e134_0 : rf d 134 0 [l0, l1, l2, some (.ref a), l4] s h = rf d 134 1 [l0, l1, l2, some (.ref a), l4] (.ref a :: s) h := rf_pure (i := .aload_n 3) (len := 1) (okD_ok (by decide +kernel)) rfl
theorem e134_1 : rf d 134 1 ls s h = rf d 134 2 ls (.int 0 :: s) h := rf_pure (i := .iconst (0)) (len := 1) (okD_ok (by decide +kernel)) rfl
theorem e134_2 : rf d 134 2 [some (.ref a), l1, l2, l3, l4] s h = rf d 134 3 [some (.ref a), l1, l2, l3, l4] (.ref a :: s) h := rf_pure (i := .aload_n 0) (len := 1) (okD_ok (by decide +kernel)) rfl
theorem e134_3 : rf d 134 3 [l0, some (.int x), l2, l3, l4] s h = rf d 134 4 [l0, some (.int x), l2, l3, l4] (.int x :: s) h := rf_pure (i := .iload_n 1) (len := 1) (okD_ok (by decide +kernel)) rfl
theorem e134_4 : rf d 134 4 [l0, l1, some (.int x), l3, l4] s h = rf d 134 5 [l0, l1, some (.int x), l3, l4] (.int x :: s) h := rf_pure (i := .iload_n 2) (len := 1) (okD_ok (by decide +kernel)) rfl
theorem e134_5 (hcat : ip_cat s ≤ 8) : rf (d + 1) 134 5 ls (.int x1 :: .int x0 :: .ref 2 :: s) (SH n, I, L, R, nc, ns, nx) = rf_k (d + 1) 134 5 ls s (cf d 135 [.ref 2, .int x0, .int x1] (SH n, I, L, R, nc, ns, nx)) := g_cv (idx := 63) (t := 7) [.int x1, .int x0] (by decide +kernel) ow134 ms_9_63 mt_9_63 cy135_7 rfl rfl mL135 rfl rfl (by decide) hcat
theorem e134_8 : rf d 134 8 ls (.int x :: s) h = rf d 134 9 ls (.long x.toInt64 :: s) h := rf_pure (i := .i2l) (len := 1) (okD_ok (by decide +kernel)) rfl
theorem e134_9 (q : la n a j) : rf d 134 9 ls (.long u :: .int j :: .ref a :: s) (SH n, I, L, R, nc, ns, nx) = rf d 134 10 ls s (SH n, I, ip_up L a j.toNatClampNeg u, R, nc, ns, nx) := g_las (by decide +kernel) q
theorem e134_10 : rf d 134 10 ls s h = rf d 134 25 ls s h := rf_goto ⟨okD_ok (i := .goto (15)) (len := 3) (by decide +kernel), rfl⟩
theorem e134_25 : rf d 134 25 ls s h = rf d 134 26 ls (.int 0 :: s) h := rf_pure (i := .iconst (0)) (len := 1) (okD_ok (by decide +kernel)) rfl
theorem e134_26 : rf d 134 26 ls [.int x] h = some (.inl (some (.int x)), h) := g_ri (by decide +kernel) rt134
theorem en135 : cf d 135 [.ref a, .int x0, .int x1] h = rf d 135 0 [some (.ref a), some (.int x0), some (.int x1)] [] h := rfl
theorem e135_0 : rf d 135 0 [some (.ref a), l1, l2] s h = rf d 135 1 [some (.ref a), l1, l2] (.ref a :: s) h := rf_pure (i := .aload_n 0) (len := 1) (okD_ok (by decide +kernel)) rfl
theorem e135_1 : rf d 135 1 [l0, some (.int x), l2] s h = rf d 135 2 [l0, some (.int x), l2] (.int x :: s) h := rf_pure (i := .iload_n 1) (len := 1) (okD_ok (by decide +kernel)) rfl
theorem e135_2 (hcat : ip_cat s ≤ 8) : rf (d + 1) 135 2 ls (.int x0 :: .ref 2 :: s) (SH n, I, L, R, nc, ns, nx) = rf_k (d + 1) 135 2 ls s (cf d 75 [.ref 2, .int x0] (SH n, I, L, R, nc, ns, nx)) := g_cv (idx := 100) (t := 7) [.int x0] (by decide +kernel) ow135 ms_7_100 mt_7_100 cy75_7 rfl rfl mL75 rfl rfl (by decide) hcat
theorem e135_5 : rf d 135 5 [l0, l1, some (.int x)] s h = rf d 135 6 [l0, l1, some (.int x)] (.int x :: s) h := rf_pure (i := .iload_n 2) (len := 1) (okD_ok (by decide +kernel)) rfl
theorem e135_6 (hcat : ip_cat s ≤ 8) : rf (d + 1) 135 6 ls (.int x0 :: s) h = rf_k (d + 1) 135 6 ls s (cf d 86 [.int x0] h) := g_cs (idx := 133) [.int x0] (by decide +kernel) ow135 ms_7_133 mt_7_133 (by decide) rfl mL86 rfl hcat
theorem e135_9 : rf d 135 9 [some (.ref a), l1, l2] s h = rf d 135 10 [some (.ref a), l1, l2] (.ref a :: s) h := rf_pure (i := .aload_n 0) (len := 1) (okD_ok (by decide +kernel)) rfl
theorem e135_10 (hcat : ip_cat s ≤ 8) : rf (d + 1) 135 10 ls (.ref 2 :: s) (SH n, I, L, R, nc, ns, nx) = rf_k (d + 1) 135 10 ls s (cf d 99 [.ref 2] (SH n, I, L, R, nc, ns, nx)) := g_cv (idx := 185) (t := 7) [] (by decide +kernel) ow135 ms_7_185 mt_7_185 cy99_7 rfl rfl mL99 rfl rfl (by decide) hcat
theorem e135_13 : rf d 135 13 [some (.ref a), l1, l2] s h = rf d 135 14 [some (.ref a), l1, l2] (.ref a :: s) h := rf_pure (i := .aload_n 0) (len := 1) (okD_ok (by decide +kernel)) rfl
theorem e135_14 (hR : LYR R) : rf d 135 14 ls (.ref 2 :: s) (SH n, I, L, R, nc, ns, nx) = rf d 135 17 ls (.ref 24 :: s) (SH n, I, L, R, nc, ns, nx) := g_R (idx := 49) (by decide +kernel) ow135 f_7_49 rfl rfl (by decide) (ly_2_8 hR)
theorem e135_17 : rf d 135 17 [l0, some (.int x), l2] s h = rf d 135 18 [l0, some (.int x), l2] (.int x :: s) h := rf_pure (i := .iload_n 1) (len := 1) (okD_ok (by decide +kernel)) rfl
theorem e135_18 : rf d 135 18 [l0, l1, some (.int x)] s h = rf d 135 19 [l0, l1, some (.int x)] (.int x :: s) h := rf_pure (i := .iload_n 2) (len := 1) (okD_ok (by decide +kernel)) rfl
theorem e135_19 (hb : isC b) (hcat : ip_cat s ≤ 8) : rf (d + 1) 135 19 ls (.int x1 :: .int x0 :: .ref b :: s) (SH n, I, L, R, nc, ns, nx) = rf_k (d + 1) 135 19 ls s (cf d 104 [.ref b, .int x0, .int x1] (SH n, I, L, R, nc, ns, nx)) := g_cv (idx := 236) (t := 0) [.int x1, .int x0] (by decide +kernel) ow135 ms_7_236 mt_7_236 cy104_0 rfl rfl mL104 rfl (kdC0 hb) (geC hb) hcat
theorem e135_22 : rf d 135 22 ls [.int x] h = some (.inl (some (.int x)), h) := g_ri (by decide +kernel) rt135
theorem en136 : cf d 136 [.ref a0, .int x1, .int x2, .ref a3] h = rf d 136 0 [some (.ref a0), some (.int x1), some (.int x2), some (.ref a3), none] [] h := rfl
theorem e136_0 : rf d 136 0 [l0, l1, l2, some (.ref a), l4] s h = rf d 136 1 [l0, l1, l2, some (.ref a), l4] (.ref a :: s) h := rf_pure (i := .aload_n 3) (len := 1) (okD_ok (by decide +kernel)) rfl
theorem e136_1 : rf d 136 1 ls s h = rf d 136 2 ls (.int 0 :: s) h := rf_pure (i := .iconst (0)) (len := 1) (okD_ok (by decide +kernel)) rfl
theorem e136_2 : rf d 136 2 [some (.ref a), l1, l2, l3, l4] s h = rf d 136 3 [some (.ref a), l1, l2, l3, l4] (.ref a :: s) h := rf_pure (i := .aload_n 0) (len := 1) (okD_ok (by decide +kernel)) rfl
theorem e136_3 : rf d 136 3 [l0, some (.int x), l2, l3, l4] s h = rf d 136 4 [l0, some (.int x), l2, l3, l4] (.int x :: s) h := rf_pure (i := .iload_n 1) (len := 1) (okD_ok (by decide +kernel)) rfl
theorem e136_4 : rf d 136 4 [l0, l1, some (.int x), l3, l4] s h = rf d 136 5 [l0, l1, some (.int x), l3, l4] (.int x :: s) h := rf_pure (i := .iload_n 2) (len := 1) (okD_ok (by decide +kernel)) rfl
theorem e136_5 (hcat : ip_cat s ≤ 8) : rf (d + 1) 136 5 ls (.int x1 :: .int x0 :: .ref 2 :: s) (SH n, I, L, R, nc, ns, nx) = rf_k (d + 1) 136 5 ls s (cf d 137 [.ref 2, .int x0, .int x1] (SH n, I, L, R, nc, ns, nx)) := g_cv (idx := 66) (t := 7) [.int x1, .int x0] (by decide +kernel) ow136 ms_9_66 mt_9_66 cy137_7 rfl rfl mL137 rfl rfl (by decide) hcat
theorem e136_8 : rf d 136 8 ls (.int x :: s) h = rf d 136 9 ls (.long x.toInt64 :: s) h := rf_pure (i := .i2l) (len := 1) (okD_ok (by decide +kernel)) rfl
theorem e136_9 (q : la n a j) : rf d 136 9 ls (.long u :: .int j :: .ref a :: s) (SH n, I, L, R, nc, ns, nx) = rf d 136 10 ls s (SH n, I, ip_up L a j.toNatClampNeg u, R, nc, ns, nx) := g_las (by decide +kernel) q
theorem e136_10 : rf d 136 10 ls s h = rf d 136 21 ls s h := rf_goto ⟨okD_ok (i := .goto (11)) (len := 3) (by decide +kernel), rfl⟩
theorem e136_21 : rf d 136 21 ls s h = rf d 136 22 ls (.int 0 :: s) h := rf_pure (i := .iconst (0)) (len := 1) (okD_ok (by decide +kernel)) rfl
theorem e136_22 : rf d 136 22 ls [.int x] h = some (.inl (some (.int x)), h) := g_ri (by decide +kernel) rt136
theorem en137 : cf d 137 [.ref a, .int x0, .int x1] h = rf d 137 0 [some (.ref a), some (.int x0), some (.int x1)] [] h := rfl
theorem e137_0 : rf d 137 0 [l0, some (.int x), l2] s h = rf d 137 1 [l0, some (.int x), l2] (.int x :: s) h := rf_pure (i := .iload_n 1) (len := 1) (okD_ok (by decide +kernel)) rfl
theorem e137_1 (hcat : ip_cat s ≤ 8) : rf (d + 1) 137 1 ls (.int x0 :: s) h = rf_k (d + 1) 137 1 ls s (cf d 86 [.int x0] h) := g_cs (idx := 133) [.int x0] (by decide +kernel) ow137 ms_7_133 mt_7_133 (by decide) rfl mL86 rfl hcat
theorem e137_4 : rf d 137 4 [some (.ref a), l1, l2] s h = rf d 137 5 [some (.ref a), l1, l2] (.ref a :: s) h := rf_pure (i := .aload_n 0) (len := 1) (okD_ok (by decide +kernel)) rfl
theorem e137_5 (hcat : ip_cat s ≤ 8) : rf (d + 1) 137 5 ls (.ref 2 :: s) (SH n, I, L, R, nc, ns, nx) = rf_k (d + 1) 137 5 ls s (cf d 99 [.ref 2] (SH n, I, L, R, nc, ns, nx)) := g_cv (idx := 185) (t := 7) [] (by decide +kernel) ow137 ms_7_185 mt_7_185 cy99_7 rfl rfl mL99 rfl rfl (by decide) hcat
theorem e137_8 : rf d 137 8 [l0, l1, some (.int x)] s h = rf d 137 9 [l0, l1, some (.int x)] (.int x :: s) h := rf_pure (i := .iload_n 2) (len := 1) (okD_ok (by decide +kernel)) rfl
theorem e137_9 : rf d 137 9 ls (.int x :: s) h = if x = 0 then rf d 137 24 ls s h else rf d 137 12 ls s h := g_if (c := .eq) (off := 15) _ (by decide +kernel) rfl cmp_d
theorem e137_12 : rf d 137 12 [some (.ref a), l1, l2] s h = rf d 137 13 [some (.ref a), l1, l2] (.ref a :: s) h := rf_pure (i := .aload_n 0) (len := 1) (okD_ok (by decide +kernel)) rfl
theorem e137_13 (hR : LYR R) : rf d 137 13 ls (.ref 2 :: s) (SH n, I, L, R, nc, ns, nx) = rf d 137 16 ls (.ref 24 :: s) (SH n, I, L, R, nc, ns, nx) := g_R (idx := 49) (by decide +kernel) ow137 f_7_49 rfl rfl (by decide) (ly_2_8 hR)
theorem e137_16 (hR : LYR R) (ha : isC a) : rf d 137 16 ls (.ref a :: s) (SH n, I, L, R, nc, ns, nx) = rf d 137 19 ls (.ref (a + 14) :: s) (SH n, I, L, R, nc, ns, nx) := g_R (idx := 239) (by decide +kernel) ow137 f_7_239 rfl (kdC0 ha) (geC ha) (lyC7 hR ha)
theorem e137_19 : rf d 137 19 [l0, some (.int x), l2] s h = rf d 137 20 [l0, some (.int x), l2] (.int x :: s) h := rf_pure (i := .iload_n 1) (len := 1) (okD_ok (by decide +kernel)) rfl
theorem e137_20 (q : ia n a j) : rf d 137 20 ls (.int j :: .ref a :: s) (SH n, I, L, R, nc, ns, nx) = rf d 137 21 ls (.int (I a j.toNatClampNeg) :: s) (SH n, I, L, R, nc, ns, nx) := g_ial (by decide +kernel) q
theorem e137_21 : rf d 137 21 ls s h = rf d 137 33 ls s h := rf_goto ⟨okD_ok (i := .goto (12)) (len := 3) (by decide +kernel), rfl⟩
theorem e137_24 : rf d 137 24 [some (.ref a), l1, l2] s h = rf d 137 25 [some (.ref a), l1, l2] (.ref a :: s) h := rf_pure (i := .aload_n 0) (len := 1) (okD_ok (by decide +kernel)) rfl
theorem e137_25 (hR : LYR R) : rf d 137 25 ls (.ref 2 :: s) (SH n, I, L, R, nc, ns, nx) = rf d 137 28 ls (.ref 24 :: s) (SH n, I, L, R, nc, ns, nx) := g_R (idx := 49) (by decide +kernel) ow137 f_7_49 rfl rfl (by decide) (ly_2_8 hR)
theorem e137_28 (hR : LYR R) (ha : isC a) : rf d 137 28 ls (.ref a :: s) (SH n, I, L, R, nc, ns, nx) = rf d 137 31 ls (.ref (a + 13) :: s) (SH n, I, L, R, nc, ns, nx) := g_R (idx := 242) (by decide +kernel) ow137 f_7_242 rfl (kdC0 ha) (geC ha) (lyC6 hR ha)
theorem e137_31 : rf d 137 31 [l0, some (.int x), l2] s h = rf d 137 32 [l0, some (.int x), l2] (.int x :: s) h := rf_pure (i := .iload_n 1) (len := 1) (okD_ok (by decide +kernel)) rfl
theorem e137_32 (q : ia n a j) : rf d 137 32 ls (.int j :: .ref a :: s) (SH n, I, L, R, nc, ns, nx) = rf d 137 33 ls (.int (I a j.toNatClampNeg) :: s) (SH n, I, L, R, nc, ns, nx) := g_ial (by decide +kernel) q
theorem e137_33 : rf d 137 33 ls [.int x] h = some (.inl (some (.int x)), h) := g_ri (by decide +kernel) rt137
theorem en138 : cf d 138 [.ref a0, .int x1, .ref a2] h = rf d 138 0 [some (.ref a0), some (.int x1), some (.ref a2), none] [] h := rfl
theorem e138_0 : rf d 138 0 [l0, l1, some (.ref a), l3] s h = rf d 138 1 [l0, l1, some (.ref a), l3] (.ref a :: s) h := rf_pure (i := .aload_n 2) (len := 1) (okD_ok (by decide +kernel)) rfl
theorem e138_1 : rf d 138 1 ls s h = rf d 138 2 ls (.int 0 :: s) h := rf_pure (i := .iconst (0)) (len := 1) (okD_ok (by decide +kernel)) rfl
theorem e138_2 : rf d 138 2 [some (.ref a), l1, l2, l3] s h = rf d 138 3 [some (.ref a), l1, l2, l3] (.ref a :: s) h := rf_pure (i := .aload_n 0) (len := 1) (okD_ok (by decide +kernel)) rfl
theorem e138_3 : rf d 138 3 [l0, some (.int x), l2, l3] s h = rf d 138 4 [l0, some (.int x), l2, l3] (.int x :: s) h := rf_pure (i := .iload_n 1) (len := 1) (okD_ok (by decide +kernel)) rfl
theorem e138_4 (hcat : ip_cat s ≤ 8) : rf (d + 1) 138 4 ls (.int x0 :: .ref 2 :: s) (SH n, I, L, R, nc, ns, nx) = rf_k (d + 1) 138 4 ls s (cf d 139 [.ref 2, .int x0] (SH n, I, L, R, nc, ns, nx)) := g_cv (idx := 69) (t := 7) [.int x0] (by decide +kernel) ow138 ms_9_69 mt_9_69 cy139_7 rfl rfl mL139 rfl rfl (by decide) hcat
theorem e138_7 : rf d 138 7 ls (.int x :: s) h = rf d 138 8 ls (.long x.toInt64 :: s) h := rf_pure (i := .i2l) (len := 1) (okD_ok (by decide +kernel)) rfl
theorem e138_8 (q : la n a j) : rf d 138 8 ls (.long u :: .int j :: .ref a :: s) (SH n, I, L, R, nc, ns, nx) = rf d 138 9 ls s (SH n, I, ip_up L a j.toNatClampNeg u, R, nc, ns, nx) := g_las (by decide +kernel) q
theorem e138_9 : rf d 138 9 ls s h = rf d 138 15 ls s h := rf_goto ⟨okD_ok (i := .goto (6)) (len := 3) (by decide +kernel), rfl⟩
theorem e138_15 : rf d 138 15 ls s h = rf d 138 16 ls (.int 0 :: s) h := rf_pure (i := .iconst (0)) (len := 1) (okD_ok (by decide +kernel)) rfl
theorem e138_16 : rf d 138 16 ls [.int x] h = some (.inl (some (.int x)), h) := g_ri (by decide +kernel) rt138
theorem en139 : cf d 139 [.ref a, .int x0] h = rf d 139 0 [some (.ref a), some (.int x0)] [] h := rfl
theorem e139_0 : rf d 139 0 [some (.ref a), l1] s h = rf d 139 1 [some (.ref a), l1] (.ref a :: s) h := rf_pure (i := .aload_n 0) (len := 1) (okD_ok (by decide +kernel)) rfl
theorem e139_1 : rf d 139 1 [l0, some (.int x)] s h = rf d 139 2 [l0, some (.int x)] (.int x :: s) h := rf_pure (i := .iload_n 1) (len := 1) (okD_ok (by decide +kernel)) rfl
theorem e139_2 (hcat : ip_cat s ≤ 8) : rf (d + 1) 139 2 ls (.int x0 :: .ref 2 :: s) (SH n, I, L, R, nc, ns, nx) = rf_k (d + 1) 139 2 ls s (cf d 98 [.ref 2, .int x0] (SH n, I, L, R, nc, ns, nx)) := g_cv (idx := 182) (t := 7) [.int x0] (by decide +kernel) ow139 ms_7_182 mt_7_182 cy98_7 rfl rfl mL98 rfl rfl (by decide) hcat
theorem e139_5 : rf d 139 5 [some (.ref a), l1] s h = rf d 139 6 [some (.ref a), l1] (.ref a :: s) h := rf_pure (i := .aload_n 0) (len := 1) (okD_ok (by decide +kernel)) rfl
theorem e139_6 : rf d 139 6 ls (.ref 2 :: s) (SH n, I, L, R, nc, ns, nx) = rf d 139 9 ls (ip_rf (R 2 4) :: s) (SH n, I, L, R, nc, ns, nx) := g_R (idx := 30) (by decide +kernel) ow139 f_7_30 rfl rfl (by decide) rfl
theorem e139_9 : rf d 139 9 [l0, some (.int x)] s h = rf d 139 10 [l0, some (.int x)] (.int x :: s) h := rf_pure (i := .iload_n 1) (len := 1) (okD_ok (by decide +kernel)) rfl
theorem e139_10 (hb : isT b) (hcat : ip_cat s ≤ 8) : rf (d + 1) 139 10 ls (.int x0 :: .ref b :: s) (SH n, I, L, R, nc, ns, nx) = rf_k (d + 1) 139 10 ls s (cf d 131 [.ref b, .int x0] (SH n, I, L, R, nc, ns, nx)) := g_cv (idx := 245) (t := 6) [.int x0] (by decide +kernel) ow139 ms_7_245 mt_7_245 cy131_6 rfl rfl mL131 rfl (kdT0 hb) (geT hb) hcat
theorem e139_13 : rf d 139 13 ls [.int x] h = some (.inl (some (.int x)), h) := g_ri (by decide +kernel) rt139
theorem en140 : cf d 140 [.ref a0, .int x1, .int x2, .int x3, .ref a4] h = rf d 140 0 [some (.ref a0), some (.int x1), some (.int x2), some (.int x3), some (.ref a4), none] [] h := rfl
theorem e140_0 : rf d 140 0 [l0, l1, l2, l3, some (.ref a), l5] s h = rf d 140 2 [l0, l1, l2, l3, some (.ref a), l5] (.ref a :: s) h := rf_pure (i := .aload 4) (len := 2) (okD_ok (by decide +kernel)) rfl
theorem e140_2 : rf d 140 2 ls s h = rf d 140 3 ls (.int 0 :: s) h := rf_pure (i := .iconst (0)) (len := 1) (okD_ok (by decide +kernel)) rfl
theorem e140_3 : rf d 140 3 [some (.ref a), l1, l2, l3, l4, l5] s h = rf d 140 4 [some (.ref a), l1, l2, l3, l4, l5] (.ref a :: s) h := rf_pure (i := .aload_n 0) (len := 1) (okD_ok (by decide +kernel)) rfl
theorem e140_4 : rf d 140 4 [l0, some (.int x), l2, l3, l4, l5] s h = rf d 140 5 [l0, some (.int x), l2, l3, l4, l5] (.int x :: s) h := rf_pure (i := .iload_n 1) (len := 1) (okD_ok (by decide +kernel)) rfl
theorem e140_5 : rf d 140 5 [l0, l1, some (.int x), l3, l4, l5] s h = rf d 140 6 [l0, l1, some (.int x), l3, l4, l5] (.int x :: s) h := rf_pure (i := .iload_n 2) (len := 1) (okD_ok (by decide +kernel)) rfl
theorem e140_6 : rf d 140 6 [l0, l1, l2, some (.int x), l4, l5] s h = rf d 140 7 [l0, l1, l2, some (.int x), l4, l5] (.int x :: s) h := rf_pure (i := .iload_n 3) (len := 1) (okD_ok (by decide +kernel)) rfl
theorem e140_7 (hcat : ip_cat s ≤ 8) : rf (d + 1) 140 7 ls (.int x2 :: .int x1 :: .int x0 :: .ref 2 :: s) (SH n, I, L, R, nc, ns, nx) = rf_k (d + 1) 140 7 ls s (cf d 141 [.ref 2, .int x0, .int x1, .int x2] (SH n, I, L, R, nc, ns, nx)) := g_cv (idx := 72) (t := 7) [.int x2, .int x1, .int x0] (by decide +kernel) ow140 ms_9_72 mt_9_72 cy141_7 rfl rfl mL141 rfl rfl (by decide) hcat
theorem e140_10 : rf d 140 10 ls (.int x :: s) h = rf d 140 11 ls (.long x.toInt64 :: s) h := rf_pure (i := .i2l) (len := 1) (okD_ok (by decide +kernel)) rfl
theorem e140_11 (q : la n a j) : rf d 140 11 ls (.long u :: .int j :: .ref a :: s) (SH n, I, L, R, nc, ns, nx) = rf d 140 12 ls s (SH n, I, ip_up L a j.toNatClampNeg u, R, nc, ns, nx) := g_las (by decide +kernel) q
theorem e140_12 : rf d 140 12 ls s h = rf d 140 27 ls s h := rf_goto ⟨okD_ok (i := .goto (15)) (len := 3) (by decide +kernel), rfl⟩
theorem e140_27 : rf d 140 27 ls s h = rf d 140 28 ls (.int 0 :: s) h := rf_pure (i := .iconst (0)) (len := 1) (okD_ok (by decide +kernel)) rfl
theorem e140_28 : rf d 140 28 ls [.int x] h = some (.inl (some (.int x)), h) := g_ri (by decide +kernel) rt140
theorem en141 : cf d 141 [.ref a, .int x0, .int x1, .int x2] h = rf d 141 0 [some (.ref a), some (.int x0), some (.int x1), some (.int x2)] [] h := rfl
theorem e141_0 : rf d 141 0 [l0, some (.int x), l2, l3] s h = rf d 141 1 [l0, some (.int x), l2, l3] (.int x :: s) h := rf_pure (i := .iload_n 1) (len := 1) (okD_ok (by decide +kernel)) rfl
theorem e141_1 (hcat : ip_cat s ≤ 8) : rf (d + 1) 141 1 ls (.int x0 :: s) h = rf_k (d + 1) 141 1 ls s (cf d 129 [.int x0] h) := g_cs (idx := 224) [.int x0] (by decide +kernel) ow141 ms_7_224 mt_7_224 (by decide) rfl mL129 rfl hcat
theorem e141_4 : rf d 141 4 [l0, l1, some (.int x), l3] s h = rf d 141 5 [l0, l1, some (.int x), l3] (.int x :: s) h := rf_pure (i := .iload_n 2) (len := 1) (okD_ok (by decide +kernel)) rfl
theorem e141_5 (hcat : ip_cat s ≤ 8) : rf (d + 1) 141 5 ls (.int x0 :: s) h = rf_k (d + 1) 141 5 ls s (cf d 129 [.int x0] h) := g_cs (idx := 224) [.int x0] (by decide +kernel) ow141 ms_7_224 mt_7_224 (by decide) rfl mL129 rfl hcat
theorem e141_8 : rf d 141 8 [some (.ref a), l1, l2, l3] s h = rf d 141 9 [some (.ref a), l1, l2, l3] (.ref a :: s) h := rf_pure (i := .aload_n 0) (len := 1) (okD_ok (by decide +kernel)) rfl
theorem e141_9 (hcat : ip_cat s ≤ 8) : rf (d + 1) 141 9 ls (.ref 2 :: s) (SH n, I, L, R, nc, ns, nx) = rf_k (d + 1) 141 9 ls s (cf d 99 [.ref 2] (SH n, I, L, R, nc, ns, nx)) := g_cv (idx := 185) (t := 7) [] (by decide +kernel) ow141 ms_7_185 mt_7_185 cy99_7 rfl rfl mL99 rfl rfl (by decide) hcat
theorem e141_12 : rf d 141 12 [l0, l1, l2, some (.int x)] s h = rf d 141 13 [l0, l1, l2, some (.int x)] (.int x :: s) h := rf_pure (i := .iload_n 3) (len := 1) (okD_ok (by decide +kernel)) rfl
theorem e141_13 : rf d 141 13 ls (.int x :: s) h = if x < 0 then rf d 141 21 ls s h else rf d 141 16 ls s h := g_if (c := .lt) (off := 8) _ (by decide +kernel) rfl cmp_d
theorem e141_16 : rf d 141 16 [l0, l1, l2, some (.int x)] s h = rf d 141 17 [l0, l1, l2, some (.int x)] (.int x :: s) h := rf_pure (i := .iload_n 3) (len := 1) (okD_ok (by decide +kernel)) rfl
theorem e141_17 : rf d 141 17 ls s h = rf d 141 18 ls (.int 2 :: s) h := rf_pure (i := .iconst (2)) (len := 1) (okD_ok (by decide +kernel)) rfl
theorem e141_18 : rf d 141 18 ls (.int y :: .int x :: s) h = if x ≤ y then rf d 141 31 ls s h else rf d 141 21 ls s h := g_ic (c := .le) (off := 13) _ (by decide +kernel) rfl cmp_d
theorem e141_21 : rf d 141 21 ls [] h = some (.inr "java/util/NoSuchElementException", ip_hx h) := g_thr (idx := 112) (by decide +kernel) ow141 (by decide +kernel) (by decide +kernel)
theorem e141_31 : rf d 141 31 [some (.ref a), l1, l2, l3] s h = rf d 141 32 [some (.ref a), l1, l2, l3] (.ref a :: s) h := rf_pure (i := .aload_n 0) (len := 1) (okD_ok (by decide +kernel)) rfl
theorem e141_32 (hR : LYR R) : rf d 141 32 ls (.ref 2 :: s) (SH n, I, L, R, nc, ns, nx) = rf d 141 35 ls (.ref 40 :: s) (SH n, I, L, R, nc, ns, nx) := g_R (idx := 56) (by decide +kernel) ow141 f_7_56 rfl rfl (by decide) (ly_2_9 hR)
theorem e141_35 : rf d 141 35 [some (.ref a), l1, l2, l3] s h = rf d 141 36 [some (.ref a), l1, l2, l3] (.ref a :: s) h := rf_pure (i := .aload_n 0) (len := 1) (okD_ok (by decide +kernel)) rfl
theorem e141_36 (hR : LYR R) : rf d 141 36 ls (.ref 2 :: s) (SH n, I, L, R, nc, ns, nx) = rf d 141 39 ls (.ref 24 :: s) (SH n, I, L, R, nc, ns, nx) := g_R (idx := 49) (by decide +kernel) ow141 f_7_49 rfl rfl (by decide) (ly_2_8 hR)
theorem e141_39 : rf d 141 39 [l0, some (.int x), l2, l3] s h = rf d 141 40 [l0, some (.int x), l2, l3] (.int x :: s) h := rf_pure (i := .iload_n 1) (len := 1) (okD_ok (by decide +kernel)) rfl
theorem e141_40 : rf d 141 40 [l0, l1, some (.int x), l3] s h = rf d 141 41 [l0, l1, some (.int x), l3] (.int x :: s) h := rf_pure (i := .iload_n 2) (len := 1) (okD_ok (by decide +kernel)) rfl
theorem e141_41 (hcat : ip_cat s ≤ 8) : rf (d + 1) 141 41 ls (.int x2 :: .int x1 :: .ref a0 :: .ref 40 :: s) (SH n, I, L, R, nc, ns, nx) = rf_k (d + 1) 141 41 ls s (cf d 142 [.ref 40, .ref a0, .int x1, .int x2] (SH n, I, L, R, nc, ns, nx)) := g_cv (idx := 248) (t := 3) [.int x2, .int x1, .ref a0] (by decide +kernel) ow141 ms_7_248 mt_7_248 cy142_3 rfl rfl mL142 rfl rfl (by decide) hcat
theorem e141_44 : rf d 141 44 [l0, l1, l2, some (.int x)] s h = rf d 141 45 [l0, l1, l2, some (.int x)] (.int x :: s) h := rf_pure (i := .iload_n 3) (len := 1) (okD_ok (by decide +kernel)) rfl
theorem e141_45 : rf d 141 45 ls (.int x :: s) h = if ¬ x = 0 then rf d 141 58 ls s h else rf d 141 48 ls s h := g_if (c := .ne) (off := 13) _ (by decide +kernel) rfl cmp_d
theorem e141_48 : rf d 141 48 [some (.ref a), l1, l2, l3] s h = rf d 141 49 [some (.ref a), l1, l2, l3] (.ref a :: s) h := rf_pure (i := .aload_n 0) (len := 1) (okD_ok (by decide +kernel)) rfl
theorem e141_49 (hR : LYR R) : rf d 141 49 ls (.ref 2 :: s) (SH n, I, L, R, nc, ns, nx) = rf d 141 52 ls (.ref 40 :: s) (SH n, I, L, R, nc, ns, nx) := g_R (idx := 56) (by decide +kernel) ow141 f_7_56 rfl rfl (by decide) (ly_2_9 hR)
theorem e141_52 : rf d 141 52 ls (.ref 40 :: s) (SH n, I, L, R, nc, ns, nx) = rf d 141 55 ls (.int (I 40 4) :: s) (SH n, I, L, R, nc, ns, nx) := g_I (idx := 252) (by decide +kernel) ow141 f_7_252 rfl rfl (by decide)
theorem e141_55 : rf d 141 55 ls s h = rf d 141 80 ls s h := rf_goto ⟨okD_ok (i := .goto (25)) (len := 3) (by decide +kernel), rfl⟩
theorem e141_58 : rf d 141 58 [l0, l1, l2, some (.int x)] s h = rf d 141 59 [l0, l1, l2, some (.int x)] (.int x :: s) h := rf_pure (i := .iload_n 3) (len := 1) (okD_ok (by decide +kernel)) rfl
theorem e141_59 : rf d 141 59 ls s h = rf d 141 60 ls (.int 1 :: s) h := rf_pure (i := .iconst (1)) (len := 1) (okD_ok (by decide +kernel)) rfl
theorem e141_60 : rf d 141 60 ls (.int y :: .int x :: s) h = if ¬ x = y then rf d 141 73 ls s h else rf d 141 63 ls s h := g_ic (c := .ne) (off := 13) _ (by decide +kernel) rfl cmp_d
theorem e141_63 : rf d 141 63 [some (.ref a), l1, l2, l3] s h = rf d 141 64 [some (.ref a), l1, l2, l3] (.ref a :: s) h := rf_pure (i := .aload_n 0) (len := 1) (okD_ok (by decide +kernel)) rfl
theorem e141_64 (hR : LYR R) : rf d 141 64 ls (.ref 2 :: s) (SH n, I, L, R, nc, ns, nx) = rf d 141 67 ls (.ref 40 :: s) (SH n, I, L, R, nc, ns, nx) := g_R (idx := 56) (by decide +kernel) ow141 f_7_56 rfl rfl (by decide) (ly_2_9 hR)
theorem e141_67 : rf d 141 67 ls (.ref 40 :: s) (SH n, I, L, R, nc, ns, nx) = rf d 141 70 ls (.int (I 40 3) :: s) (SH n, I, L, R, nc, ns, nx) := g_I (idx := 255) (by decide +kernel) ow141 f_7_255 rfl rfl (by decide)
theorem e141_70 : rf d 141 70 ls s h = rf d 141 80 ls s h := rf_goto ⟨okD_ok (i := .goto (10)) (len := 3) (by decide +kernel), rfl⟩
theorem e141_73 : rf d 141 73 [some (.ref a), l1, l2, l3] s h = rf d 141 74 [some (.ref a), l1, l2, l3] (.ref a :: s) h := rf_pure (i := .aload_n 0) (len := 1) (okD_ok (by decide +kernel)) rfl
theorem e141_74 (hR : LYR R) : rf d 141 74 ls (.ref 2 :: s) (SH n, I, L, R, nc, ns, nx) = rf d 141 77 ls (.ref 40 :: s) (SH n, I, L, R, nc, ns, nx) := g_R (idx := 56) (by decide +kernel) ow141 f_7_56 rfl rfl (by decide) (ly_2_9 hR)
theorem e141_77 : rf d 141 77 ls (.ref 40 :: s) (SH n, I, L, R, nc, ns, nx) = rf d 141 80 ls (.int (I 40 5) :: s) (SH n, I, L, R, nc, ns, nx) := g_I (idx := 256) (by decide +kernel) ow141 f_7_256 rfl rfl (by decide)
theorem e141_80 : rf d 141 80 ls [.int x] h = some (.inl (some (.int x)), h) := g_ri (by decide +kernel) rt141
theorem en142 : cf d 142 [.ref a, .ref a0, .int x1, .int x2] h = rf d 142 0 [some (.ref a), some (.ref a0), some (.int x1), some (.int x2), none, none, none, none] [] h := rfl
theorem e142_0 : rf d 142 0 [l0, some (.ref a), l2, l3, l4, l5, l6, l7] s h = rf d 142 1 [l0, some (.ref a), l2, l3, l4, l5, l6, l7] (.ref a :: s) h := rf_pure (i := .aload_n 1) (len := 1) (okD_ok (by decide +kernel)) rfl
theorem e142_1 (hb : isC b) (hcat : ip_cat s ≤ 8) : rf (d + 1) 142 1 ls (.ref b :: s) (SH n, I, L, R, nc, ns, nx) = rf_k (d + 1) 142 1 ls s (cf d 109 [.ref b] (SH n, I, L, R, nc, ns, nx)) := g_cv (idx := 29) (t := 0) [] (by decide +kernel) ow142 ms_3_29 mt_3_29 cy109_0 rfl rfl mL109 rfl (kdC0 hb) (geC hb) hcat
theorem e142_4 (hn : ip_nl l3 = true) : rf d 142 4 [l0, l1, l2, l3, l4, l5, l6, l7] (.int x :: s) h = rf d 142 6 [l0, l1, l2, l3, some (.int x), l5, l6, l7] s h := g_sti (i := .istore 4) (len := 2) (q := 3) (p := 2) (by decide +kernel) rfl rfl hn
theorem e142_6 : rf d 142 6 [some (.ref a), l1, l2, l3, l4, l5, l6, l7] s h = rf d 142 7 [some (.ref a), l1, l2, l3, l4, l5, l6, l7] (.ref a :: s) h := rf_pure (i := .aload_n 0) (len := 1) (okD_ok (by decide +kernel)) rfl
theorem e142_7 : rf d 142 7 ls s h = rf d 142 8 ls (.int (-1) :: s) h := rf_pure (i := .iconst (-1)) (len := 1) (okD_ok (by decide +kernel)) rfl
theorem e142_8 : rf d 142 8 ls (.int x :: .ref 40 :: s) (SH n, I, L, R, nc, ns, nx) = rf d 142 11 ls s (SH n, ip_up I 40 6 x, L, R, nc, ns, nx) := g_pI (idx := 33) (by decide +kernel) ow142 f_3_33 rfl (by decide +kernel) rfl (by decide)
theorem e142_11 : rf d 142 11 ls s h = rf d 142 12 ls (.int 0 :: s) h := rf_pure (i := .iconst (0)) (len := 1) (okD_ok (by decide +kernel)) rfl
theorem e142_12 (hn : ip_nl l4 = true) : rf d 142 12 [l0, l1, l2, l3, l4, l5, l6, l7] (.int x :: s) h = rf d 142 14 [l0, l1, l2, l3, l4, some (.int x), l6, l7] s h := g_sti (i := .istore 5) (len := 2) (q := 4) (p := 2) (by decide +kernel) rfl rfl hn
theorem e142_14 : rf d 142 14 ls s h = rf d 142 15 ls (.int 0 :: s) h := rf_pure (i := .iconst (0)) (len := 1) (okD_ok (by decide +kernel)) rfl
theorem e142_15 (hn : ip_nl l5 = true) : rf d 142 15 [l0, l1, l2, l3, l4, l5, l6, l7] (.int x :: s) h = rf d 142 17 [l0, l1, l2, l3, l4, l5, some (.int x), l7] s h := g_sti (i := .istore 6) (len := 2) (q := 5) (p := 2) (by decide +kernel) rfl rfl hn
theorem e142_17 : rf d 142 17 [l0, l1, l2, l3, l4, l5, some (.int x), l7] s h = rf d 142 19 [l0, l1, l2, l3, l4, l5, some (.int x), l7] (.int x :: s) h := rf_pure (i := .iload 6) (len := 2) (okD_ok (by decide +kernel)) rfl
theorem e142_19 : rf d 142 19 ls s h = rf d 142 20 ls (.int 1 :: s) h := rf_pure (i := .iconst (1)) (len := 1) (okD_ok (by decide +kernel)) rfl
theorem e142_20 : rf d 142 20 [l0, l1, l2, l3, some (.int x), l5, l6, l7] s h = rf d 142 22 [l0, l1, l2, l3, some (.int x), l5, l6, l7] (.int x :: s) h := rf_pure (i := .iload 4) (len := 2) (okD_ok (by decide +kernel)) rfl
theorem e142_22 (hcat : ip_cat s ≤ 8) : rf (d + 1) 142 22 ls (.int x0 :: s) h = rf_k (d + 1) 142 22 ls s (cf d 19 [.int x0] h) := g_cs (idx := 37) [.int x0] (by decide +kernel) ow142 ms_3_37 mt_3_37 (by decide) rfl mL19 rfl hcat
theorem e142_25 : rf d 142 25 ls (.int y :: .int x :: s) h = rf d 142 26 ls (.int (x <<< (y &&& 31)) :: s) h := rf_pure (i := .ishl) (len := 1) (okD_ok (by decide +kernel)) rfl
theorem e142_26 : rf d 142 26 ls (.int y :: .int x :: s) h = if y ≤ x then rf d 142 144 ls s h else rf d 142 29 ls s h := g_ic (c := .ge) (off := 118) _ (by decide +kernel) rfl cmp_d
theorem e142_29 : rf d 142 29 [l0, some (.ref a), l2, l3, l4, l5, l6, l7] s h = rf d 142 30 [l0, some (.ref a), l2, l3, l4, l5, l6, l7] (.ref a :: s) h := rf_pure (i := .aload_n 1) (len := 1) (okD_ok (by decide +kernel)) rfl
theorem e142_30 (hb : isC b) (hcat : ip_cat s ≤ 8) : rf (d + 1) 142 30 ls (.ref b :: s) (SH n, I, L, R, nc, ns, nx) = rf_k (d + 1) 142 30 ls s (cf d 143 [.ref b] (SH n, I, L, R, nc, ns, nx)) := g_cv (idx := 43) (t := 0) [] (by decide +kernel) ow142 ms_3_43 mt_3_43 cy143_0 rfl rfl mL143 rfl (kdC0 hb) (geC hb) hcat
theorem e142_33 : rf d 142 33 [l0, l1, l2, l3, l4, some (.int x), l6, l7] s h = rf d 142 35 [l0, l1, l2, l3, l4, some (.int x), l6, l7] (.int x :: s) h := rf_pure (i := .iload 5) (len := 2) (okD_ok (by decide +kernel)) rfl
theorem e142_35 (hb : isT b) (hcat : ip_cat s ≤ 8) : rf (d + 1) 142 35 ls (.int x0 :: .ref b :: s) (SH n, I, L, R, nc, ns, nx) = rf_k (d + 1) 142 35 ls s (cf d 131 [.ref b, .int x0] (SH n, I, L, R, nc, ns, nx)) := g_cv (idx := 47) (t := 6) [.int x0] (by decide +kernel) ow142 ms_3_47 mt_3_47 cy131_6 rfl rfl mL131 rfl (kdT0 hb) (geT hb) hcat
theorem e142_38 : rf d 142 38 [l0, l1, some (.int x), l3, l4, l5, l6, l7] s h = rf d 142 39 [l0, l1, some (.int x), l3, l4, l5, l6, l7] (.int x :: s) h := rf_pure (i := .iload_n 2) (len := 1) (okD_ok (by decide +kernel)) rfl
theorem e142_39 : rf d 142 39 ls (.int y :: .int x :: s) h = if y < x then rf d 142 129 ls s h else rf d 142 42 ls s h := g_ic (c := .gt) (off := 90) _ (by decide +kernel) rfl cmp_d
theorem e142_42 : rf d 142 42 [some (.ref a), l1, l2, l3, l4, l5, l6, l7] s h = rf d 142 43 [some (.ref a), l1, l2, l3, l4, l5, l6, l7] (.ref a :: s) h := rf_pure (i := .aload_n 0) (len := 1) (okD_ok (by decide +kernel)) rfl
theorem e142_43 : rf d 142 43 [l0, some (.ref a), l2, l3, l4, l5, l6, l7] s h = rf d 142 44 [l0, some (.ref a), l2, l3, l4, l5, l6, l7] (.ref a :: s) h := rf_pure (i := .aload_n 1) (len := 1) (okD_ok (by decide +kernel)) rfl
theorem e142_44 : rf d 142 44 [l0, l1, l2, l3, l4, some (.int x), l6, l7] s h = rf d 142 46 [l0, l1, l2, l3, l4, some (.int x), l6, l7] (.int x :: s) h := rf_pure (i := .iload 5) (len := 2) (okD_ok (by decide +kernel)) rfl
theorem e142_46 : rf d 142 46 [l0, l1, l2, some (.int x), l4, l5, l6, l7] s h = rf d 142 47 [l0, l1, l2, some (.int x), l4, l5, l6, l7] (.int x :: s) h := rf_pure (i := .iload_n 3) (len := 1) (okD_ok (by decide +kernel)) rfl
theorem e142_47 (hcat : ip_cat s ≤ 8) : rf (d + 1) 142 47 ls (.int x2 :: .int x1 :: .ref a0 :: .ref 40 :: s) (SH n, I, L, R, nc, ns, nx) = rf_k (d + 1) 142 47 ls s (cf d 144 [.ref 40, .ref a0, .int x1, .int x2] (SH n, I, L, R, nc, ns, nx)) := g_cv (idx := 52) (t := 3) [.int x2, .int x1, .ref a0] (by decide +kernel) ow142 ms_3_52 mt_3_52 cy144_3 rfl rfl mL144 rfl rfl (by decide) hcat
theorem e142_50 : rf d 142 50 [some (.ref a), l1, l2, l3, l4, l5, l6, l7] s h = rf d 142 51 [some (.ref a), l1, l2, l3, l4, l5, l6, l7] (.ref a :: s) h := rf_pure (i := .aload_n 0) (len := 1) (okD_ok (by decide +kernel)) rfl
theorem e142_51 : rf d 142 51 ls (.ref 40 :: s) (SH n, I, L, R, nc, ns, nx) = rf d 142 54 ls (.int (I 40 8) :: s) (SH n, I, L, R, nc, ns, nx) := g_I (idx := 56) (by decide +kernel) ow142 f_3_56 rfl rfl (by decide)
theorem e142_54 (hcat : ip_cat s ≤ 8) : rf (d + 1) 142 54 ls (.int x0 :: s) h = rf_k (d + 1) 142 54 ls s (cf d 132 [.int x0] h) := g_cs (idx := 59) [.int x0] (by decide +kernel) ow142 ms_3_59 mt_3_59 (by decide) rfl mL132 rfl hcat
theorem e142_57 (hn : ip_nl l6 = true) : rf d 142 57 [l0, l1, l2, l3, l4, l5, l6, l7] (.int x :: s) h = rf d 142 59 [l0, l1, l2, l3, l4, l5, l6, some (.int x)] s h := g_sti (i := .istore 7) (len := 2) (q := 6) (p := 2) (by decide +kernel) rfl rfl hn
theorem e142_59 : rf d 142 59 [l0, l1, l2, l3, l4, l5, l6, some (.int x)] s h = rf d 142 61 [l0, l1, l2, l3, l4, l5, l6, some (.int x)] (.int x :: s) h := rf_pure (i := .iload 7) (len := 2) (okD_ok (by decide +kernel)) rfl
theorem e142_61 : rf d 142 61 [some (.ref a), l1, l2, l3, l4, l5, l6, l7] s h = rf d 142 62 [some (.ref a), l1, l2, l3, l4, l5, l6, l7] (.ref a :: s) h := rf_pure (i := .aload_n 0) (len := 1) (okD_ok (by decide +kernel)) rfl
theorem e142_62 : rf d 142 62 ls (.ref 40 :: s) (SH n, I, L, R, nc, ns, nx) = rf d 142 65 ls (.int (I 40 6) :: s) (SH n, I, L, R, nc, ns, nx) := g_I (idx := 33) (by decide +kernel) ow142 f_3_33 rfl rfl (by decide)
theorem e142_65 : rf d 142 65 ls (.int y :: .int x :: s) h = if y < x then rf d 142 89 ls s h else rf d 142 68 ls s h := g_ic (c := .gt) (off := 24) _ (by decide +kernel) rfl cmp_d
theorem e142_68 : rf d 142 68 [l0, l1, l2, l3, l4, l5, l6, some (.int x)] s h = rf d 142 70 [l0, l1, l2, l3, l4, l5, l6, some (.int x)] (.int x :: s) h := rf_pure (i := .iload 7) (len := 2) (okD_ok (by decide +kernel)) rfl
theorem e142_70 : rf d 142 70 [some (.ref a), l1, l2, l3, l4, l5, l6, l7] s h = rf d 142 71 [some (.ref a), l1, l2, l3, l4, l5, l6, l7] (.ref a :: s) h := rf_pure (i := .aload_n 0) (len := 1) (okD_ok (by decide +kernel)) rfl
theorem e142_71 : rf d 142 71 ls (.ref 40 :: s) (SH n, I, L, R, nc, ns, nx) = rf d 142 74 ls (.int (I 40 6) :: s) (SH n, I, L, R, nc, ns, nx) := g_I (idx := 33) (by decide +kernel) ow142 f_3_33 rfl rfl (by decide)
theorem e142_74 : rf d 142 74 ls (.int y :: .int x :: s) h = if ¬ x = y then rf d 142 129 ls s h else rf d 142 77 ls s h := g_ic (c := .ne) (off := 55) _ (by decide +kernel) rfl cmp_d
theorem e142_77 : rf d 142 77 [l0, l1, l2, l3, l4, some (.int x), l6, l7] s h = rf d 142 79 [l0, l1, l2, l3, l4, some (.int x), l6, l7] (.int x :: s) h := rf_pure (i := .iload 5) (len := 2) (okD_ok (by decide +kernel)) rfl
theorem e142_79 : rf d 142 79 [some (.ref a), l1, l2, l3, l4, l5, l6, l7] s h = rf d 142 80 [some (.ref a), l1, l2, l3, l4, l5, l6, l7] (.ref a :: s) h := rf_pure (i := .aload_n 0) (len := 1) (okD_ok (by decide +kernel)) rfl
theorem e142_80 : rf d 142 80 ls (.ref 40 :: s) (SH n, I, L, R, nc, ns, nx) = rf d 142 83 ls (.int (I 40 4) :: s) (SH n, I, L, R, nc, ns, nx) := g_I (idx := 62) (by decide +kernel) ow142 f_3_62 rfl rfl (by decide)
theorem e142_83 (hcat : ip_cat s ≤ 8) : rf (d + 1) 142 83 ls (.int x1 :: .int x0 :: s) h = rf_k (d + 1) 142 83 ls s (cf d 133 [.int x0, .int x1] h) := g_cs (idx := 65) [.int x1, .int x0] (by decide +kernel) ow142 ms_3_65 mt_3_65 (by decide) rfl mL133 rfl hcat
theorem e142_86 : rf d 142 86 ls (.int x :: s) h = if x = 0 then rf d 142 129 ls s h else rf d 142 89 ls s h := g_if (c := .eq) (off := 43) _ (by decide +kernel) rfl cmp_d
theorem e142_89 : rf d 142 89 [some (.ref a), l1, l2, l3, l4, l5, l6, l7] s h = rf d 142 90 [some (.ref a), l1, l2, l3, l4, l5, l6, l7] (.ref a :: s) h := rf_pure (i := .aload_n 0) (len := 1) (okD_ok (by decide +kernel)) rfl
theorem e142_90 : rf d 142 90 [l0, l1, l2, l3, l4, l5, l6, some (.int x)] s h = rf d 142 92 [l0, l1, l2, l3, l4, l5, l6, some (.int x)] (.int x :: s) h := rf_pure (i := .iload 7) (len := 2) (okD_ok (by decide +kernel)) rfl
theorem e142_92 : rf d 142 92 ls (.int x :: .ref 40 :: s) (SH n, I, L, R, nc, ns, nx) = rf d 142 95 ls s (SH n, ip_up I 40 6 x, L, R, nc, ns, nx) := g_pI (idx := 33) (by decide +kernel) ow142 f_3_33 rfl (by decide +kernel) rfl (by decide)
theorem e142_95 : rf d 142 95 [some (.ref a), l1, l2, l3, l4, l5, l6, l7] s h = rf d 142 96 [some (.ref a), l1, l2, l3, l4, l5, l6, l7] (.ref a :: s) h := rf_pure (i := .aload_n 0) (len := 1) (okD_ok (by decide +kernel)) rfl
theorem e142_96 : rf d 142 96 [l0, l1, l2, l3, l4, some (.int x), l6, l7] s h = rf d 142 98 [l0, l1, l2, l3, l4, some (.int x), l6, l7] (.int x :: s) h := rf_pure (i := .iload 5) (len := 2) (okD_ok (by decide +kernel)) rfl
theorem e142_98 : rf d 142 98 ls (.int x :: .ref 40 :: s) (SH n, I, L, R, nc, ns, nx) = rf d 142 101 ls s (SH n, ip_up I 40 4 x, L, R, nc, ns, nx) := g_pI (idx := 62) (by decide +kernel) ow142 f_3_62 rfl (by decide +kernel) rfl (by decide)
theorem e142_101 : rf d 142 101 [some (.ref a), l1, l2, l3, l4, l5, l6, l7] s h = rf d 142 102 [some (.ref a), l1, l2, l3, l4, l5, l6, l7] (.ref a :: s) h := rf_pure (i := .aload_n 0) (len := 1) (okD_ok (by decide +kernel)) rfl
theorem e142_102 : rf d 142 102 [some (.ref a), l1, l2, l3, l4, l5, l6, l7] s h = rf d 142 103 [some (.ref a), l1, l2, l3, l4, l5, l6, l7] (.ref a :: s) h := rf_pure (i := .aload_n 0) (len := 1) (okD_ok (by decide +kernel)) rfl
theorem e142_103 : rf d 142 103 ls (.ref 40 :: s) (SH n, I, L, R, nc, ns, nx) = rf d 142 106 ls (.int (I 40 7) :: s) (SH n, I, L, R, nc, ns, nx) := g_I (idx := 69) (by decide +kernel) ow142 f_3_69 rfl rfl (by decide)
theorem e142_106 : rf d 142 106 ls (.int x :: .ref 40 :: s) (SH n, I, L, R, nc, ns, nx) = rf d 142 109 ls s (SH n, ip_up I 40 5 x, L, R, nc, ns, nx) := g_pI (idx := 72) (by decide +kernel) ow142 f_3_72 rfl (by decide +kernel) rfl (by decide)
theorem e142_109 : rf d 142 109 [some (.ref a), l1, l2, l3, l4, l5, l6, l7] s h = rf d 142 110 [some (.ref a), l1, l2, l3, l4, l5, l6, l7] (.ref a :: s) h := rf_pure (i := .aload_n 0) (len := 1) (okD_ok (by decide +kernel)) rfl
theorem e142_110 : rf d 142 110 [some (.ref a), l1, l2, l3, l4, l5, l6, l7] s h = rf d 142 111 [some (.ref a), l1, l2, l3, l4, l5, l6, l7] (.ref a :: s) h := rf_pure (i := .aload_n 0) (len := 1) (okD_ok (by decide +kernel)) rfl
theorem e142_111 : rf d 142 111 ls (.ref 40 :: s) (SH n, I, L, R, nc, ns, nx) = rf d 142 114 ls (.int (I 40 8) :: s) (SH n, I, L, R, nc, ns, nx) := g_I (idx := 56) (by decide +kernel) ow142 f_3_56 rfl rfl (by decide)
theorem e142_114 : rf d 142 114 ls s h = rf d 142 115 ls (.int 1 :: s) h := rf_pure (i := .iconst (1)) (len := 1) (okD_ok (by decide +kernel)) rfl
theorem e142_115 : rf d 142 115 ls (.int y :: .int x :: s) h = if ¬ x = y then rf d 142 122 ls s h else rf d 142 118 ls s h := g_ic (c := .ne) (off := 7) _ (by decide +kernel) rfl cmp_d
theorem e142_118 : rf d 142 118 ls s h = rf d 142 119 ls (.int 0 :: s) h := rf_pure (i := .iconst (0)) (len := 1) (okD_ok (by decide +kernel)) rfl
theorem e142_119 : rf d 142 119 ls s h = rf d 142 126 ls s h := rf_goto ⟨okD_ok (i := .goto (7)) (len := 3) (by decide +kernel), rfl⟩
theorem e142_122 : rf d 142 122 [some (.ref a), l1, l2, l3, l4, l5, l6, l7] s h = rf d 142 123 [some (.ref a), l1, l2, l3, l4, l5, l6, l7] (.ref a :: s) h := rf_pure (i := .aload_n 0) (len := 1) (okD_ok (by decide +kernel)) rfl
theorem e142_123 : rf d 142 123 ls (.ref 40 :: s) (SH n, I, L, R, nc, ns, nx) = rf d 142 126 ls (.int (I 40 8) :: s) (SH n, I, L, R, nc, ns, nx) := g_I (idx := 56) (by decide +kernel) ow142 f_3_56 rfl rfl (by decide)
theorem e142_126 : rf d 142 126 ls (.int x :: .ref 40 :: s) (SH n, I, L, R, nc, ns, nx) = rf d 142 129 ls s (SH n, ip_up I 40 3 x, L, R, nc, ns, nx) := g_pI (idx := 75) (by decide +kernel) ow142 f_3_75 rfl (by decide +kernel) rfl (by decide)
theorem e142_129 : rf d 142 129 [l0, l1, l2, l3, l4, some (.int x), l6, l7] s h = rf d 142 131 [l0, l1, l2, l3, l4, some (.int x), l6, l7] (.int x :: s) h := rf_pure (i := .iload 5) (len := 2) (okD_ok (by decide +kernel)) rfl
theorem e142_131 : rf d 142 131 [l0, l1, l2, l3, some (.int x), l5, l6, l7] s h = rf d 142 133 [l0, l1, l2, l3, some (.int x), l5, l6, l7] (.int x :: s) h := rf_pure (i := .iload 4) (len := 2) (okD_ok (by decide +kernel)) rfl
theorem e142_133 (hcat : ip_cat s ≤ 8) : rf (d + 1) 142 133 ls (.int x1 :: .int x0 :: s) h = rf_k (d + 1) 142 133 ls s (cf d 20 [.int x0, .int x1] h) := g_cs (idx := 78) [.int x1, .int x0] (by decide +kernel) ow142 ms_3_78 mt_3_78 (by decide) rfl mL20 rfl hcat
theorem e142_136 (hn : ip_nl l4 = true) : rf d 142 136 [l0, l1, l2, l3, l4, l5, l6, l7] (.int x :: s) h = rf d 142 138 [l0, l1, l2, l3, l4, some (.int x), l6, l7] s h := g_sti (i := .istore 5) (len := 2) (q := 4) (p := 2) (by decide +kernel) rfl rfl hn
theorem e142_138 (hn : ip_nl l5 = true) : rf d 142 138 [l0, l1, l2, l3, l4, l5, some (.int x), l7] s h = rf d 142 141 [l0, l1, l2, l3, l4, l5, some (.int (x + 1)), l7] s h := g_inc (q := 5) (z := 1) (w := 1) (x := x) (by decide) (by decide +kernel) rfl rfl hn
theorem e142_141 : rf d 142 141 ls s h = rf d 142 17 ls s h := rf_goto ⟨okD_ok (i := .goto (-124)) (len := 3) (by decide +kernel), rfl⟩
theorem e142_144 : rf d 142 144 ls [] h = some (.inl none, h) := g_rv (by decide +kernel) rt142
theorem en143 : cf d 143 [.ref a] h = rf d 143 0 [some (.ref a)] [] h := rfl
theorem e143_0 : rf d 143 0 [some (.ref a)] s h = rf d 143 1 [some (.ref a)] (.ref a :: s) h := rf_pure (i := .aload_n 0) (len := 1) (okD_ok (by decide +kernel)) rfl
theorem e143_1 (ha : isC a) : rf d 143 1 ls (.ref a :: s) (SH n, I, L, R, nc, ns, nx) = rf d 143 4 ls (ip_rf (R a 0) :: s) (SH n, I, L, R, nc, ns, nx) := g_R (idx := 12) (by decide +kernel) ow143 f_0_12 rfl (kdC0 ha) (geC ha) rfl
theorem e143_4 : rf d 143 4 ls [.ref a] h = some (.inl (some (.ref a)), h) := g_ra (by decide +kernel) rt143
theorem en144 : cf d 144 [.ref a, .ref a0, .int x1, .int x2] h = rf d 144 0 [some (.ref a), some (.ref a0), some (.int x1), some (.int x2), none, none, none, none] [] h := rfl
theorem e144_0 : rf d 144 0 [l0, some (.ref a), l2, l3, l4, l5, l6, l7] s h = rf d 144 1 [l0, some (.ref a), l2, l3, l4, l5, l6, l7] (.ref a :: s) h := rf_pure (i := .aload_n 1) (len := 1) (okD_ok (by decide +kernel)) rfl
theorem e144_1 (hb : isC b) (hcat : ip_cat s ≤ 8) : rf (d + 1) 144 1 ls (.ref b :: s) (SH n, I, L, R, nc, ns, nx) = rf_k (d + 1) 144 1 ls s (cf d 110 [.ref b] (SH n, I, L, R, nc, ns, nx)) := g_cv (idx := 82) (t := 0) [] (by decide +kernel) ow144 ms_3_82 mt_3_82 cy110_0 rfl rfl mL110 rfl (kdC0 hb) (geC hb) hcat
theorem e144_4 (hn : ip_nl l3 = true) : rf d 144 4 [l0, l1, l2, l3, l4, l5, l6, l7] (.int x :: s) h = rf d 144 6 [l0, l1, l2, l3, some (.int x), l5, l6, l7] s h := g_sti (i := .istore 4) (len := 2) (q := 3) (p := 2) (by decide +kernel) rfl rfl hn
theorem e144_6 : rf d 144 6 [some (.ref a), l1, l2, l3, l4, l5, l6, l7] s h = rf d 144 7 [some (.ref a), l1, l2, l3, l4, l5, l6, l7] (.ref a :: s) h := rf_pure (i := .aload_n 0) (len := 1) (okD_ok (by decide +kernel)) rfl
theorem e144_7 : rf d 144 7 ls s h = rf d 144 8 ls (.int 0 :: s) h := rf_pure (i := .iconst (0)) (len := 1) (okD_ok (by decide +kernel)) rfl
theorem e144_8 : rf d 144 8 ls (.int x :: .ref 40 :: s) (SH n, I, L, R, nc, ns, nx) = rf d 144 11 ls s (SH n, ip_up I 40 7 x, L, R, nc, ns, nx) := g_pI (idx := 69) (by decide +kernel) ow144 f_3_69 rfl (by decide +kernel) rfl (by decide)
theorem e144_11 : rf d 144 11 [some (.ref a), l1, l2, l3, l4, l5, l6, l7] s h = rf d 144 12 [some (.ref a), l1, l2, l3, l4, l5, l6, l7] (.ref a :: s) h := rf_pure (i := .aload_n 0) (len := 1) (okD_ok (by decide +kernel)) rfl
theorem e144_12 : rf d 144 12 [l0, some (.ref a), l2, l3, l4, l5, l6, l7] s h = rf d 144 13 [l0, some (.ref a), l2, l3, l4, l5, l6, l7] (.ref a :: s) h := rf_pure (i := .aload_n 1) (len := 1) (okD_ok (by decide +kernel)) rfl
theorem e144_13 : rf d 144 13 [l0, l1, some (.int x), l3, l4, l5, l6, l7] s h = rf d 144 14 [l0, l1, some (.int x), l3, l4, l5, l6, l7] (.int x :: s) h := rf_pure (i := .iload_n 2) (len := 1) (okD_ok (by decide +kernel)) rfl
theorem e144_14 : rf d 144 14 ls s h = rf d 144 15 ls (.int 0 :: s) h := rf_pure (i := .iconst (0)) (len := 1) (okD_ok (by decide +kernel)) rfl
theorem e144_15 (hb : isC b) (hcat : ip_cat s ≤ 8) : rf (d + 1) 144 15 ls (.int x1 :: .int x0 :: .ref b :: s) (SH n, I, L, R, nc, ns, nx) = rf_k (d + 1) 144 15 ls s (cf d 111 [.ref b, .int x0, .int x1] (SH n, I, L, R, nc, ns, nx)) := g_cv (idx := 85) (t := 0) [.int x1, .int x0] (by decide +kernel) ow144 ms_3_85 mt_3_85 cy111_0 rfl rfl mL111 rfl (kdC0 hb) (geC hb) hcat
theorem e144_18 : rf d 144 18 ls (.int x :: .ref 40 :: s) (SH n, I, L, R, nc, ns, nx) = rf d 144 21 ls s (SH n, ip_up I 40 8 x, L, R, nc, ns, nx) := g_pI (idx := 56) (by decide +kernel) ow144 f_3_56 rfl (by decide +kernel) rfl (by decide)
theorem e144_21 : rf d 144 21 ls s h = rf d 144 22 ls (.int 0 :: s) h := rf_pure (i := .iconst (0)) (len := 1) (okD_ok (by decide +kernel)) rfl
theorem e144_22 (hn : ip_nl l4 = true) : rf d 144 22 [l0, l1, l2, l3, l4, l5, l6, l7] (.int x :: s) h = rf d 144 24 [l0, l1, l2, l3, l4, some (.int x), l6, l7] s h := g_sti (i := .istore 5) (len := 2) (q := 4) (p := 2) (by decide +kernel) rfl rfl hn
theorem e144_24 : rf d 144 24 ls s h = rf d 144 25 ls (.int 0 :: s) h := rf_pure (i := .iconst (0)) (len := 1) (okD_ok (by decide +kernel)) rfl
theorem e144_25 (hn : ip_nl l5 = true) : rf d 144 25 [l0, l1, l2, l3, l4, l5, l6, l7] (.int x :: s) h = rf d 144 27 [l0, l1, l2, l3, l4, l5, some (.int x), l7] s h := g_sti (i := .istore 6) (len := 2) (q := 5) (p := 2) (by decide +kernel) rfl rfl hn
theorem e144_27 : rf d 144 27 [l0, l1, l2, l3, l4, l5, some (.int x), l7] s h = rf d 144 29 [l0, l1, l2, l3, l4, l5, some (.int x), l7] (.int x :: s) h := rf_pure (i := .iload 6) (len := 2) (okD_ok (by decide +kernel)) rfl
theorem e144_29 : rf d 144 29 ls s h = rf d 144 30 ls (.int 1 :: s) h := rf_pure (i := .iconst (1)) (len := 1) (okD_ok (by decide +kernel)) rfl
theorem e144_30 : rf d 144 30 [l0, l1, l2, l3, some (.int x), l5, l6, l7] s h = rf d 144 32 [l0, l1, l2, l3, some (.int x), l5, l6, l7] (.int x :: s) h := rf_pure (i := .iload 4) (len := 2) (okD_ok (by decide +kernel)) rfl
theorem e144_32 (hcat : ip_cat s ≤ 8) : rf (d + 1) 144 32 ls (.int x0 :: s) h = rf_k (d + 1) 144 32 ls s (cf d 19 [.int x0] h) := g_cs (idx := 37) [.int x0] (by decide +kernel) ow144 ms_3_37 mt_3_37 (by decide) rfl mL19 rfl hcat
theorem e144_35 : rf d 144 35 ls (.int y :: .int x :: s) h = rf d 144 36 ls (.int (x <<< (y &&& 31)) :: s) h := rf_pure (i := .ishl) (len := 1) (okD_ok (by decide +kernel)) rfl
theorem e144_36 : rf d 144 36 ls (.int y :: .int x :: s) h = if y ≤ x then rf d 144 103 ls s h else rf d 144 39 ls s h := g_ic (c := .ge) (off := 67) _ (by decide +kernel) rfl cmp_d
theorem e144_39 : rf d 144 39 [l0, some (.ref a), l2, l3, l4, l5, l6, l7] s h = rf d 144 40 [l0, some (.ref a), l2, l3, l4, l5, l6, l7] (.ref a :: s) h := rf_pure (i := .aload_n 1) (len := 1) (okD_ok (by decide +kernel)) rfl
theorem e144_40 (hb : isC b) (hcat : ip_cat s ≤ 8) : rf (d + 1) 144 40 ls (.ref b :: s) (SH n, I, L, R, nc, ns, nx) = rf_k (d + 1) 144 40 ls s (cf d 143 [.ref b] (SH n, I, L, R, nc, ns, nx)) := g_cv (idx := 43) (t := 0) [] (by decide +kernel) ow144 ms_3_43 mt_3_43 cy143_0 rfl rfl mL143 rfl (kdC0 hb) (geC hb) hcat
theorem e144_43 : rf d 144 43 [l0, l1, l2, l3, l4, some (.int x), l6, l7] s h = rf d 144 45 [l0, l1, l2, l3, l4, some (.int x), l6, l7] (.int x :: s) h := rf_pure (i := .iload 5) (len := 2) (okD_ok (by decide +kernel)) rfl
theorem e144_45 (hb : isT b) (hcat : ip_cat s ≤ 8) : rf (d + 1) 144 45 ls (.int x0 :: .ref b :: s) (SH n, I, L, R, nc, ns, nx) = rf_k (d + 1) 144 45 ls s (cf d 131 [.ref b, .int x0] (SH n, I, L, R, nc, ns, nx)) := g_cv (idx := 47) (t := 6) [.int x0] (by decide +kernel) ow144 ms_3_47 mt_3_47 cy131_6 rfl rfl mL131 rfl (kdT0 hb) (geT hb) hcat
theorem e144_48 : rf d 144 48 [l0, l1, l2, some (.int x), l4, l5, l6, l7] s h = rf d 144 49 [l0, l1, l2, some (.int x), l4, l5, l6, l7] (.int x :: s) h := rf_pure (i := .iload_n 3) (len := 1) (okD_ok (by decide +kernel)) rfl
theorem e144_49 : rf d 144 49 ls (.int y :: .int x :: s) h = if y < x then rf d 144 88 ls s h else rf d 144 52 ls s h := g_ic (c := .gt) (off := 39) _ (by decide +kernel) rfl cmp_d
theorem e144_52 : rf d 144 52 [l0, some (.ref a), l2, l3, l4, l5, l6, l7] s h = rf d 144 53 [l0, some (.ref a), l2, l3, l4, l5, l6, l7] (.ref a :: s) h := rf_pure (i := .aload_n 1) (len := 1) (okD_ok (by decide +kernel)) rfl
theorem e144_53 : rf d 144 53 [l0, l1, some (.int x), l3, l4, l5, l6, l7] s h = rf d 144 54 [l0, l1, some (.int x), l3, l4, l5, l6, l7] (.int x :: s) h := rf_pure (i := .iload_n 2) (len := 1) (okD_ok (by decide +kernel)) rfl
theorem e144_54 : rf d 144 54 [l0, l1, l2, l3, l4, some (.int x), l6, l7] s h = rf d 144 56 [l0, l1, l2, l3, l4, some (.int x), l6, l7] (.int x :: s) h := rf_pure (i := .iload 5) (len := 2) (okD_ok (by decide +kernel)) rfl
theorem e144_56 (hb : isC b) (hcat : ip_cat s ≤ 8) : rf (d + 1) 144 56 ls (.int x1 :: .int x0 :: .ref b :: s) (SH n, I, L, R, nc, ns, nx) = rf_k (d + 1) 144 56 ls s (cf d 111 [.ref b, .int x0, .int x1] (SH n, I, L, R, nc, ns, nx)) := g_cv (idx := 85) (t := 0) [.int x1, .int x0] (by decide +kernel) ow144 ms_3_85 mt_3_85 cy111_0 rfl rfl mL111 rfl (kdC0 hb) (geC hb) hcat
theorem e144_59 (hn : ip_nl l6 = true) : rf d 144 59 [l0, l1, l2, l3, l4, l5, l6, l7] (.int x :: s) h = rf d 144 61 [l0, l1, l2, l3, l4, l5, l6, some (.int x)] s h := g_sti (i := .istore 7) (len := 2) (q := 6) (p := 2) (by decide +kernel) rfl rfl hn
theorem e144_61 : rf d 144 61 [l0, l1, l2, l3, l4, l5, l6, some (.int x)] s h = rf d 144 63 [l0, l1, l2, l3, l4, l5, l6, some (.int x)] (.int x :: s) h := rf_pure (i := .iload 7) (len := 2) (okD_ok (by decide +kernel)) rfl
theorem e144_63 (hcat : ip_cat s ≤ 8) : rf (d + 1) 144 63 ls (.int x0 :: s) h = rf_k (d + 1) 144 63 ls s (cf d 132 [.int x0] h) := g_cs (idx := 59) [.int x0] (by decide +kernel) ow144 ms_3_59 mt_3_59 (by decide) rfl mL132 rfl hcat
theorem e144_66 : rf d 144 66 [some (.ref a), l1, l2, l3, l4, l5, l6, l7] s h = rf d 144 67 [some (.ref a), l1, l2, l3, l4, l5, l6, l7] (.ref a :: s) h := rf_pure (i := .aload_n 0) (len := 1) (okD_ok (by decide +kernel)) rfl
theorem e144_67 : rf d 144 67 ls (.ref 40 :: s) (SH n, I, L, R, nc, ns, nx) = rf d 144 70 ls (.int (I 40 8) :: s) (SH n, I, L, R, nc, ns, nx) := g_I (idx := 56) (by decide +kernel) ow144 f_3_56 rfl rfl (by decide)
theorem e144_70 (hcat : ip_cat s ≤ 8) : rf (d + 1) 144 70 ls (.int x0 :: s) h = rf_k (d + 1) 144 70 ls s (cf d 132 [.int x0] h) := g_cs (idx := 59) [.int x0] (by decide +kernel) ow144 ms_3_59 mt_3_59 (by decide) rfl mL132 rfl hcat
theorem e144_73 : rf d 144 73 ls (.int y :: .int x :: s) h = if y ≤ x then rf d 144 88 ls s h else rf d 144 76 ls s h := g_ic (c := .ge) (off := 15) _ (by decide +kernel) rfl cmp_d
theorem e144_76 : rf d 144 76 [some (.ref a), l1, l2, l3, l4, l5, l6, l7] s h = rf d 144 77 [some (.ref a), l1, l2, l3, l4, l5, l6, l7] (.ref a :: s) h := rf_pure (i := .aload_n 0) (len := 1) (okD_ok (by decide +kernel)) rfl
theorem e144_77 : rf d 144 77 [l0, l1, l2, l3, l4, some (.int x), l6, l7] s h = rf d 144 79 [l0, l1, l2, l3, l4, some (.int x), l6, l7] (.int x :: s) h := rf_pure (i := .iload 5) (len := 2) (okD_ok (by decide +kernel)) rfl
theorem e144_79 : rf d 144 79 ls (.int x :: .ref 40 :: s) (SH n, I, L, R, nc, ns, nx) = rf d 144 82 ls s (SH n, ip_up I 40 7 x, L, R, nc, ns, nx) := g_pI (idx := 69) (by decide +kernel) ow144 f_3_69 rfl (by decide +kernel) rfl (by decide)
theorem e144_82 : rf d 144 82 [some (.ref a), l1, l2, l3, l4, l5, l6, l7] s h = rf d 144 83 [some (.ref a), l1, l2, l3, l4, l5, l6, l7] (.ref a :: s) h := rf_pure (i := .aload_n 0) (len := 1) (okD_ok (by decide +kernel)) rfl
theorem e144_83 : rf d 144 83 [l0, l1, l2, l3, l4, l5, l6, some (.int x)] s h = rf d 144 85 [l0, l1, l2, l3, l4, l5, l6, some (.int x)] (.int x :: s) h := rf_pure (i := .iload 7) (len := 2) (okD_ok (by decide +kernel)) rfl
theorem e144_85 : rf d 144 85 ls (.int x :: .ref 40 :: s) (SH n, I, L, R, nc, ns, nx) = rf d 144 88 ls s (SH n, ip_up I 40 8 x, L, R, nc, ns, nx) := g_pI (idx := 56) (by decide +kernel) ow144 f_3_56 rfl (by decide +kernel) rfl (by decide)
theorem e144_88 : rf d 144 88 [l0, l1, l2, l3, l4, some (.int x), l6, l7] s h = rf d 144 90 [l0, l1, l2, l3, l4, some (.int x), l6, l7] (.int x :: s) h := rf_pure (i := .iload 5) (len := 2) (okD_ok (by decide +kernel)) rfl
theorem e144_90 : rf d 144 90 [l0, l1, l2, l3, some (.int x), l5, l6, l7] s h = rf d 144 92 [l0, l1, l2, l3, some (.int x), l5, l6, l7] (.int x :: s) h := rf_pure (i := .iload 4) (len := 2) (okD_ok (by decide +kernel)) rfl
theorem e144_92 (hcat : ip_cat s ≤ 8) : rf (d + 1) 144 92 ls (.int x1 :: .int x0 :: s) h = rf_k (d + 1) 144 92 ls s (cf d 20 [.int x0, .int x1] h) := g_cs (idx := 78) [.int x1, .int x0] (by decide +kernel) ow144 ms_3_78 mt_3_78 (by decide) rfl mL20 rfl hcat
theorem e144_95 (hn : ip_nl l4 = true) : rf d 144 95 [l0, l1, l2, l3, l4, l5, l6, l7] (.int x :: s) h = rf d 144 97 [l0, l1, l2, l3, l4, some (.int x), l6, l7] s h := g_sti (i := .istore 5) (len := 2) (q := 4) (p := 2) (by decide +kernel) rfl rfl hn
theorem e144_97 (hn : ip_nl l5 = true) : rf d 144 97 [l0, l1, l2, l3, l4, l5, some (.int x), l7] s h = rf d 144 100 [l0, l1, l2, l3, l4, l5, some (.int (x + 1)), l7] s h := g_inc (q := 5) (z := 1) (w := 1) (x := x) (by decide) (by decide +kernel) rfl rfl hn
theorem e144_100 : rf d 144 100 ls s h = rf d 144 27 ls s h := rf_goto ⟨okD_ok (i := .goto (-73)) (len := 3) (by decide +kernel), rfl⟩
theorem e144_103 : rf d 144 103 ls [] h = some (.inl none, h) := g_rv (by decide +kernel) rt144
end S03
