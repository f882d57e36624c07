/-! THE LAW'S TURNS, 1 (printed by wip/whole/gen_turn.py) -/
theorem tn10 {D : Nat} (hD : 80 ≤ D) : TN D 810 := by
  intro n I L R nc ns nx T c N w t p l5 l6 x X ⟨q1, q2, q3, q4, q5⟩
  have Y : SAMEX 94 229 [.int (I 0 (x + 1).toNatClampNeg)] zb := S10
  obtain ⟨code, b, I1, I2, L1, L2, R1, nc1, ns1, nx1, T', c', N', w', t', p', h1, h2, h3, h4, h5, h6, h7, h8⟩ := Y n I L R nc ns nx T c N w t p X
  have hk : ∀ j, I1 0 j = I 0 j := kp_cf (h1 0)
  have h1 := h1 (D - 14)
  have h2 := h2 (D - 14)
  rw [show D - 14 + 14 = D by omega] at h1 h2
  simp only [List.cons_append, List.nil_append] at h1
  refine ⟨some (.int code), some (.int b), I2, L2, R1, nc1, ns1, nx1, T', c', N', w', t', p', ?_, h5, h6, h7, h8⟩
  by_cases g : code = 0
  · have h4 := h4 g; subst g; by_cases g2 : b = 0
    · have h4 := h4; unfold zb at h4; rw [if_pos g2] at h4
      simp only [e284_810, e284_811, e284_812, e284_814, e284_815, e284_816, e284_817, e284_818, e284_821, e284_823, e284_824, e284_825, e284_827, e284_828, e284_829, e284_830, e284_833, e284_835, e284_836, e284_839, e284_841, e284_844, e284_845, e284_846, e284_848, e284_851, e284_852, e284_853, e284_854, e284_856, e284_859, e284_860, e284_863, e284_864, e284_865, e284_868, e284_869, e284_870, rk_n, rk_v, nl_n, nl_i, nl_r, cat_n, ip_cat_int, ip_cat_ref, ip_cat_long, ip_rf_some, Nat.reduceAdd, Nat.reduceLeDiff, Nat.reduceLT, Nat.le_refl, Nat.zero_le, q1, q2, q3, q4, q5, hk, h1, h2, c189, h3, h4, g2, lg_self, ia_lit, inbL, tnL, Bool.false_eq_true, Bool.true_eq_false, if_true, if_false, not_true_eq_false, not_false_eq_true, zle, eq_self]
    · have h4 := h4; unfold zb at h4; rw [if_neg g2] at h4
      simp only [e284_810, e284_811, e284_812, e284_814, e284_815, e284_816, e284_817, e284_818, e284_821, e284_823, e284_824, e284_825, e284_827, e284_828, e284_829, e284_830, e284_833, e284_835, e284_836, e284_839, e284_841, e284_844, e284_845, e284_846, e284_848, e284_851, e284_852, e284_853, e284_854, e284_856, e284_859, e284_860, e284_863, e284_864, e284_865, e284_868, e284_869, e284_870, rk_n, rk_v, nl_n, nl_i, nl_r, cat_n, ip_cat_int, ip_cat_ref, ip_cat_long, ip_rf_some, Nat.reduceAdd, Nat.reduceLeDiff, Nat.reduceLT, Nat.le_refl, Nat.zero_le, q1, q2, q3, q4, q5, hk, h1, h2, c189, h3, h4, g2, lg_self, ia_lit, inbL, tnL, Bool.false_eq_true, Bool.true_eq_false, if_true, if_false, not_true_eq_false, not_false_eq_true, zle, eq_self]
  · simp only [e284_810, e284_811, e284_812, e284_814, e284_815, e284_816, e284_817, e284_818, e284_821, e284_823, e284_824, e284_825, e284_827, e284_828, e284_829, e284_830, e284_833, e284_835, e284_836, e284_839, e284_841, e284_844, e284_845, e284_846, e284_848, e284_851, e284_852, e284_853, e284_854, e284_856, e284_859, e284_860, e284_863, e284_864, e284_865, e284_868, e284_869, e284_870, rk_n, rk_v, nl_n, nl_i, nl_r, cat_n, ip_cat_int, ip_cat_ref, ip_cat_long, ip_rf_some, Nat.reduceAdd, Nat.reduceLeDiff, Nat.reduceLT, Nat.le_refl, Nat.zero_le, q1, q2, q3, q4, q5, hk, h1, h2, c189, h3, g, Bool.false_eq_true, Bool.true_eq_false, if_true, if_false, not_true_eq_false, not_false_eq_true, zle, eq_self]
theorem tn11 {D : Nat} (hD : 80 ≤ D) : TN D 873 := by
  intro n I L R nc ns nx T c N w t p l5 l6 x X ⟨q1, q2, q3, q4, q5⟩
  have Y : SAMEX 96 230 [.int (I 0 (x + 1).toNatClampNeg), .int (I 0 (x + 2).toNatClampNeg)] Int32.toInt64 := S11
  obtain ⟨code, b, I1, I2, L1, L2, R1, nc1, ns1, nx1, T', c', N', w', t', p', h1, h2, h3, h4, h5, h6, h7, h8⟩ := Y n I L R nc ns nx T c N w t p X
  have hk : ∀ j, I1 0 j = I 0 j := kp_cf (h1 0)
  have h1 := h1 (D - 14)
  have h2 := h2 (D - 14)
  rw [show D - 14 + 14 = D by omega] at h1 h2
  simp only [List.cons_append, List.nil_append] at h1
  refine ⟨some (.int code), some (.int b), I2, L2, R1, nc1, ns1, nx1, T', c', N', w', t', p', ?_, h5, h6, h7, h8⟩
  by_cases g : code = 0
  · have h4 := h4 g; subst g
    simp only [e284_873, e284_874, e284_875, e284_877, e284_878, e284_879, e284_880, e284_881, e284_883, e284_884, e284_885, e284_886, e284_887, e284_890, e284_892, e284_893, e284_894, e284_896, e284_897, e284_898, e284_899, e284_900, e284_902, e284_903, e284_904, e284_905, e284_908, e284_910, e284_911, e284_914, e284_916, e284_919, e284_920, e284_921, e284_923, e284_926, e284_927, e284_928, e284_929, e284_931, e284_932, e284_933, e284_936, e284_937, e284_938, rk_n, rk_v, nl_n, nl_i, nl_r, cat_n, ip_cat_int, ip_cat_ref, ip_cat_long, ip_rf_some, Nat.reduceAdd, Nat.reduceLeDiff, Nat.reduceLT, Nat.le_refl, Nat.zero_le, q1, q2, q3, q4, q5, hk, h1, h2, c189, h3, h4, lg_self, ia_lit, inbL, tnL, Bool.false_eq_true, Bool.true_eq_false, if_true, if_false, not_true_eq_false, not_false_eq_true, zle, eq_self]
  · simp only [e284_873, e284_874, e284_875, e284_877, e284_878, e284_879, e284_880, e284_881, e284_883, e284_884, e284_885, e284_886, e284_887, e284_890, e284_892, e284_893, e284_894, e284_896, e284_897, e284_898, e284_899, e284_900, e284_902, e284_903, e284_904, e284_905, e284_908, e284_910, e284_911, e284_914, e284_916, e284_919, e284_920, e284_921, e284_923, e284_926, e284_927, e284_928, e284_929, e284_931, e284_932, e284_933, e284_936, e284_937, e284_938, rk_n, rk_v, nl_n, nl_i, nl_r, cat_n, ip_cat_int, ip_cat_ref, ip_cat_long, ip_rf_some, Nat.reduceAdd, Nat.reduceLeDiff, Nat.reduceLT, Nat.le_refl, Nat.zero_le, q1, q2, q3, q4, q5, hk, h1, h2, c189, h3, g, Bool.false_eq_true, Bool.true_eq_false, if_true, if_false, not_true_eq_false, not_false_eq_true, zle, eq_self]
theorem tn12 {D : Nat} (hD : 80 ≤ D) : TN D 941 := by
  intro n I L R nc ns nx T c N w t p l5 l6 x X ⟨q1, q2, q3, q4, q5⟩
  have Y : SAMEX 119 242 [] Int32.toInt64 := S12
  obtain ⟨code, b, I1, I2, L1, L2, R1, nc1, ns1, nx1, T', c', N', w', t', p', h1, h2, h3, h4, h5, h6, h7, h8⟩ := Y n I L R nc ns nx T c N w t p X
  have hk : ∀ j, I1 0 j = I 0 j := kp_cf (h1 0)
  have h1 := h1 (D - 14)
  have h2 := h2 (D - 14)
  rw [show D - 14 + 14 = D by omega] at h1 h2
  simp only [List.cons_append, List.nil_append] at h1
  refine ⟨some (.int code), some (.int b), I2, L2, R1, nc1, ns1, nx1, T', c', N', w', t', p', ?_, h5, h6, h7, h8⟩
  by_cases g : code = 0
  · have h4 := h4 g; subst g
    simp only [e284_941, e284_942, e284_943, e284_946, e284_948, e284_949, e284_952, e284_954, e284_955, e284_958, e284_960, e284_963, e284_964, e284_965, e284_967, e284_970, e284_971, e284_972, e284_973, e284_975, e284_976, e284_977, e284_980, e284_981, e284_982, rk_n, rk_v, nl_n, nl_i, nl_r, cat_n, ip_cat_int, ip_cat_ref, ip_cat_long, ip_rf_some, Nat.reduceAdd, Nat.reduceLeDiff, Nat.reduceLT, Nat.le_refl, Nat.zero_le, q1, q2, q3, q4, q5, hk, h1, h2, c189, h3, h4, lg_self, ia_lit, inbL, tnL, Bool.false_eq_true, Bool.true_eq_false, if_true, if_false, not_true_eq_false, not_false_eq_true, zle, eq_self]
  · simp only [e284_941, e284_942, e284_943, e284_946, e284_948, e284_949, e284_952, e284_954, e284_955, e284_958, e284_960, e284_963, e284_964, e284_965, e284_967, e284_970, e284_971, e284_972, e284_973, e284_975, e284_976, e284_977, e284_980, e284_981, e284_982, rk_n, rk_v, nl_n, nl_i, nl_r, cat_n, ip_cat_int, ip_cat_ref, ip_cat_long, ip_rf_some, Nat.reduceAdd, Nat.reduceLeDiff, Nat.reduceLT, Nat.le_refl, Nat.zero_le, q1, q2, q3, q4, q5, hk, h1, h2, c189, h3, g, Bool.false_eq_true, Bool.true_eq_false, if_true, if_false, not_true_eq_false, not_false_eq_true, zle, eq_self]
theorem tn13 {D : Nat} (hD : 80 ≤ D) : TN D 985 := by
  intro n I L R nc ns nx T c N w t p l5 l6 x X ⟨q1, q2, q3, q4, q5⟩
  have Y : SAMEX 122 243 [.int (I 0 (x + 1).toNatClampNeg)] Int32.toInt64 := S13
  obtain ⟨code, b, I1, I2, L1, L2, R1, nc1, ns1, nx1, T', c', N', w', t', p', h1, h2, h3, h4, h5, h6, h7, h8⟩ := Y n I L R nc ns nx T c N w t p X
  have hk : ∀ j, I1 0 j = I 0 j := kp_cf (h1 0)
  have h1 := h1 (D - 14)
  have h2 := h2 (D - 14)
  rw [show D - 14 + 14 = D by omega] at h1 h2
  simp only [List.cons_append, List.nil_append] at h1
  refine ⟨some (.int code), some (.int b), I2, L2, R1, nc1, ns1, nx1, T', c', N', w', t', p', ?_, h5, h6, h7, h8⟩
  by_cases g : code = 0
  · have h4 := h4 g; subst g
    simp only [e284_985, e284_986, e284_987, e284_989, e284_990, e284_991, e284_992, e284_993, e284_996, e284_998, e284_999, e284_1000, e284_1002, e284_1003, e284_1004, e284_1005, e284_1008, e284_1010, e284_1011, e284_1014, e284_1016, e284_1019, e284_1020, e284_1021, e284_1023, e284_1026, e284_1027, e284_1028, e284_1029, e284_1031, e284_1032, e284_1033, e284_1036, e284_1037, e284_1038, rk_n, rk_v, nl_n, nl_i, nl_r, cat_n, ip_cat_int, ip_cat_ref, ip_cat_long, ip_rf_some, Nat.reduceAdd, Nat.reduceLeDiff, Nat.reduceLT, Nat.le_refl, Nat.zero_le, q1, q2, q3, q4, q5, hk, h1, h2, c189, h3, h4, lg_self, ia_lit, inbL, tnL, Bool.false_eq_true, Bool.true_eq_false, if_true, if_false, not_true_eq_false, not_false_eq_true, zle, eq_self]
  · simp only [e284_985, e284_986, e284_987, e284_989, e284_990, e284_991, e284_992, e284_993, e284_996, e284_998, e284_999, e284_1000, e284_1002, e284_1003, e284_1004, e284_1005, e284_1008, e284_1010, e284_1011, e284_1014, e284_1016, e284_1019, e284_1020, e284_1021, e284_1023, e284_1026, e284_1027, e284_1028, e284_1029, e284_1031, e284_1032, e284_1033, e284_1036, e284_1037, e284_1038, rk_n, rk_v, nl_n, nl_i, nl_r, cat_n, ip_cat_int, ip_cat_ref, ip_cat_long, ip_rf_some, Nat.reduceAdd, Nat.reduceLeDiff, Nat.reduceLT, Nat.le_refl, Nat.zero_le, q1, q2, q3, q4, q5, hk, h1, h2, c189, h3, g, Bool.false_eq_true, Bool.true_eq_false, if_true, if_false, not_true_eq_false, not_false_eq_true, zle, eq_self]
theorem tn14 {D : Nat} (hD : 80 ≤ D) : TN D 1041 := by
  intro n I L R nc ns nx T c N w t p l5 l6 x X ⟨q1, q2, q3, q4, q5⟩
  have Y : SAMEX 125 245 [.int (I 0 (x + 1).toNatClampNeg), .int (I 0 (x + 2).toNatClampNeg), .int (I 0 (x + 3).toNatClampNeg)] Int32.toInt64 := S14
  obtain ⟨code, b, I1, I2, L1, L2, R1, nc1, ns1, nx1, T', c', N', w', t', p', h1, h2, h3, h4, h5, h6, h7, h8⟩ := Y n I L R nc ns nx T c N w t p X
  have hk : ∀ j, I1 0 j = I 0 j := kp_cf (h1 0)
  have h1 := h1 (D - 14)
  have h2 := h2 (D - 14)
  rw [show D - 14 + 14 = D by omega] at h1 h2
  simp only [List.cons_append, List.nil_append] at h1
  refine ⟨some (.int code), some (.int b), I2, L2, R1, nc1, ns1, nx1, T', c', N', w', t', p', ?_, h5, h6, h7, h8⟩
  by_cases g : code = 0
  · have h4 := h4 g; subst g
    simp only [e284_1041, e284_1042, e284_1043, e284_1045, e284_1046, e284_1047, e284_1048, e284_1049, e284_1051, e284_1052, e284_1053, e284_1054, e284_1055, e284_1057, e284_1058, e284_1059, e284_1060, e284_1061, e284_1064, e284_1066, e284_1067, e284_1068, e284_1070, e284_1071, e284_1072, e284_1073, e284_1074, e284_1076, e284_1077, e284_1078, e284_1079, e284_1080, e284_1082, e284_1083, e284_1084, e284_1085, e284_1088, e284_1090, e284_1091, e284_1094, e284_1096, e284_1099, e284_1100, e284_1101, e284_1103, e284_1106, e284_1107, e284_1108, e284_1109, e284_1111, e284_1112, e284_1113, e284_1116, e284_1117, e284_1118, rk_n, rk_v, nl_n, nl_i, nl_r, cat_n, ip_cat_int, ip_cat_ref, ip_cat_long, ip_rf_some, Nat.reduceAdd, Nat.reduceLeDiff, Nat.reduceLT, Nat.le_refl, Nat.zero_le, q1, q2, q3, q4, q5, hk, h1, h2, c189, h3, h4, lg_self, ia_lit, inbL, tnL, Bool.false_eq_true, Bool.true_eq_false, if_true, if_false, not_true_eq_false, not_false_eq_true, zle, eq_self]
  · simp only [e284_1041, e284_1042, e284_1043, e284_1045, e284_1046, e284_1047, e284_1048, e284_1049, e284_1051, e284_1052, e284_1053, e284_1054, e284_1055, e284_1057, e284_1058, e284_1059, e284_1060, e284_1061, e284_1064, e284_1066, e284_1067, e284_1068, e284_1070, e284_1071, e284_1072, e284_1073, e284_1074, e284_1076, e284_1077, e284_1078, e284_1079, e284_1080, e284_1082, e284_1083, e284_1084, e284_1085, e284_1088, e284_1090, e284_1091, e284_1094, e284_1096, e284_1099, e284_1100, e284_1101, e284_1103, e284_1106, e284_1107, e284_1108, e284_1109, e284_1111, e284_1112, e284_1113, e284_1116, e284_1117, e284_1118, rk_n, rk_v, nl_n, nl_i, nl_r, cat_n, ip_cat_int, ip_cat_ref, ip_cat_long, ip_rf_some, Nat.reduceAdd, Nat.reduceLeDiff, Nat.reduceLT, Nat.le_refl, Nat.zero_le, q1, q2, q3, q4, q5, hk, h1, h2, c189, h3, g, Bool.false_eq_true, Bool.true_eq_false, if_true, if_false, not_true_eq_false, not_false_eq_true, zle, eq_self]
theorem tn15 {D : Nat} (hD : 80 ≤ D) : TN D 1121 := by
  intro n I L R nc ns nx T c N w t p l5 l6 x X ⟨q1, q2, q3, q4, q5⟩
  by_cases gz : I 0 (x + 2).toNatClampNeg = 0
  · have Y : SAMEX 127 248 [.int (I 0 (x + 1).toNatClampNeg), .int 0] Int32.toInt64 := S15
    obtain ⟨code, b, I1, I2, L1, L2, R1, nc1, ns1, nx1, T', c', N', w', t', p', h1, h2, h3, h4, h5, h6, h7, h8⟩ := Y n I L R nc ns nx T c N w t p X
    have hk : ∀ j, I1 0 j = I 0 j := kp_cf (h1 0)
    have h1 := h1 (D - 14)
    have h2 := h2 (D - 14)
    rw [show D - 14 + 14 = D by omega] at h1 h2
    simp only [List.cons_append, List.nil_append] at h1
    refine ⟨some (.int code), some (.int b), I2, L2, R1, nc1, ns1, nx1, T', c', N', w', t', p', ?_, h5, h6, h7, h8⟩
    by_cases g : code = 0
    · have h4 := h4 g; subst g
      simp only [e284_1121, e284_1122, e284_1123, e284_1125, e284_1126, e284_1127, e284_1128, e284_1129, e284_1131, e284_1132, e284_1133, e284_1134, e284_1137, e284_1138, e284_1141, e284_1142, e284_1143, e284_1146, e284_1148, e284_1149, e284_1150, e284_1152, e284_1153, e284_1154, e284_1155, e284_1156, e284_1158, e284_1159, e284_1160, e284_1161, e284_1164, e284_1165, e284_1168, e284_1169, e284_1172, e284_1174, e284_1175, e284_1178, e284_1180, e284_1183, e284_1184, e284_1185, e284_1187, e284_1190, e284_1191, e284_1192, e284_1193, e284_1195, e284_1196, e284_1197, e284_1200, e284_1201, e284_1202, rk_n, rk_v, nl_n, nl_i, nl_r, cat_n, ip_cat_int, ip_cat_ref, ip_cat_long, ip_rf_some, Nat.reduceAdd, Nat.reduceLeDiff, Nat.reduceLT, Nat.le_refl, Nat.zero_le, q1, q2, q3, q4, q5, hk, h1, h2, c189, h3, h4, lg_self, ia_lit, inbL, tnL, gz, Bool.false_eq_true, Bool.true_eq_false, if_true, if_false, not_true_eq_false, not_false_eq_true, zle, eq_self]
    · simp only [e284_1121, e284_1122, e284_1123, e284_1125, e284_1126, e284_1127, e284_1128, e284_1129, e284_1131, e284_1132, e284_1133, e284_1134, e284_1137, e284_1138, e284_1141, e284_1142, e284_1143, e284_1146, e284_1148, e284_1149, e284_1150, e284_1152, e284_1153, e284_1154, e284_1155, e284_1156, e284_1158, e284_1159, e284_1160, e284_1161, e284_1164, e284_1165, e284_1168, e284_1169, e284_1172, e284_1174, e284_1175, e284_1178, e284_1180, e284_1183, e284_1184, e284_1185, e284_1187, e284_1190, e284_1191, e284_1192, e284_1193, e284_1195, e284_1196, e284_1197, e284_1200, e284_1201, e284_1202, rk_n, rk_v, nl_n, nl_i, nl_r, cat_n, ip_cat_int, ip_cat_ref, ip_cat_long, ip_rf_some, Nat.reduceAdd, Nat.reduceLeDiff, Nat.reduceLT, Nat.le_refl, Nat.zero_le, q1, q2, q3, q4, q5, hk, h1, h2, c189, h3, g, gz, Bool.false_eq_true, Bool.true_eq_false, if_true, if_false, not_true_eq_false, not_false_eq_true, zle, eq_self]
  · have Y : SAMEX 127 248 [.int (I 0 (x + 1).toNatClampNeg), .int 1] Int32.toInt64 := S15
    obtain ⟨code, b, I1, I2, L1, L2, R1, nc1, ns1, nx1, T', c', N', w', t', p', h1, h2, h3, h4, h5, h6, h7, h8⟩ := Y n I L R nc ns nx T c N w t p X
    have hk : ∀ j, I1 0 j = I 0 j := kp_cf (h1 0)
    have h1 := h1 (D - 14)
    have h2 := h2 (D - 14)
    rw [show D - 14 + 14 = D by omega] at h1 h2
    simp only [List.cons_append, List.nil_append] at h1
    refine ⟨some (.int code), some (.int b), I2, L2, R1, nc1, ns1, nx1, T', c', N', w', t', p', ?_, h5, h6, h7, h8⟩
    by_cases g : code = 0
    · have h4 := h4 g; subst g
      simp only [e284_1121, e284_1122, e284_1123, e284_1125, e284_1126, e284_1127, e284_1128, e284_1129, e284_1131, e284_1132, e284_1133, e284_1134, e284_1137, e284_1138, e284_1141, e284_1142, e284_1143, e284_1146, e284_1148, e284_1149, e284_1150, e284_1152, e284_1153, e284_1154, e284_1155, e284_1156, e284_1158, e284_1159, e284_1160, e284_1161, e284_1164, e284_1165, e284_1168, e284_1169, e284_1172, e284_1174, e284_1175, e284_1178, e284_1180, e284_1183, e284_1184, e284_1185, e284_1187, e284_1190, e284_1191, e284_1192, e284_1193, e284_1195, e284_1196, e284_1197, e284_1200, e284_1201, e284_1202, rk_n, rk_v, nl_n, nl_i, nl_r, cat_n, ip_cat_int, ip_cat_ref, ip_cat_long, ip_rf_some, Nat.reduceAdd, Nat.reduceLeDiff, Nat.reduceLT, Nat.le_refl, Nat.zero_le, q1, q2, q3, q4, q5, hk, h1, h2, c189, h3, h4, lg_self, ia_lit, inbL, tnL, gz, Bool.false_eq_true, Bool.true_eq_false, if_true, if_false, not_true_eq_false, not_false_eq_true, zle, eq_self]
    · simp only [e284_1121, e284_1122, e284_1123, e284_1125, e284_1126, e284_1127, e284_1128, e284_1129, e284_1131, e284_1132, e284_1133, e284_1134, e284_1137, e284_1138, e284_1141, e284_1142, e284_1143, e284_1146, e284_1148, e284_1149, e284_1150, e284_1152, e284_1153, e284_1154, e284_1155, e284_1156, e284_1158, e284_1159, e284_1160, e284_1161, e284_1164, e284_1165, e284_1168, e284_1169, e284_1172, e284_1174, e284_1175, e284_1178, e284_1180, e284_1183, e284_1184, e284_1185, e284_1187, e284_1190, e284_1191, e284_1192, e284_1193, e284_1195, e284_1196, e284_1197, e284_1200, e284_1201, e284_1202, rk_n, rk_v, nl_n, nl_i, nl_r, cat_n, ip_cat_int, ip_cat_ref, ip_cat_long, ip_rf_some, Nat.reduceAdd, Nat.reduceLeDiff, Nat.reduceLT, Nat.le_refl, Nat.zero_le, q1, q2, q3, q4, q5, hk, h1, h2, c189, h3, g, gz, Bool.false_eq_true, Bool.true_eq_false, if_true, if_false, not_true_eq_false, not_false_eq_true, zle, eq_self]
theorem tn16 {D : Nat} (hD : 80 ≤ D) : TN D 1205 := by
  intro n I L R nc ns nx T c N w t p l5 l6 x X ⟨q1, q2, q3, q4, q5⟩
  have Y : SAMEX 134 251 [.int (I 0 (x + 1).toNatClampNeg), .int (I 0 (x + 2).toNatClampNeg)] Int32.toInt64 := S16
  obtain ⟨code, b, I1, I2, L1, L2, R1, nc1, ns1, nx1, T', c', N', w', t', p', h1, h2, h3, h4, h5, h6, h7, h8⟩ := Y n I L R nc ns nx T c N w t p X
  have hk : ∀ j, I1 0 j = I 0 j := kp_cf (h1 0)
  have h1 := h1 (D - 14)
  have h2 := h2 (D - 14)
  rw [show D - 14 + 14 = D by omega] at h1 h2
  simp only [List.cons_append, List.nil_append] at h1
  refine ⟨some (.int code), some (.int b), I2, L2, R1, nc1, ns1, nx1, T', c', N', w', t', p', ?_, h5, h6, h7, h8⟩
  by_cases g : code = 0
  · have h4 := h4 g; subst g
    simp only [e284_1205, e284_1206, e284_1207, e284_1209, e284_1210, e284_1211, e284_1212, e284_1213, e284_1215, e284_1216, e284_1217, e284_1218, e284_1219, e284_1222, e284_1224, e284_1225, e284_1226, e284_1228, e284_1229, e284_1230, e284_1231, e284_1232, e284_1234, e284_1235, e284_1236, e284_1237, e284_1240, e284_1242, e284_1243, e284_1246, e284_1248, e284_1251, e284_1252, e284_1253, e284_1255, e284_1258, e284_1259, e284_1260, e284_1261, e284_1263, e284_1264, e284_1265, e284_1268, e284_1269, e284_1270, rk_n, rk_v, nl_n, nl_i, nl_r, cat_n, ip_cat_int, ip_cat_ref, ip_cat_long, ip_rf_some, Nat.reduceAdd, Nat.reduceLeDiff, Nat.reduceLT, Nat.le_refl, Nat.zero_le, q1, q2, q3, q4, q5, hk, h1, h2, c189, h3, h4, lg_self, ia_lit, inbL, tnL, Bool.false_eq_true, Bool.true_eq_false, if_true, if_false, not_true_eq_false, not_false_eq_true, zle, eq_self]
  · simp only [e284_1205, e284_1206, e284_1207, e284_1209, e284_1210, e284_1211, e284_1212, e284_1213, e284_1215, e284_1216, e284_1217, e284_1218, e284_1219, e284_1222, e284_1224, e284_1225, e284_1226, e284_1228, e284_1229, e284_1230, e284_1231, e284_1232, e284_1234, e284_1235, e284_1236, e284_1237, e284_1240, e284_1242, e284_1243, e284_1246, e284_1248, e284_1251, e284_1252, e284_1253, e284_1255, e284_1258, e284_1259, e284_1260, e284_1261, e284_1263, e284_1264, e284_1265, e284_1268, e284_1269, e284_1270, rk_n, rk_v, nl_n, nl_i, nl_r, cat_n, ip_cat_int, ip_cat_ref, ip_cat_long, ip_rf_some, Nat.reduceAdd, Nat.reduceLeDiff, Nat.reduceLT, Nat.le_refl, Nat.zero_le, q1, q2, q3, q4, q5, hk, h1, h2, c189, h3, g, Bool.false_eq_true, Bool.true_eq_false, if_true, if_false, not_true_eq_false, not_false_eq_true, zle, eq_self]
theorem tn17 {D : Nat} (hD : 80 ≤ D) : TN D 1273 := by
  intro n I L R nc ns nx T c N w t p l5 l6 x X ⟨q1, q2, q3, q4, q5⟩
  by_cases gz : I 0 (x + 2).toNatClampNeg = 0
  · have Y : SAMEX 136 252 [.int (I 0 (x + 1).toNatClampNeg), .int 0] Int32.toInt64 := S17
    obtain ⟨code, b, I1, I2, L1, L2, R1, nc1, ns1, nx1, T', c', N', w', t', p', h1, h2, h3, h4, h5, h6, h7, h8⟩ := Y n I L R nc ns nx T c N w t p X
    have hk : ∀ j, I1 0 j = I 0 j := kp_cf (h1 0)
    have h1 := h1 (D - 14)
    have h2 := h2 (D - 14)
    rw [show D - 14 + 14 = D by omega] at h1 h2
    simp only [List.cons_append, List.nil_append] at h1
    refine ⟨some (.int code), some (.int b), I2, L2, R1, nc1, ns1, nx1, T', c', N', w', t', p', ?_, h5, h6, h7, h8⟩
    by_cases g : code = 0
    · have h4 := h4 g; subst g
      simp only [e284_1273, e284_1274, e284_1275, e284_1277, e284_1278, e284_1279, e284_1280, e284_1281, e284_1283, e284_1284, e284_1285, e284_1286, e284_1289, e284_1290, e284_1293, e284_1294, e284_1295, e284_1298, e284_1300, e284_1301, e284_1302, e284_1304, e284_1305, e284_1306, e284_1307, e284_1308, e284_1310, e284_1311, e284_1312, e284_1313, e284_1316, e284_1317, e284_1320, e284_1321, e284_1324, e284_1326, e284_1327, e284_1330, e284_1332, e284_1335, e284_1336, e284_1337, e284_1339, e284_1342, e284_1343, e284_1344, e284_1345, e284_1347, e284_1348, e284_1349, e284_1352, e284_1353, e284_1354, rk_n, rk_v, nl_n, nl_i, nl_r, cat_n, ip_cat_int, ip_cat_ref, ip_cat_long, ip_rf_some, Nat.reduceAdd, Nat.reduceLeDiff, Nat.reduceLT, Nat.le_refl, Nat.zero_le, q1, q2, q3, q4, q5, hk, h1, h2, c189, h3, h4, lg_self, ia_lit, inbL, tnL, gz, Bool.false_eq_true, Bool.true_eq_false, if_true, if_false, not_true_eq_false, not_false_eq_true, zle, eq_self]
    · simp only [e284_1273, e284_1274, e284_1275, e284_1277, e284_1278, e284_1279, e284_1280, e284_1281, e284_1283, e284_1284, e284_1285, e284_1286, e284_1289, e284_1290, e284_1293, e284_1294, e284_1295, e284_1298, e284_1300, e284_1301, e284_1302, e284_1304, e284_1305, e284_1306, e284_1307, e284_1308, e284_1310, e284_1311, e284_1312, e284_1313, e284_1316, e284_1317, e284_1320, e284_1321, e284_1324, e284_1326, e284_1327, e284_1330, e284_1332, e284_1335, e284_1336, e284_1337, e284_1339, e284_1342, e284_1343, e284_1344, e284_1345, e284_1347, e284_1348, e284_1349, e284_1352, e284_1353, e284_1354, rk_n, rk_v, nl_n, nl_i, nl_r, cat_n, ip_cat_int, ip_cat_ref, ip_cat_long, ip_rf_some, Nat.reduceAdd, Nat.reduceLeDiff, Nat.reduceLT, Nat.le_refl, Nat.zero_le, q1, q2, q3, q4, q5, hk, h1, h2, c189, h3, g, gz, Bool.false_eq_true, Bool.true_eq_false, if_true, if_false, not_true_eq_false, not_false_eq_true, zle, eq_self]
  · have Y : SAMEX 136 252 [.int (I 0 (x + 1).toNatClampNeg), .int 1] Int32.toInt64 := S17
    obtain ⟨code, b, I1, I2, L1, L2, R1, nc1, ns1, nx1, T', c', N', w', t', p', h1, h2, h3, h4, h5, h6, h7, h8⟩ := Y n I L R nc ns nx T c N w t p X
    have hk : ∀ j, I1 0 j = I 0 j := kp_cf (h1 0)
    have h1 := h1 (D - 14)
    have h2 := h2 (D - 14)
    rw [show D - 14 + 14 = D by omega] at h1 h2
    simp only [List.cons_append, List.nil_append] at h1
    refine ⟨some (.int code), some (.int b), I2, L2, R1, nc1, ns1, nx1, T', c', N', w', t', p', ?_, h5, h6, h7, h8⟩
    by_cases g : code = 0
    · have h4 := h4 g; subst g
      simp only [e284_1273, e284_1274, e284_1275, e284_1277, e284_1278, e284_1279, e284_1280, e284_1281, e284_1283, e284_1284, e284_1285, e284_1286, e284_1289, e284_1290, e284_1293, e284_1294, e284_1295, e284_1298, e284_1300, e284_1301, e284_1302, e284_1304, e284_1305, e284_1306, e284_1307, e284_1308, e284_1310, e284_1311, e284_1312, e284_1313, e284_1316, e284_1317, e284_1320, e284_1321, e284_1324, e284_1326, e284_1327, e284_1330, e284_1332, e284_1335, e284_1336, e284_1337, e284_1339, e284_1342, e284_1343, e284_1344, e284_1345, e284_1347, e284_1348, e284_1349, e284_1352, e284_1353, e284_1354, rk_n, rk_v, nl_n, nl_i, nl_r, cat_n, ip_cat_int, ip_cat_ref, ip_cat_long, ip_rf_some, Nat.reduceAdd, Nat.reduceLeDiff, Nat.reduceLT, Nat.le_refl, Nat.zero_le, q1, q2, q3, q4, q5, hk, h1, h2, c189, h3, h4, lg_self, ia_lit, inbL, tnL, gz, Bool.false_eq_true, Bool.true_eq_false, if_true, if_false, not_true_eq_false, not_false_eq_true, zle, eq_self]
    · simp only [e284_1273, e284_1274, e284_1275, e284_1277, e284_1278, e284_1279, e284_1280, e284_1281, e284_1283, e284_1284, e284_1285, e284_1286, e284_1289, e284_1290, e284_1293, e284_1294, e284_1295, e284_1298, e284_1300, e284_1301, e284_1302, e284_1304, e284_1305, e284_1306, e284_1307, e284_1308, e284_1310, e284_1311, e284_1312, e284_1313, e284_1316, e284_1317, e284_1320, e284_1321, e284_1324, e284_1326, e284_1327, e284_1330, e284_1332, e284_1335, e284_1336, e284_1337, e284_1339, e284_1342, e284_1343, e284_1344, e284_1345, e284_1347, e284_1348, e284_1349, e284_1352, e284_1353, e284_1354, rk_n, rk_v, nl_n, nl_i, nl_r, cat_n, ip_cat_int, ip_cat_ref, ip_cat_long, ip_rf_some, Nat.reduceAdd, Nat.reduceLeDiff, Nat.reduceLT, Nat.le_refl, Nat.zero_le, q1, q2, q3, q4, q5, hk, h1, h2, c189, h3, g, gz, Bool.false_eq_true, Bool.true_eq_false, if_true, if_false, not_true_eq_false, not_false_eq_true, zle, eq_self]
theorem tn18 {D : Nat} (hD : 80 ≤ D) : TN D 1357 := by
  intro n I L R nc ns nx T c N w t p l5 l6 x X ⟨q1, q2, q3, q4, q5⟩
  have Y : SAMEX 138 246 [.int (I 0 (x + 1).toNatClampNeg)] Int32.toInt64 := S18
  obtain ⟨code, b, I1, I2, L1, L2, R1, nc1, ns1, nx1, T', c', N', w', t', p', h1, h2, h3, h4, h5, h6, h7, h8⟩ := Y n I L R nc ns nx T c N w t p X
  have hk : ∀ j, I1 0 j = I 0 j := kp_cf (h1 0)
  have h1 := h1 (D - 14)
  have h2 := h2 (D - 14)
  rw [show D - 14 + 14 = D by omega] at h1 h2
  simp only [List.cons_append, List.nil_append] at h1
  refine ⟨some (.int code), some (.int b), I2, L2, R1, nc1, ns1, nx1, T', c', N', w', t', p', ?_, h5, h6, h7, h8⟩
  by_cases g : code = 0
  · have h4 := h4 g; subst g
    simp only [e284_1357, e284_1358, e284_1359, e284_1361, e284_1362, e284_1363, e284_1364, e284_1365, e284_1368, e284_1370, e284_1371, e284_1372, e284_1374, e284_1375, e284_1376, e284_1377, e284_1380, e284_1382, e284_1383, e284_1386, e284_1388, e284_1391, e284_1392, e284_1393, e284_1395, e284_1398, e284_1399, e284_1400, e284_1401, e284_1403, e284_1404, e284_1405, e284_1408, e284_1409, e284_1410, rk_n, rk_v, nl_n, nl_i, nl_r, cat_n, ip_cat_int, ip_cat_ref, ip_cat_long, ip_rf_some, Nat.reduceAdd, Nat.reduceLeDiff, Nat.reduceLT, Nat.le_refl, Nat.zero_le, q1, q2, q3, q4, q5, hk, h1, h2, c189, h3, h4, lg_self, ia_lit, inbL, tnL, Bool.false_eq_true, Bool.true_eq_false, if_true, if_false, not_true_eq_false, not_false_eq_true, zle, eq_self]
  · simp only [e284_1357, e284_1358, e284_1359, e284_1361, e284_1362, e284_1363, e284_1364, e284_1365, e284_1368, e284_1370, e284_1371, e284_1372, e284_1374, e284_1375, e284_1376, e284_1377, e284_1380, e284_1382, e284_1383, e284_1386, e284_1388, e284_1391, e284_1392, e284_1393, e284_1395, e284_1398, e284_1399, e284_1400, e284_1401, e284_1403, e284_1404, e284_1405, e284_1408, e284_1409, e284_1410, rk_n, rk_v, nl_n, nl_i, nl_r, cat_n, ip_cat_int, ip_cat_ref, ip_cat_long, ip_rf_some, Nat.reduceAdd, Nat.reduceLeDiff, Nat.reduceLT, Nat.le_refl, Nat.zero_le, q1, q2, q3, q4, q5, hk, h1, h2, c189, h3, g, Bool.false_eq_true, Bool.true_eq_false, if_true, if_false, not_true_eq_false, not_false_eq_true, zle, eq_self]
theorem tn19 {D : Nat} (hD : 80 ≤ D) : TN D 1413 := by
  intro n I L R nc ns nx T c N w t p l5 l6 x X ⟨q1, q2, q3, q4, q5⟩
  have Y : SAMEX 140 253 [.int (I 0 (x + 1).toNatClampNeg), .int (I 0 (x + 2).toNatClampNeg), .int (I 0 (x + 3).toNatClampNeg)] Int32.toInt64 := S19
  obtain ⟨code, b, I1, I2, L1, L2, R1, nc1, ns1, nx1, T', c', N', w', t', p', h1, h2, h3, h4, h5, h6, h7, h8⟩ := Y n I L R nc ns nx T c N w t p X
  have hk : ∀ j, I1 0 j = I 0 j := kp_cf (h1 0)
  have h1 := h1 (D - 14)
  have h2 := h2 (D - 14)
  rw [show D - 14 + 14 = D by omega] at h1 h2
  simp only [List.cons_append, List.nil_append] at h1
  refine ⟨some (.int code), some (.int b), I2, L2, R1, nc1, ns1, nx1, T', c', N', w', t', p', ?_, h5, h6, h7, h8⟩
  by_cases g : code = 0
  · have h4 := h4 g; subst g
    simp only [e284_1413, e284_1414, e284_1415, e284_1417, e284_1418, e284_1419, e284_1420, e284_1421, e284_1423, e284_1424, e284_1425, e284_1426, e284_1427, e284_1429, e284_1430, e284_1431, e284_1432, e284_1433, e284_1436, e284_1438, e284_1439, e284_1440, e284_1442, e284_1443, e284_1444, e284_1445, e284_1446, e284_1448, e284_1449, e284_1450, e284_1451, e284_1452, e284_1454, e284_1455, e284_1456, e284_1457, e284_1460, e284_1462, e284_1463, e284_1466, e284_1468, e284_1471, e284_1472, e284_1473, e284_1475, e284_1478, e284_1479, e284_1480, e284_1481, e284_1483, e284_1484, e284_1485, e284_1488, e284_1489, e284_1490, rk_n, rk_v, nl_n, nl_i, nl_r, cat_n, ip_cat_int, ip_cat_ref, ip_cat_long, ip_rf_some, Nat.reduceAdd, Nat.reduceLeDiff, Nat.reduceLT, Nat.le_refl, Nat.zero_le, q1, q2, q3, q4, q5, hk, h1, h2, c189, h3, h4, lg_self, ia_lit, inbL, tnL, Bool.false_eq_true, Bool.true_eq_false, if_true, if_false, not_true_eq_false, not_false_eq_true, zle, eq_self]
  · simp only [e284_1413, e284_1414, e284_1415, e284_1417, e284_1418, e284_1419, e284_1420, e284_1421, e284_1423, e284_1424, e284_1425, e284_1426, e284_1427, e284_1429, e284_1430, e284_1431, e284_1432, e284_1433, e284_1436, e284_1438, e284_1439, e284_1440, e284_1442, e284_1443, e284_1444, e284_1445, e284_1446, e284_1448, e284_1449, e284_1450, e284_1451, e284_1452, e284_1454, e284_1455, e284_1456, e284_1457, e284_1460, e284_1462, e284_1463, e284_1466, e284_1468, e284_1471, e284_1472, e284_1473, e284_1475, e284_1478, e284_1479, e284_1480, e284_1481, e284_1483, e284_1484, e284_1485, e284_1488, e284_1489, e284_1490, rk_n, rk_v, nl_n, nl_i, nl_r, cat_n, ip_cat_int, ip_cat_ref, ip_cat_long, ip_rf_some, Nat.reduceAdd, Nat.reduceLeDiff, Nat.reduceLT, Nat.le_refl, Nat.zero_le, q1, q2, q3, q4, q5, hk, h1, h2, c189, h3, g, Bool.false_eq_true, Bool.true_eq_false, if_true, if_false, not_true_eq_false, not_false_eq_true, zle, eq_self]
