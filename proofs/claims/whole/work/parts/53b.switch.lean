/-! SWITCHES (printed by wip/whole/gen_switch.py) -/
theorem i32_lt_of {x : Int32} {a : Int32} {v : Int} (hv : a.toInt = v) : x < a → x.toInt < v := by
  intro h
  rw [Int32.lt_iff_toInt_lt, hv] at h
  exact h
theorem i32_gt_of {x : Int32} {a : Int32} {v : Int} (hv : a.toInt = v) : a < x → v < x.toInt := by
  intro h
  rw [Int32.lt_iff_toInt_lt, hv] at h
  exact h
theorem g_tabd {d m pc len t : Nat} {ls : List (Option Value)} {s : List Value} {h : ip_H} {x a b : Int32} {dflt lo hi : Int} {offs : Array Int} (hd : decode (ip_code m) pc = .ok (.tableswitch dflt lo hi offs, len)) (ha : a.toInt = lo) (hb : b.toInt = hi) (hx : x < a ∨ b < x) (ht : ip_tgt pc dflt = some t) : rf d m pc ls (.int x :: s) h = rf d m t ls s h := by
  refine rf_pure hd ?_
  show ip_tab pc ls (.int x :: s) dflt lo hi offs = some (t, ls, s)
  unfold ip_tab
  dsimp only
  rw [if_pos (hx.imp (i32_lt_of ha) (i32_gt_of hb)), ht]
  rfl
theorem lw_ne {x a : Int32} {v : Int} (h : ¬ x = a) (hv : a.toInt = v) : (!decide (v = x.toInt)) = true := by
  rw [Bool.not_eq_true', decide_eq_false_iff_not]
  intro e
  exact h (Int32.toInt_inj.mp (by rw [← e, hv]))
theorem lsw_off {dflt v : Int} : ∀ {ps : List (Int × Int)}, ps.all (fun p => !decide (p.1 = v)) = true → Op.lookupswitch.offset ps dflt v = dflt
  | [], _ => rfl
  | (a, o) :: r, h => by
    rw [List.all_cons, Bool.and_eq_true] at h
    rw [Op.lookupswitch.offset_cons, if_neg (by simpa using h.1)]
    exact lsw_off h.2
theorem g_lswd {d m pc len t : Nat} {ls : List (Option Value)} {s : List Value} {h : ip_H} {x : Int32} {dflt : Int} {ps : Array (Int × Int)} (hd : decode (ip_code m) pc = .ok (.lookupswitch dflt ps, len)) (hx : ps.toList.all (fun p => !decide (p.1 = x.toInt)) = true) (ho : (ps.toList.zip (ps.toList.drop 1)).all (fun (a, next) => a.1 < next.1) = true) (ht : ip_tgt pc dflt = some t) : rf d m pc ls (.int x :: s) h = rf d m t ls s h := by
  refine rf_pure hd ?_
  show ip_lsw pc ls (.int x :: s) dflt ps = some (t, ls, s)
  unfold ip_lsw
  dsimp only
  rw [if_pos ho, lsw_off hx, ht]
  rfl
section SWI
variable {n d a b t : Nat} {l0 l1 l2 l3 l4 l5 l6 l7 l8 l9 l10 l11 l12 l13 : Option Value} {ls : List (Option Value)} {s : List Value} {h : ip_H} {I : Nat → Nat → Int32} {L : Nat → Nat → Int64} {R : Nat → Nat → Option Nat} {nc ns : Nat} {nx : Bool} {x y j z sp dp x0 x1 x2 x3 x4 x5 : Int32} {u v u0 u1 u2 u3 : Int64} {a0 a1 a2 a3 a4 : Nat}
theorem sw33_4 : okD 33 4 (.tableswitch (44) (0) (3) #[32, 35, 38, 41]) 32 = true := by decide +kernel
theorem e33_4_0 : rf d 33 4 ls (.int 0 :: s) h = rf d 33 36 ls s h := rf_pure (okD_ok sw33_4) rfl
theorem e33_4_1 : rf d 33 4 ls (.int 1 :: s) h = rf d 33 39 ls s h := rf_pure (okD_ok sw33_4) rfl
theorem e33_4_2 : rf d 33 4 ls (.int 2 :: s) h = rf d 33 42 ls s h := rf_pure (okD_ok sw33_4) rfl
theorem e33_4_3 : rf d 33 4 ls (.int 3 :: s) h = rf d 33 45 ls s h := rf_pure (okD_ok sw33_4) rfl
theorem e33_4_d (hx : x < 0 ∨ 3 < x) : rf d 33 4 ls (.int x :: s) h = rf d 33 48 ls s h := g_tabd (okD_ok sw33_4) (by decide) (by decide) hx rfl
theorem sw34_1 : okD 34 1 (.tableswitch (134) (0) (10) #[59, 67, 72, 77, 83, 94, 100, 106, 112, 118, 126]) 59 = true := by decide +kernel
theorem e34_1_0 : rf d 34 1 ls (.int 0 :: s) h = rf d 34 60 ls s h := rf_pure (okD_ok sw34_1) rfl
theorem e34_1_1 : rf d 34 1 ls (.int 1 :: s) h = rf d 34 68 ls s h := rf_pure (okD_ok sw34_1) rfl
theorem e34_1_2 : rf d 34 1 ls (.int 2 :: s) h = rf d 34 73 ls s h := rf_pure (okD_ok sw34_1) rfl
theorem e34_1_3 : rf d 34 1 ls (.int 3 :: s) h = rf d 34 78 ls s h := rf_pure (okD_ok sw34_1) rfl
theorem e34_1_4 : rf d 34 1 ls (.int 4 :: s) h = rf d 34 84 ls s h := rf_pure (okD_ok sw34_1) rfl
theorem e34_1_5 : rf d 34 1 ls (.int 5 :: s) h = rf d 34 95 ls s h := rf_pure (okD_ok sw34_1) rfl
theorem e34_1_6 : rf d 34 1 ls (.int 6 :: s) h = rf d 34 101 ls s h := rf_pure (okD_ok sw34_1) rfl
theorem e34_1_7 : rf d 34 1 ls (.int 7 :: s) h = rf d 34 107 ls s h := rf_pure (okD_ok sw34_1) rfl
theorem e34_1_8 : rf d 34 1 ls (.int 8 :: s) h = rf d 34 113 ls s h := rf_pure (okD_ok sw34_1) rfl
theorem e34_1_9 : rf d 34 1 ls (.int 9 :: s) h = rf d 34 119 ls s h := rf_pure (okD_ok sw34_1) rfl
theorem e34_1_10 : rf d 34 1 ls (.int 10 :: s) h = rf d 34 127 ls s h := rf_pure (okD_ok sw34_1) rfl
theorem e34_1_d (hx : x < 0 ∨ 10 < x) : rf d 34 1 ls (.int x :: s) h = rf d 34 135 ls s h := g_tabd (okD_ok sw34_1) (by decide) (by decide) hx rfl
theorem sw59_4 : okD 59 4 (.lookupswitch (95) #[(11, 44), (13, 64), (14, 89), (40, 69)]) 44 = true := by decide +kernel
theorem e59_4_11 : rf d 59 4 ls (.int 11 :: s) h = rf d 59 48 ls s h := rf_pure (okD_ok sw59_4) rfl
theorem e59_4_13 : rf d 59 4 ls (.int 13 :: s) h = rf d 59 68 ls s h := rf_pure (okD_ok sw59_4) rfl
theorem e59_4_14 : rf d 59 4 ls (.int 14 :: s) h = rf d 59 93 ls s h := rf_pure (okD_ok sw59_4) rfl
theorem e59_4_40 : rf d 59 4 ls (.int 40 :: s) h = rf d 59 73 ls s h := rf_pure (okD_ok sw59_4) rfl
theorem e59_4_d (h11 : ¬ x = 11) (h13 : ¬ x = 13) (h14 : ¬ x = 14) (h40 : ¬ x = 40) : rf d 59 4 ls (.int x :: s) h = rf d 59 99 ls s h := g_lswd (okD_ok sw59_4) (by simp only [List.all_cons, List.all_nil, Bool.and_true, Bool.and_eq_true]; exact ⟨lw_ne h11 (by decide), lw_ne h13 (by decide), lw_ne h14 (by decide), lw_ne h40 (by decide)⟩) (by decide) rfl
theorem sw74_6 : okD 74 6 (.tableswitch (56) (0) (2) #[26, 36, 46]) 26 = true := by decide +kernel
theorem e74_6_0 : rf d 74 6 ls (.int 0 :: s) h = rf d 74 32 ls s h := rf_pure (okD_ok sw74_6) rfl
theorem e74_6_1 : rf d 74 6 ls (.int 1 :: s) h = rf d 74 42 ls s h := rf_pure (okD_ok sw74_6) rfl
theorem e74_6_2 : rf d 74 6 ls (.int 2 :: s) h = rf d 74 52 ls s h := rf_pure (okD_ok sw74_6) rfl
theorem e74_6_d (hx : x < 0 ∨ 2 < x) : rf d 74 6 ls (.int x :: s) h = rf d 74 62 ls s h := g_tabd (okD_ok sw74_6) (by decide) (by decide) hx rfl
theorem sw126_24 : okD 126 24 (.tableswitch (76) (0) (4) #[36, 44, 52, 60, 68]) 36 = true := by decide +kernel
theorem e126_24_0 : rf d 126 24 ls (.int 0 :: s) h = rf d 126 60 ls s h := rf_pure (okD_ok sw126_24) rfl
theorem e126_24_1 : rf d 126 24 ls (.int 1 :: s) h = rf d 126 68 ls s h := rf_pure (okD_ok sw126_24) rfl
theorem e126_24_2 : rf d 126 24 ls (.int 2 :: s) h = rf d 126 76 ls s h := rf_pure (okD_ok sw126_24) rfl
theorem e126_24_3 : rf d 126 24 ls (.int 3 :: s) h = rf d 126 84 ls s h := rf_pure (okD_ok sw126_24) rfl
theorem e126_24_4 : rf d 126 24 ls (.int 4 :: s) h = rf d 126 92 ls s h := rf_pure (okD_ok sw126_24) rfl
theorem e126_24_d (hx : x < 0 ∨ 4 < x) : rf d 126 24 ls (.int x :: s) h = rf d 126 100 ls s h := g_tabd (okD_ok sw126_24) (by decide) (by decide) hx rfl
theorem sw157_13 : okD 157 13 (.tableswitch (165) (0) (14) #[75, 80, 85, 90, 95, 100, 105, 110, 126, 131, 136, 142, 148, 154, 160]) 75 = true := by decide +kernel
theorem e157_13_0 : rf d 157 13 ls (.int 0 :: s) h = rf d 157 88 ls s h := rf_pure (okD_ok sw157_13) rfl
theorem e157_13_1 : rf d 157 13 ls (.int 1 :: s) h = rf d 157 93 ls s h := rf_pure (okD_ok sw157_13) rfl
theorem e157_13_2 : rf d 157 13 ls (.int 2 :: s) h = rf d 157 98 ls s h := rf_pure (okD_ok sw157_13) rfl
theorem e157_13_3 : rf d 157 13 ls (.int 3 :: s) h = rf d 157 103 ls s h := rf_pure (okD_ok sw157_13) rfl
theorem e157_13_4 : rf d 157 13 ls (.int 4 :: s) h = rf d 157 108 ls s h := rf_pure (okD_ok sw157_13) rfl
theorem e157_13_5 : rf d 157 13 ls (.int 5 :: s) h = rf d 157 113 ls s h := rf_pure (okD_ok sw157_13) rfl
theorem e157_13_6 : rf d 157 13 ls (.int 6 :: s) h = rf d 157 118 ls s h := rf_pure (okD_ok sw157_13) rfl
theorem e157_13_7 : rf d 157 13 ls (.int 7 :: s) h = rf d 157 123 ls s h := rf_pure (okD_ok sw157_13) rfl
theorem e157_13_8 : rf d 157 13 ls (.int 8 :: s) h = rf d 157 139 ls s h := rf_pure (okD_ok sw157_13) rfl
theorem e157_13_9 : rf d 157 13 ls (.int 9 :: s) h = rf d 157 144 ls s h := rf_pure (okD_ok sw157_13) rfl
theorem e157_13_10 : rf d 157 13 ls (.int 10 :: s) h = rf d 157 149 ls s h := rf_pure (okD_ok sw157_13) rfl
theorem e157_13_11 : rf d 157 13 ls (.int 11 :: s) h = rf d 157 155 ls s h := rf_pure (okD_ok sw157_13) rfl
theorem e157_13_12 : rf d 157 13 ls (.int 12 :: s) h = rf d 157 161 ls s h := rf_pure (okD_ok sw157_13) rfl
theorem e157_13_13 : rf d 157 13 ls (.int 13 :: s) h = rf d 157 167 ls s h := rf_pure (okD_ok sw157_13) rfl
theorem e157_13_14 : rf d 157 13 ls (.int 14 :: s) h = rf d 157 173 ls s h := rf_pure (okD_ok sw157_13) rfl
theorem e157_13_d (hx : x < 0 ∨ 14 < x) : rf d 157 13 ls (.int x :: s) h = rf d 157 178 ls s h := g_tabd (okD_ok sw157_13) (by decide) (by decide) hx rfl
theorem sw159_52 : okD 159 52 (.tableswitch (59) (0) (2) #[28, 35, 43]) 28 = true := by decide +kernel
theorem e159_52_0 : rf d 159 52 ls (.int 0 :: s) h = rf d 159 80 ls s h := rf_pure (okD_ok sw159_52) rfl
theorem e159_52_1 : rf d 159 52 ls (.int 1 :: s) h = rf d 159 87 ls s h := rf_pure (okD_ok sw159_52) rfl
theorem e159_52_2 : rf d 159 52 ls (.int 2 :: s) h = rf d 159 95 ls s h := rf_pure (okD_ok sw159_52) rfl
theorem e159_52_d (hx : x < 0 ∨ 2 < x) : rf d 159 52 ls (.int x :: s) h = rf d 159 111 ls s h := g_tabd (okD_ok sw159_52) (by decide) (by decide) hx rfl
theorem sw167_1 : okD 167 1 (.tableswitch (39) (0) (2) #[27, 31, 35]) 27 = true := by decide +kernel
theorem e167_1_0 : rf d 167 1 ls (.int 0 :: s) h = rf d 167 28 ls s h := rf_pure (okD_ok sw167_1) rfl
theorem e167_1_1 : rf d 167 1 ls (.int 1 :: s) h = rf d 167 32 ls s h := rf_pure (okD_ok sw167_1) rfl
theorem e167_1_2 : rf d 167 1 ls (.int 2 :: s) h = rf d 167 36 ls s h := rf_pure (okD_ok sw167_1) rfl
theorem e167_1_d (hx : x < 0 ∨ 2 < x) : rf d 167 1 ls (.int x :: s) h = rf d 167 40 ls s h := g_tabd (okD_ok sw167_1) (by decide) (by decide) hx rfl
theorem sw265_41 : okD 265 41 (.tableswitch (191) (0) (13) #[71, 78, 85, 92, 99, 106, 113, 120, 137, 144, 151, 160, 171, 180]) 71 = true := by decide +kernel
theorem e265_41_0 : rf d 265 41 ls (.int 0 :: s) h = rf d 265 112 ls s h := rf_pure (okD_ok sw265_41) rfl
theorem e265_41_1 : rf d 265 41 ls (.int 1 :: s) h = rf d 265 119 ls s h := rf_pure (okD_ok sw265_41) rfl
theorem e265_41_2 : rf d 265 41 ls (.int 2 :: s) h = rf d 265 126 ls s h := rf_pure (okD_ok sw265_41) rfl
theorem e265_41_3 : rf d 265 41 ls (.int 3 :: s) h = rf d 265 133 ls s h := rf_pure (okD_ok sw265_41) rfl
theorem e265_41_4 : rf d 265 41 ls (.int 4 :: s) h = rf d 265 140 ls s h := rf_pure (okD_ok sw265_41) rfl
theorem e265_41_5 : rf d 265 41 ls (.int 5 :: s) h = rf d 265 147 ls s h := rf_pure (okD_ok sw265_41) rfl
theorem e265_41_6 : rf d 265 41 ls (.int 6 :: s) h = rf d 265 154 ls s h := rf_pure (okD_ok sw265_41) rfl
theorem e265_41_7 : rf d 265 41 ls (.int 7 :: s) h = rf d 265 161 ls s h := rf_pure (okD_ok sw265_41) rfl
theorem e265_41_8 : rf d 265 41 ls (.int 8 :: s) h = rf d 265 178 ls s h := rf_pure (okD_ok sw265_41) rfl
theorem e265_41_9 : rf d 265 41 ls (.int 9 :: s) h = rf d 265 185 ls s h := rf_pure (okD_ok sw265_41) rfl
theorem e265_41_10 : rf d 265 41 ls (.int 10 :: s) h = rf d 265 192 ls s h := rf_pure (okD_ok sw265_41) rfl
theorem e265_41_11 : rf d 265 41 ls (.int 11 :: s) h = rf d 265 201 ls s h := rf_pure (okD_ok sw265_41) rfl
theorem e265_41_12 : rf d 265 41 ls (.int 12 :: s) h = rf d 265 212 ls s h := rf_pure (okD_ok sw265_41) rfl
theorem e265_41_13 : rf d 265 41 ls (.int 13 :: s) h = rf d 265 221 ls s h := rf_pure (okD_ok sw265_41) rfl
theorem e265_41_d (hx : x < 0 ∨ 13 < x) : rf d 265 41 ls (.int x :: s) h = rf d 265 232 ls s h := g_tabd (okD_ok sw265_41) (by decide) (by decide) hx rfl
theorem sw283_77 : okD 283 77 (.tableswitch (101) (0) (10) #[59, 64, 69, 74, 76, 83, 85, 87, 89, 91, 96]) 59 = true := by decide +kernel
theorem e283_77_0 : rf d 283 77 ls (.int 0 :: s) h = rf d 283 136 ls s h := rf_pure (okD_ok sw283_77) rfl
theorem e283_77_1 : rf d 283 77 ls (.int 1 :: s) h = rf d 283 141 ls s h := rf_pure (okD_ok sw283_77) rfl
theorem e283_77_2 : rf d 283 77 ls (.int 2 :: s) h = rf d 283 146 ls s h := rf_pure (okD_ok sw283_77) rfl
theorem e283_77_3 : rf d 283 77 ls (.int 3 :: s) h = rf d 283 151 ls s h := rf_pure (okD_ok sw283_77) rfl
theorem e283_77_4 : rf d 283 77 ls (.int 4 :: s) h = rf d 283 153 ls s h := rf_pure (okD_ok sw283_77) rfl
theorem e283_77_5 : rf d 283 77 ls (.int 5 :: s) h = rf d 283 160 ls s h := rf_pure (okD_ok sw283_77) rfl
theorem e283_77_6 : rf d 283 77 ls (.int 6 :: s) h = rf d 283 162 ls s h := rf_pure (okD_ok sw283_77) rfl
theorem e283_77_7 : rf d 283 77 ls (.int 7 :: s) h = rf d 283 164 ls s h := rf_pure (okD_ok sw283_77) rfl
theorem e283_77_8 : rf d 283 77 ls (.int 8 :: s) h = rf d 283 166 ls s h := rf_pure (okD_ok sw283_77) rfl
theorem e283_77_9 : rf d 283 77 ls (.int 9 :: s) h = rf d 283 168 ls s h := rf_pure (okD_ok sw283_77) rfl
theorem e283_77_10 : rf d 283 77 ls (.int 10 :: s) h = rf d 283 173 ls s h := rf_pure (okD_ok sw283_77) rfl
theorem e283_77_d (hx : x < 0 ∨ 10 < x) : rf d 283 77 ls (.int x :: s) h = rf d 283 178 ls s h := g_tabd (okD_ok sw283_77) (by decide) (by decide) hx rfl
end SWI
