/-! THE PICTURE MACHINE, 18: what the Statement gives at the start is the world that it needs -/
/-- String constants in the Statement's order: class, pool number, text, whether it is said to be the text's first one -/
def ip_se : List (Nat × Nat × Nat × Bool) := [(4, 159, 0, false), (7, 88, 1, false), (7, 389, 2, false), (7, 114, 3, false), (7, 396, 4, false), (7, 131, 5, false), (7, 394, 6, false), (7, 136, 7, false), (7, 149, 8, false), (7, 168, 9, false), (7, 177, 10, false), (7, 398, 11, false), (7, 408, 12, false), (7, 402, 13, false), (7, 204, 14, false), (7, 392, 15, false), (7, 400, 16, false), (7, 259, 17, false), (7, 274, 18, false), (7, 304, 19, false), (7, 316, 20, false), (7, 318, 21, false), (7, 320, 22, false), (7, 335, 23, false), (7, 337, 24, false), (7, 339, 25, false), (7, 341, 26, false), (7, 349, 27, false), (8, 177, 28, false), (8, 179, 29, false), (8, 181, 30, false), (8, 183, 31, false), (8, 185, 32, false), (8, 186, 33, false), (8, 188, 21, true), (8, 190, 22, true), (8, 192, 34, false), (8, 194, 35, false), (8, 196, 36, false), (8, 198, 37, false), (8, 200, 38, false), (8, 450, 20, true), (8, 456, 23, true), (8, 458, 24, true), (8, 460, 25, true), (8, 462, 26, true)]
/-- the first constant of each text -/
def ip_sr : List (Nat × Nat) := [(4, 159), (7, 88), (7, 389), (7, 114), (7, 396), (7, 131), (7, 394), (7, 136), (7, 149), (7, 168), (7, 177), (7, 398), (7, 408), (7, 402), (7, 204), (7, 392), (7, 400), (7, 259), (7, 274), (7, 304), (7, 316), (7, 318), (7, 320), (7, 335), (7, 337), (7, 339), (7, 341), (7, 349), (8, 177), (8, 179), (8, 181), (8, 183), (8, 185), (8, 186), (8, 192), (8, 194), (8, 196), (8, 198), (8, 200)]
def ip_tm (own idx : Nat) : Term := .string (ip_cn.getD own "") idx
def ip_sc (e : Nat × Nat × Nat × Bool) : List Cond :=
  [.exactly (ip_tm e.1 e.2.1) "java/lang/String", .eq (.field (ip_tm e.1 e.2.1) "java/lang/String" "coder" "B") (.int 0), .arrayOf (.field (ip_tm e.1 e.2.1) "java/lang/String" "value" "[B") .byte, .eq (.length (.field (ip_tm e.1 e.2.1) "java/lang/String" "value" "[B")) (.int (Int32.ofNat (ip_len.getD e.2.2.1 0)))] ++
  ((List.range (ip_len.getD e.2.2.1 0)).map (fun j => Cond.eq (.elem (.field (ip_tm e.1 e.2.1) "java/lang/String" "value" "[B") (.int (Int32.ofNat j))) (.int ((ip_byt.getD e.2.2.1 []).getD j 0))) ++
  (match e.2.2.2 with
    | true => [.eq (ip_tm (ip_sr.getD e.2.2.1 (0, 0)).1 (ip_sr.getD e.2.2.1 (0, 0)).2) (ip_tm e.1 e.2.1)]
    | false => []))
set_option maxRecDepth 100000 in
theorem ip_se_ok : (flatC narrow_1).drop 66 = ip_se.flatMap ip_sc := by decide +kernel
theorem ip_sc_in {e : Nat × Nat × Nat × Bool} (he : e ∈ ip_se) {w : Cond} (hw : w ∈ ip_sc e) : w ∈ flatC narrow_1 := by
  have h1 : w ∈ (flatC narrow_1).drop 66 := by
    rw [ip_se_ok]
    exact List.mem_flatMap.mpr ⟨e, he, hw⟩
  exact List.mem_of_mem_drop h1
/-- each constant is in the list; each text's first one too -/
theorem ip_se_all : ip_sl.all (fun x => ip_se.any (fun e => e.1 == x.1 && e.2.1 == x.2.1 && e.2.2.1 == x.2.2.1)) = true := by decide +kernel
theorem ip_sr_all : (List.range 39).all (fun i => ip_se.any (fun e => e.1 == (ip_sr.getD i (0, 0)).1 && e.2.1 == (ip_sr.getD i (0, 0)).2 && e.2.2.1 == i)) = true := by decide +kernel
theorem ip_se_first : ip_se.all (fun e => e.2.2.2 || decide ((e.1, e.2.1) = ip_sr.getD e.2.2.1 (0, 0))) = true := by decide +kernel
theorem ip_len_lt : (List.range 39).all (fun i => decide (ip_len.getD i 0 < 2 ^ 31)) = true := by decide +kernel
