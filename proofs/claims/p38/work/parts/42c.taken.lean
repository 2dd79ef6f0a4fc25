/-! the starts of case 36: shelf by shelf, by what it holds; a taking's kind is a number by name, split by its eight values -/
def zb_lwK : List Nat := [0, 1, 2, 3, 4, 5, 6, 7, 8, 9, 10, 11, 12, 13, 14, 15, 16, 17, 18, 19, 20, 21, 22, 23, 24, 25, 26, 27, 28, 29, 30, 31, 32, 33, 34, 35, 36, 37, 38, 39, 40, 41, 42, 43, 44, 45, 46, 47, 48, 49, 50, 51, 52, 53, 54, 56, 57, 58, 59, 60, 61, 62, 63, 64, 65, 66, 67, 68, 69, 70, 71, 72, 73, 74, 75, 76, 77, 78, 79, 80, 81, 82, 83, 85, 86, 87, 88, 89]
noncomputable def zb_tS (d : Nat) : zb_St := fun b => bif Nat.beq b 2 then some (zb_hk zb_tA (zb_has zb_lwK) (true, []) rf_ms (fun _ _ _ _ => none) 3000 2 17 55 50 (8 + (60 + d)) 186) else bif Nat.beq b 208 then some (zb_hk zb_tA (zb_has zb_lwK) (true, []) rf_ms (fun _ _ _ _ => none) 3000 208 5 84 50 (8 + (60 + d)) 186) else none
noncomputable def zb_tc (d v : Nat) : zb_C := ((List.append (zb_sA d 1).1.1 [(Int.ofNat v, Int.ofNat v)], (zb_sA d 1).1.2), 1198, zb_LC.2.1, [], (zb_sA d 1).2.take 78)
noncomputable def zb_tend (e : Bool × zb_C) : Bool := bif e.1 then false else Nat.beq e.2.2.2.2.2.length 78 && zb_lend (false, e.2.1, e.2.2.1, e.2.2.2.1, e.2.2.2.2.1, List.append e.2.2.2.2.2 (zb_LC.2.2.2.1.drop 78))
noncomputable def zb_ttst (d v : Nat) : Bool := match zb_body zb_tA (zb_has zb_lwK) (true, []) rf_ms (zb_run zb_tA (zb_has zb_lwK) (true, []) rf_ms (zb_tS d) 3000 20) rf_law (fun k => Nat.beq k 18) 3000 true (zb_tc d v) with
  | some cs => cs.all zb_tend
  | none => false
set_option maxRecDepth 100000 in
theorem zb_t0_0 : zb_ttst 0 0 = true := by decide +kernel
set_option maxRecDepth 100000 in
theorem zb_t0_1 : zb_ttst 0 1 = true := by decide +kernel
set_option maxRecDepth 100000 in
theorem zb_t0_2 : zb_ttst 0 2 = true := by decide +kernel
set_option maxRecDepth 100000 in
theorem zb_t0_3 : zb_ttst 0 3 = true := by decide +kernel
set_option maxRecDepth 100000 in
theorem zb_t0_4 : zb_ttst 0 4 = true := by decide +kernel
set_option maxRecDepth 100000 in
theorem zb_t0_5 : zb_ttst 0 5 = true := by decide +kernel
set_option maxRecDepth 100000 in
theorem zb_t0_6 : zb_ttst 0 6 = true := by decide +kernel
set_option maxRecDepth 100000 in
theorem zb_t0_7 : zb_ttst 0 7 = true := by decide +kernel
set_option maxRecDepth 100000 in
theorem zb_t1_0 : zb_ttst 1 0 = true := by decide +kernel
set_option maxRecDepth 100000 in
theorem zb_t1_1 : zb_ttst 1 1 = true := by decide +kernel
set_option maxRecDepth 100000 in
theorem zb_t1_2 : zb_ttst 1 2 = true := by decide +kernel
set_option maxRecDepth 100000 in
theorem zb_t1_3 : zb_ttst 1 3 = true := by decide +kernel
set_option maxRecDepth 100000 in
theorem zb_t1_4 : zb_ttst 1 4 = true := by decide +kernel
set_option maxRecDepth 100000 in
theorem zb_t1_5 : zb_ttst 1 5 = true := by decide +kernel
set_option maxRecDepth 100000 in
theorem zb_t1_6 : zb_ttst 1 6 = true := by decide +kernel
set_option maxRecDepth 100000 in
theorem zb_t1_7 : zb_ttst 1 7 = true := by decide +kernel
set_option maxRecDepth 100000 in
theorem zb_t2_0 : zb_ttst 2 0 = true := by decide +kernel
set_option maxRecDepth 100000 in
theorem zb_t2_1 : zb_ttst 2 1 = true := by decide +kernel
set_option maxRecDepth 100000 in
theorem zb_t2_2 : zb_ttst 2 2 = true := by decide +kernel
set_option maxRecDepth 100000 in
theorem zb_t2_3 : zb_ttst 2 3 = true := by decide +kernel
set_option maxRecDepth 100000 in
theorem zb_t2_4 : zb_ttst 2 4 = true := by decide +kernel
set_option maxRecDepth 100000 in
theorem zb_t2_5 : zb_ttst 2 5 = true := by decide +kernel
set_option maxRecDepth 100000 in
theorem zb_t2_6 : zb_ttst 2 6 = true := by decide +kernel
set_option maxRecDepth 100000 in
theorem zb_t2_7 : zb_ttst 2 7 = true := by decide +kernel
set_option maxRecDepth 100000 in
theorem zb_t3_0 : zb_ttst 3 0 = true := by decide +kernel
set_option maxRecDepth 100000 in
theorem zb_t3_1 : zb_ttst 3 1 = true := by decide +kernel
set_option maxRecDepth 100000 in
theorem zb_t3_2 : zb_ttst 3 2 = true := by decide +kernel
set_option maxRecDepth 100000 in
theorem zb_t3_3 : zb_ttst 3 3 = true := by decide +kernel
set_option maxRecDepth 100000 in
theorem zb_t3_4 : zb_ttst 3 4 = true := by decide +kernel
set_option maxRecDepth 100000 in
theorem zb_t3_5 : zb_ttst 3 5 = true := by decide +kernel
set_option maxRecDepth 100000 in
theorem zb_t3_6 : zb_ttst 3 6 = true := by decide +kernel
set_option maxRecDepth 100000 in
theorem zb_t3_7 : zb_ttst 3 7 = true := by decide +kernel
set_option maxRecDepth 100000 in
theorem zb_t4_0 : zb_ttst 4 0 = true := by decide +kernel
set_option maxRecDepth 100000 in
theorem zb_t4_1 : zb_ttst 4 1 = true := by decide +kernel
set_option maxRecDepth 100000 in
theorem zb_t4_2 : zb_ttst 4 2 = true := by decide +kernel
set_option maxRecDepth 100000 in
theorem zb_t4_3 : zb_ttst 4 3 = true := by decide +kernel
set_option maxRecDepth 100000 in
theorem zb_t4_4 : zb_ttst 4 4 = true := by decide +kernel
set_option maxRecDepth 100000 in
theorem zb_t4_5 : zb_ttst 4 5 = true := by decide +kernel
set_option maxRecDepth 100000 in
theorem zb_t4_6 : zb_ttst 4 6 = true := by decide +kernel
set_option maxRecDepth 100000 in
theorem zb_t4_7 : zb_ttst 4 7 = true := by decide +kernel
set_option maxRecDepth 100000 in
theorem zb_t5_0 : zb_ttst 5 0 = true := by decide +kernel
set_option maxRecDepth 100000 in
theorem zb_t5_1 : zb_ttst 5 1 = true := by decide +kernel
set_option maxRecDepth 100000 in
theorem zb_t5_2 : zb_ttst 5 2 = true := by decide +kernel
set_option maxRecDepth 100000 in
theorem zb_t5_3 : zb_ttst 5 3 = true := by decide +kernel
set_option maxRecDepth 100000 in
theorem zb_t5_4 : zb_ttst 5 4 = true := by decide +kernel
set_option maxRecDepth 100000 in
theorem zb_t5_5 : zb_ttst 5 5 = true := by decide +kernel
set_option maxRecDepth 100000 in
theorem zb_t5_6 : zb_ttst 5 6 = true := by decide +kernel
set_option maxRecDepth 100000 in
theorem zb_t5_7 : zb_ttst 5 7 = true := by decide +kernel
theorem zb_tall : ∀ d, d < 6 → ∀ v, v < 8 → zb_ttst d v = true := by
  intro d hd v hv
  have h6 : d = 0 ∨ d = 1 ∨ d = 2 ∨ d = 3 ∨ d = 4 ∨ d = 5 := by omega
  have h8 : v = 0 ∨ v = 1 ∨ v = 2 ∨ v = 3 ∨ v = 4 ∨ v = 5 ∨ v = 6 ∨ v = 7 := by omega
  rcases h6 with rfl | rfl | rfl | rfl | rfl | rfl <;> rcases h8 with rfl | rfl | rfl | rfl | rfl | rfl | rfl | rfl
  · exact zb_t0_0
  · exact zb_t0_1
  · exact zb_t0_2
  · exact zb_t0_3
  · exact zb_t0_4
  · exact zb_t0_5
  · exact zb_t0_6
  · exact zb_t0_7
  · exact zb_t1_0
  · exact zb_t1_1
  · exact zb_t1_2
  · exact zb_t1_3
  · exact zb_t1_4
  · exact zb_t1_5
  · exact zb_t1_6
  · exact zb_t1_7
  · exact zb_t2_0
  · exact zb_t2_1
  · exact zb_t2_2
  · exact zb_t2_3
  · exact zb_t2_4
  · exact zb_t2_5
  · exact zb_t2_6
  · exact zb_t2_7
  · exact zb_t3_0
  · exact zb_t3_1
  · exact zb_t3_2
  · exact zb_t3_3
  · exact zb_t3_4
  · exact zb_t3_5
  · exact zb_t3_6
  · exact zb_t3_7
  · exact zb_t4_0
  · exact zb_t4_1
  · exact zb_t4_2
  · exact zb_t4_3
  · exact zb_t4_4
  · exact zb_t4_5
  · exact zb_t4_6
  · exact zb_t4_7
  · exact zb_t5_0
  · exact zb_t5_1
  · exact zb_t5_2
  · exact zb_t5_3
  · exact zb_t5_4
  · exact zb_t5_5
  · exact zb_t5_6
  · exact zb_t5_7
set_option maxRecDepth 100000 in
theorem zb_tN : zb_every (fun c => zb_ctst 1198 c) zb_stN = true := by decide +kernel
