/-! tests: shift -/
set_option maxRecDepth 100000 in
theorem zc_g35_low : zc_gtst 1135 (zc_na 2 (zb_lo32, -1) (zc_c0)) = true := by decide +kernel
set_option maxRecDepth 100000 in
theorem zc_g35_high : zc_gtst 1135 (zc_na 2 (6, zb_hi32) (zc_c0)) = true := by decide +kernel
set_option maxRecDepth 100000 in
theorem zc_g35l_0 : zc_gtst 1135 (zc_na 4 (zb_lo32, -1) (zc_cd 0)) = true := by decide +kernel
set_option maxRecDepth 100000 in
theorem zc_g35l_1 : zc_gtst 1135 (zc_na 4 (zb_lo32, -1) (zc_cd 1)) = true := by decide +kernel
set_option maxRecDepth 100000 in
theorem zc_g35l_2 : zc_gtst 1135 (zc_na 4 (zb_lo32, -1) (zc_cd 2)) = true := by decide +kernel
set_option maxRecDepth 100000 in
theorem zc_g35l_3 : zc_gtst 1135 (zc_na 4 (zb_lo32, -1) (zc_cd 3)) = true := by decide +kernel
set_option maxRecDepth 100000 in
theorem zc_g35l_4 : zc_gtst 1135 (zc_na 4 (zb_lo32, -1) (zc_cd 4)) = true := by decide +kernel
set_option maxRecDepth 100000 in
theorem zc_g35l_5 : zc_gtst 1135 (zc_na 4 (zb_lo32, -1) (zc_cd 5)) = true := by decide +kernel
theorem zc_g35l : ∀ d, d < 6 → zc_gtst 1135 (zc_na 4 (zb_lo32, -1) (zc_cd d)) = true := by
  intro d hd
  have h6 : d = 0 ∨ d = 1 ∨ d = 2 ∨ d = 3 ∨ d = 4 ∨ d = 5 := by omega
  rcases h6 with rfl | rfl | rfl | rfl | rfl | rfl
  · exact zc_g35l_0
  · exact zc_g35l_1
  · exact zc_g35l_2
  · exact zc_g35l_3
  · exact zc_g35l_4
  · exact zc_g35l_5
set_option maxRecDepth 100000 in
theorem zc_g35h_0 : zc_gtst 1135 (zc_na 4 (6, zb_hi32) (zc_cd 0)) = true := by decide +kernel
set_option maxRecDepth 100000 in
theorem zc_g35h_1 : zc_gtst 1135 (zc_na 4 (6, zb_hi32) (zc_cd 1)) = true := by decide +kernel
set_option maxRecDepth 100000 in
theorem zc_g35h_2 : zc_gtst 1135 (zc_na 4 (6, zb_hi32) (zc_cd 2)) = true := by decide +kernel
set_option maxRecDepth 100000 in
theorem zc_g35h_3 : zc_gtst 1135 (zc_na 4 (6, zb_hi32) (zc_cd 3)) = true := by decide +kernel
set_option maxRecDepth 100000 in
theorem zc_g35h_4 : zc_gtst 1135 (zc_na 4 (6, zb_hi32) (zc_cd 4)) = true := by decide +kernel
set_option maxRecDepth 100000 in
theorem zc_g35h_5 : zc_gtst 1135 (zc_na 4 (6, zb_hi32) (zc_cd 5)) = true := by decide +kernel
theorem zc_g35h : ∀ d, d < 6 → zc_gtst 1135 (zc_na 4 (6, zb_hi32) (zc_cd d)) = true := by
  intro d hd
  have h6 : d = 0 ∨ d = 1 ∨ d = 2 ∨ d = 3 ∨ d = 4 ∨ d = 5 := by omega
  rcases h6 with rfl | rfl | rfl | rfl | rfl | rfl
  · exact zc_g35h_0
  · exact zc_g35h_1
  · exact zc_g35h_2
  · exact zc_g35h_3
  · exact zc_g35h_4
  · exact zc_g35h_5
set_option maxRecDepth 100000 in
theorem zc_g35e_0 : zc_gtst 1135 (zc_na 4 (0, 5) (zc_rs 0 0 (zc_cd 0))) = true := by decide +kernel
set_option maxRecDepth 100000 in
theorem zc_g35e_1 : zc_gtst 1135 (zc_na 4 (0, 5) (zc_rs 1 0 (zc_cd 1))) = true := by decide +kernel
set_option maxRecDepth 100000 in
theorem zc_g35e_2 : zc_gtst 1135 (zc_na 4 (0, 5) (zc_rs 2 0 (zc_cd 2))) = true := by decide +kernel
set_option maxRecDepth 100000 in
theorem zc_g35e_3 : zc_gtst 1135 (zc_na 4 (0, 5) (zc_rs 3 0 (zc_cd 3))) = true := by decide +kernel
set_option maxRecDepth 100000 in
theorem zc_g35e_4 : zc_gtst 1135 (zc_na 4 (0, 5) (zc_rs 4 0 (zc_cd 4))) = true := by decide +kernel
set_option maxRecDepth 100000 in
theorem zc_g35e_5 : zc_gtst 1135 (zc_na 4 (0, 5) (zc_rs 5 0 (zc_cd 5))) = true := by decide +kernel
theorem zc_g35e : ∀ d, d < 6 → zc_gtst 1135 (zc_na 4 (0, 5) (zc_rs d 0 (zc_cd d))) = true := by
  intro d hd
  have h6 : d = 0 ∨ d = 1 ∨ d = 2 ∨ d = 3 ∨ d = 4 ∨ d = 5 := by omega
  rcases h6 with rfl | rfl | rfl | rfl | rfl | rfl
  · exact zc_g35e_0
  · exact zc_g35e_1
  · exact zc_g35e_2
  · exact zc_g35e_3
  · exact zc_g35e_4
  · exact zc_g35e_5
set_option maxRecDepth 100000 in
theorem zc_g35s_0_1 : zc_gtst 1135 (zc_na 4 (Int.ofNat 0, Int.ofNat 0) (zc_rs 0 1 (zc_cd 0))) = true := by decide +kernel
set_option maxRecDepth 100000 in
theorem zc_g35s_0_2 : zc_gtst 1135 (zc_na 4 (Int.ofNat 0, Int.ofNat 0) (zc_rs 0 2 (zc_cd 0))) = true := by decide +kernel
set_option maxRecDepth 100000 in
theorem zc_g35s_1_1 : zc_gtst 1135 (zc_na 4 (Int.ofNat 1, Int.ofNat 1) (zc_rs 1 1 (zc_cd 1))) = true := by decide +kernel
set_option maxRecDepth 100000 in
theorem zc_g35s_1_2 : zc_gtst 1135 (zc_na 4 (Int.ofNat 1, Int.ofNat 1) (zc_rs 1 2 (zc_cd 1))) = true := by decide +kernel
set_option maxRecDepth 100000 in
theorem zc_g35s_2_1 : zc_gtst 1135 (zc_na 4 (Int.ofNat 2, Int.ofNat 2) (zc_rs 2 1 (zc_cd 2))) = true := by decide +kernel
set_option maxRecDepth 100000 in
theorem zc_g35s_2_2 : zc_gtst 1135 (zc_na 4 (Int.ofNat 2, Int.ofNat 2) (zc_rs 2 2 (zc_cd 2))) = true := by decide +kernel
set_option maxRecDepth 100000 in
theorem zc_g35s_3_1 : zc_gtst 1135 (zc_na 4 (Int.ofNat 3, Int.ofNat 3) (zc_rs 3 1 (zc_cd 3))) = true := by decide +kernel
set_option maxRecDepth 100000 in
theorem zc_g35s_3_2 : zc_gtst 1135 (zc_na 4 (Int.ofNat 3, Int.ofNat 3) (zc_rs 3 2 (zc_cd 3))) = true := by decide +kernel
set_option maxRecDepth 100000 in
theorem zc_g35s_4_1 : zc_gtst 1135 (zc_na 4 (Int.ofNat 4, Int.ofNat 4) (zc_rs 4 1 (zc_cd 4))) = true := by decide +kernel
set_option maxRecDepth 100000 in
theorem zc_g35s_4_2 : zc_gtst 1135 (zc_na 4 (Int.ofNat 4, Int.ofNat 4) (zc_rs 4 2 (zc_cd 4))) = true := by decide +kernel
set_option maxRecDepth 100000 in
theorem zc_g35s_5_1 : zc_gtst 1135 (zc_na 4 (Int.ofNat 5, Int.ofNat 5) (zc_rs 5 1 (zc_cd 5))) = true := by decide +kernel
set_option maxRecDepth 100000 in
theorem zc_g35s_5_2 : zc_gtst 1135 (zc_na 4 (Int.ofNat 5, Int.ofNat 5) (zc_rs 5 2 (zc_cd 5))) = true := by decide +kernel
theorem zc_g35s : ∀ d, d < 6 → ∀ al, (al = 1 ∨ al = 2) → zc_gtst 1135 (zc_na 4 (Int.ofNat d, Int.ofNat d) (zc_rs d al (zc_cd d))) = true := by
  intro d hd al ha
  have h6 : d = 0 ∨ d = 1 ∨ d = 2 ∨ d = 3 ∨ d = 4 ∨ d = 5 := by omega
  rcases h6 with rfl | rfl | rfl | rfl | rfl | rfl <;> rcases ha with rfl | rfl
  · exact zc_g35s_0_1
  · exact zc_g35s_0_2
  · exact zc_g35s_1_1
  · exact zc_g35s_1_2
  · exact zc_g35s_2_1
  · exact zc_g35s_2_2
  · exact zc_g35s_3_1
  · exact zc_g35s_3_2
  · exact zc_g35s_4_1
  · exact zc_g35s_4_2
  · exact zc_g35s_5_1
  · exact zc_g35s_5_2
set_option maxRecDepth 100000 in
theorem zc_g35_0_1_1_0 : zc_gtst 1135 (zc_rs 1 0 (zc_na 4 (Int.ofNat 1, Int.ofNat 1) (zc_rs 0 1 (zc_cd 0)))) = true := by decide +kernel
set_option maxRecDepth 100000 in
theorem zc_g35_0_1_1_1 : zc_gtst 1135 (zc_rs 1 1 (zc_na 4 (Int.ofNat 1, Int.ofNat 1) (zc_rs 0 1 (zc_cd 0)))) = true := by decide +kernel
set_option maxRecDepth 100000 in
theorem zc_g35_0_1_1_2 : zc_gtst 1135 (zc_rs 1 2 (zc_na 4 (Int.ofNat 1, Int.ofNat 1) (zc_rs 0 1 (zc_cd 0)))) = true := by decide +kernel
set_option maxRecDepth 100000 in
theorem zc_g35_0_1_2_0 : zc_gtst 1135 (zc_rs 1 0 (zc_na 4 (Int.ofNat 1, Int.ofNat 1) (zc_rs 0 2 (zc_cd 0)))) = true := by decide +kernel
set_option maxRecDepth 100000 in
theorem zc_g35_0_1_2_1 : zc_gtst 1135 (zc_rs 1 1 (zc_na 4 (Int.ofNat 1, Int.ofNat 1) (zc_rs 0 2 (zc_cd 0)))) = true := by decide +kernel
set_option maxRecDepth 100000 in
theorem zc_g35_0_1_2_2 : zc_gtst 1135 (zc_rs 1 2 (zc_na 4 (Int.ofNat 1, Int.ofNat 1) (zc_rs 0 2 (zc_cd 0)))) = true := by decide +kernel
set_option maxRecDepth 100000 in
theorem zc_g35_0_2_1_0 : zc_gtst 1135 (zc_rs 2 0 (zc_na 4 (Int.ofNat 2, Int.ofNat 2) (zc_rs 0 1 (zc_cd 0)))) = true := by decide +kernel
set_option maxRecDepth 100000 in
theorem zc_g35_0_2_1_1 : zc_gtst 1135 (zc_rs 2 1 (zc_na 4 (Int.ofNat 2, Int.ofNat 2) (zc_rs 0 1 (zc_cd 0)))) = true := by decide +kernel
set_option maxRecDepth 100000 in
theorem zc_g35_0_2_1_2 : zc_gtst 1135 (zc_rs 2 2 (zc_na 4 (Int.ofNat 2, Int.ofNat 2) (zc_rs 0 1 (zc_cd 0)))) = true := by decide +kernel
set_option maxRecDepth 100000 in
theorem zc_g35_0_2_2_0 : zc_gtst 1135 (zc_rs 2 0 (zc_na 4 (Int.ofNat 2, Int.ofNat 2) (zc_rs 0 2 (zc_cd 0)))) = true := by decide +kernel
set_option maxRecDepth 100000 in
theorem zc_g35_0_2_2_1 : zc_gtst 1135 (zc_rs 2 1 (zc_na 4 (Int.ofNat 2, Int.ofNat 2) (zc_rs 0 2 (zc_cd 0)))) = true := by decide +kernel
set_option maxRecDepth 100000 in
theorem zc_g35_0_2_2_2 : zc_gtst 1135 (zc_rs 2 2 (zc_na 4 (Int.ofNat 2, Int.ofNat 2) (zc_rs 0 2 (zc_cd 0)))) = true := by decide +kernel
set_option maxRecDepth 100000 in
theorem zc_g35_0_3_1_0 : zc_gtst 1135 (zc_rs 3 0 (zc_na 4 (Int.ofNat 3, Int.ofNat 3) (zc_rs 0 1 (zc_cd 0)))) = true := by decide +kernel
set_option maxRecDepth 100000 in
theorem zc_g35_0_3_1_1 : zc_gtst 1135 (zc_rs 3 1 (zc_na 4 (Int.ofNat 3, Int.ofNat 3) (zc_rs 0 1 (zc_cd 0)))) = true := by decide +kernel
set_option maxRecDepth 100000 in
theorem zc_g35_0_3_1_2 : zc_gtst 1135 (zc_rs 3 2 (zc_na 4 (Int.ofNat 3, Int.ofNat 3) (zc_rs 0 1 (zc_cd 0)))) = true := by decide +kernel
set_option maxRecDepth 100000 in
theorem zc_g35_0_3_2_0 : zc_gtst 1135 (zc_rs 3 0 (zc_na 4 (Int.ofNat 3, Int.ofNat 3) (zc_rs 0 2 (zc_cd 0)))) = true := by decide +kernel
set_option maxRecDepth 100000 in
theorem zc_g35_0_3_2_1 : zc_gtst 1135 (zc_rs 3 1 (zc_na 4 (Int.ofNat 3, Int.ofNat 3) (zc_rs 0 2 (zc_cd 0)))) = true := by decide +kernel
set_option maxRecDepth 100000 in
theorem zc_g35_0_3_2_2 : zc_gtst 1135 (zc_rs 3 2 (zc_na 4 (Int.ofNat 3, Int.ofNat 3) (zc_rs 0 2 (zc_cd 0)))) = true := by decide +kernel
set_option maxRecDepth 100000 in
theorem zc_g35_0_4_1_0 : zc_gtst 1135 (zc_rs 4 0 (zc_na 4 (Int.ofNat 4, Int.ofNat 4) (zc_rs 0 1 (zc_cd 0)))) = true := by decide +kernel
set_option maxRecDepth 100000 in
theorem zc_g35_0_4_1_1 : zc_gtst 1135 (zc_rs 4 1 (zc_na 4 (Int.ofNat 4, Int.ofNat 4) (zc_rs 0 1 (zc_cd 0)))) = true := by decide +kernel
set_option maxRecDepth 100000 in
theorem zc_g35_0_4_1_2 : zc_gtst 1135 (zc_rs 4 2 (zc_na 4 (Int.ofNat 4, Int.ofNat 4) (zc_rs 0 1 (zc_cd 0)))) = true := by decide +kernel
set_option maxRecDepth 100000 in
theorem zc_g35_0_4_2_0 : zc_gtst 1135 (zc_rs 4 0 (zc_na 4 (Int.ofNat 4, Int.ofNat 4) (zc_rs 0 2 (zc_cd 0)))) = true := by decide +kernel
set_option maxRecDepth 100000 in
theorem zc_g35_0_4_2_1 : zc_gtst 1135 (zc_rs 4 1 (zc_na 4 (Int.ofNat 4, Int.ofNat 4) (zc_rs 0 2 (zc_cd 0)))) = true := by decide +kernel
set_option maxRecDepth 100000 in
theorem zc_g35_0_4_2_2 : zc_gtst 1135 (zc_rs 4 2 (zc_na 4 (Int.ofNat 4, Int.ofNat 4) (zc_rs 0 2 (zc_cd 0)))) = true := by decide +kernel
set_option maxRecDepth 100000 in
theorem zc_g35_0_5_1_0 : zc_gtst 1135 (zc_rs 5 0 (zc_na 4 (Int.ofNat 5, Int.ofNat 5) (zc_rs 0 1 (zc_cd 0)))) = true := by decide +kernel
set_option maxRecDepth 100000 in
theorem zc_g35_0_5_1_1 : zc_gtst 1135 (zc_rs 5 1 (zc_na 4 (Int.ofNat 5, Int.ofNat 5) (zc_rs 0 1 (zc_cd 0)))) = true := by decide +kernel
set_option maxRecDepth 100000 in
theorem zc_g35_0_5_1_2 : zc_gtst 1135 (zc_rs 5 2 (zc_na 4 (Int.ofNat 5, Int.ofNat 5) (zc_rs 0 1 (zc_cd 0)))) = true := by decide +kernel
set_option maxRecDepth 100000 in
theorem zc_g35_0_5_2_0 : zc_gtst 1135 (zc_rs 5 0 (zc_na 4 (Int.ofNat 5, Int.ofNat 5) (zc_rs 0 2 (zc_cd 0)))) = true := by decide +kernel
set_option maxRecDepth 100000 in
theorem zc_g35_0_5_2_1 : zc_gtst 1135 (zc_rs 5 1 (zc_na 4 (Int.ofNat 5, Int.ofNat 5) (zc_rs 0 2 (zc_cd 0)))) = true := by decide +kernel
set_option maxRecDepth 100000 in
theorem zc_g35_0_5_2_2 : zc_gtst 1135 (zc_rs 5 2 (zc_na 4 (Int.ofNat 5, Int.ofNat 5) (zc_rs 0 2 (zc_cd 0)))) = true := by decide +kernel
set_option maxRecDepth 100000 in
theorem zc_g35_1_0_1_0 : zc_gtst 1135 (zc_rs 0 0 (zc_na 4 (Int.ofNat 0, Int.ofNat 0) (zc_rs 1 1 (zc_cd 1)))) = true := by decide +kernel
set_option maxRecDepth 100000 in
theorem zc_g35_1_0_1_1 : zc_gtst 1135 (zc_rs 0 1 (zc_na 4 (Int.ofNat 0, Int.ofNat 0) (zc_rs 1 1 (zc_cd 1)))) = true := by decide +kernel
set_option maxRecDepth 100000 in
theorem zc_g35_1_0_1_2 : zc_gtst 1135 (zc_rs 0 2 (zc_na 4 (Int.ofNat 0, Int.ofNat 0) (zc_rs 1 1 (zc_cd 1)))) = true := by decide +kernel
set_option maxRecDepth 100000 in
theorem zc_g35_1_0_2_0 : zc_gtst 1135 (zc_rs 0 0 (zc_na 4 (Int.ofNat 0, Int.ofNat 0) (zc_rs 1 2 (zc_cd 1)))) = true := by decide +kernel
set_option maxRecDepth 100000 in
theorem zc_g35_1_0_2_1 : zc_gtst 1135 (zc_rs 0 1 (zc_na 4 (Int.ofNat 0, Int.ofNat 0) (zc_rs 1 2 (zc_cd 1)))) = true := by decide +kernel
set_option maxRecDepth 100000 in
theorem zc_g35_1_0_2_2 : zc_gtst 1135 (zc_rs 0 2 (zc_na 4 (Int.ofNat 0, Int.ofNat 0) (zc_rs 1 2 (zc_cd 1)))) = true := by decide +kernel
set_option maxRecDepth 100000 in
theorem zc_g35_1_2_1_0 : zc_gtst 1135 (zc_rs 2 0 (zc_na 4 (Int.ofNat 2, Int.ofNat 2) (zc_rs 1 1 (zc_cd 1)))) = true := by decide +kernel
set_option maxRecDepth 100000 in
theorem zc_g35_1_2_1_1 : zc_gtst 1135 (zc_rs 2 1 (zc_na 4 (Int.ofNat 2, Int.ofNat 2) (zc_rs 1 1 (zc_cd 1)))) = true := by decide +kernel
set_option maxRecDepth 100000 in
theorem zc_g35_1_2_1_2 : zc_gtst 1135 (zc_rs 2 2 (zc_na 4 (Int.ofNat 2, Int.ofNat 2) (zc_rs 1 1 (zc_cd 1)))) = true := by decide +kernel
set_option maxRecDepth 100000 in
theorem zc_g35_1_2_2_0 : zc_gtst 1135 (zc_rs 2 0 (zc_na 4 (Int.ofNat 2, Int.ofNat 2) (zc_rs 1 2 (zc_cd 1)))) = true := by decide +kernel
set_option maxRecDepth 100000 in
theorem zc_g35_1_2_2_1 : zc_gtst 1135 (zc_rs 2 1 (zc_na 4 (Int.ofNat 2, Int.ofNat 2) (zc_rs 1 2 (zc_cd 1)))) = true := by decide +kernel
set_option maxRecDepth 100000 in
theorem zc_g35_1_2_2_2 : zc_gtst 1135 (zc_rs 2 2 (zc_na 4 (Int.ofNat 2, Int.ofNat 2) (zc_rs 1 2 (zc_cd 1)))) = true := by decide +kernel
set_option maxRecDepth 100000 in
theorem zc_g35_1_3_1_0 : zc_gtst 1135 (zc_rs 3 0 (zc_na 4 (Int.ofNat 3, Int.ofNat 3) (zc_rs 1 1 (zc_cd 1)))) = true := by decide +kernel
set_option maxRecDepth 100000 in
theorem zc_g35_1_3_1_1 : zc_gtst 1135 (zc_rs 3 1 (zc_na 4 (Int.ofNat 3, Int.ofNat 3) (zc_rs 1 1 (zc_cd 1)))) = true := by decide +kernel
set_option maxRecDepth 100000 in
theorem zc_g35_1_3_1_2 : zc_gtst 1135 (zc_rs 3 2 (zc_na 4 (Int.ofNat 3, Int.ofNat 3) (zc_rs 1 1 (zc_cd 1)))) = true := by decide +kernel
set_option maxRecDepth 100000 in
theorem zc_g35_1_3_2_0 : zc_gtst 1135 (zc_rs 3 0 (zc_na 4 (Int.ofNat 3, Int.ofNat 3) (zc_rs 1 2 (zc_cd 1)))) = true := by decide +kernel
set_option maxRecDepth 100000 in
theorem zc_g35_1_3_2_1 : zc_gtst 1135 (zc_rs 3 1 (zc_na 4 (Int.ofNat 3, Int.ofNat 3) (zc_rs 1 2 (zc_cd 1)))) = true := by decide +kernel
set_option maxRecDepth 100000 in
theorem zc_g35_1_3_2_2 : zc_gtst 1135 (zc_rs 3 2 (zc_na 4 (Int.ofNat 3, Int.ofNat 3) (zc_rs 1 2 (zc_cd 1)))) = true := by decide +kernel
set_option maxRecDepth 100000 in
theorem zc_g35_1_4_1_0 : zc_gtst 1135 (zc_rs 4 0 (zc_na 4 (Int.ofNat 4, Int.ofNat 4) (zc_rs 1 1 (zc_cd 1)))) = true := by decide +kernel
set_option maxRecDepth 100000 in
theorem zc_g35_1_4_1_1 : zc_gtst 1135 (zc_rs 4 1 (zc_na 4 (Int.ofNat 4, Int.ofNat 4) (zc_rs 1 1 (zc_cd 1)))) = true := by decide +kernel
set_option maxRecDepth 100000 in
theorem zc_g35_1_4_1_2 : zc_gtst 1135 (zc_rs 4 2 (zc_na 4 (Int.ofNat 4, Int.ofNat 4) (zc_rs 1 1 (zc_cd 1)))) = true := by decide +kernel
set_option maxRecDepth 100000 in
theorem zc_g35_1_4_2_0 : zc_gtst 1135 (zc_rs 4 0 (zc_na 4 (Int.ofNat 4, Int.ofNat 4) (zc_rs 1 2 (zc_cd 1)))) = true := by decide +kernel
set_option maxRecDepth 100000 in
theorem zc_g35_1_4_2_1 : zc_gtst 1135 (zc_rs 4 1 (zc_na 4 (Int.ofNat 4, Int.ofNat 4) (zc_rs 1 2 (zc_cd 1)))) = true := by decide +kernel
set_option maxRecDepth 100000 in
theorem zc_g35_1_4_2_2 : zc_gtst 1135 (zc_rs 4 2 (zc_na 4 (Int.ofNat 4, Int.ofNat 4) (zc_rs 1 2 (zc_cd 1)))) = true := by decide +kernel
set_option maxRecDepth 100000 in
theorem zc_g35_1_5_1_0 : zc_gtst 1135 (zc_rs 5 0 (zc_na 4 (Int.ofNat 5, Int.ofNat 5) (zc_rs 1 1 (zc_cd 1)))) = true := by decide +kernel
set_option maxRecDepth 100000 in
theorem zc_g35_1_5_1_1 : zc_gtst 1135 (zc_rs 5 1 (zc_na 4 (Int.ofNat 5, Int.ofNat 5) (zc_rs 1 1 (zc_cd 1)))) = true := by decide +kernel
set_option maxRecDepth 100000 in
theorem zc_g35_1_5_1_2 : zc_gtst 1135 (zc_rs 5 2 (zc_na 4 (Int.ofNat 5, Int.ofNat 5) (zc_rs 1 1 (zc_cd 1)))) = true := by decide +kernel
set_option maxRecDepth 100000 in
theorem zc_g35_1_5_2_0 : zc_gtst 1135 (zc_rs 5 0 (zc_na 4 (Int.ofNat 5, Int.ofNat 5) (zc_rs 1 2 (zc_cd 1)))) = true := by decide +kernel
set_option maxRecDepth 100000 in
theorem zc_g35_1_5_2_1 : zc_gtst 1135 (zc_rs 5 1 (zc_na 4 (Int.ofNat 5, Int.ofNat 5) (zc_rs 1 2 (zc_cd 1)))) = true := by decide +kernel
set_option maxRecDepth 100000 in
theorem zc_g35_1_5_2_2 : zc_gtst 1135 (zc_rs 5 2 (zc_na 4 (Int.ofNat 5, Int.ofNat 5) (zc_rs 1 2 (zc_cd 1)))) = true := by decide +kernel
set_option maxRecDepth 100000 in
theorem zc_g35_2_0_1_0 : zc_gtst 1135 (zc_rs 0 0 (zc_na 4 (Int.ofNat 0, Int.ofNat 0) (zc_rs 2 1 (zc_cd 2)))) = true := by decide +kernel
set_option maxRecDepth 100000 in
theorem zc_g35_2_0_1_1 : zc_gtst 1135 (zc_rs 0 1 (zc_na 4 (Int.ofNat 0, Int.ofNat 0) (zc_rs 2 1 (zc_cd 2)))) = true := by decide +kernel
set_option maxRecDepth 100000 in
theorem zc_g35_2_0_1_2 : zc_gtst 1135 (zc_rs 0 2 (zc_na 4 (Int.ofNat 0, Int.ofNat 0) (zc_rs 2 1 (zc_cd 2)))) = true := by decide +kernel
set_option maxRecDepth 100000 in
theorem zc_g35_2_0_2_0 : zc_gtst 1135 (zc_rs 0 0 (zc_na 4 (Int.ofNat 0, Int.ofNat 0) (zc_rs 2 2 (zc_cd 2)))) = true := by decide +kernel
set_option maxRecDepth 100000 in
theorem zc_g35_2_0_2_1 : zc_gtst 1135 (zc_rs 0 1 (zc_na 4 (Int.ofNat 0, Int.ofNat 0) (zc_rs 2 2 (zc_cd 2)))) = true := by decide +kernel
set_option maxRecDepth 100000 in
theorem zc_g35_2_0_2_2 : zc_gtst 1135 (zc_rs 0 2 (zc_na 4 (Int.ofNat 0, Int.ofNat 0) (zc_rs 2 2 (zc_cd 2)))) = true := by decide +kernel
set_option maxRecDepth 100000 in
theorem zc_g35_2_1_1_0 : zc_gtst 1135 (zc_rs 1 0 (zc_na 4 (Int.ofNat 1, Int.ofNat 1) (zc_rs 2 1 (zc_cd 2)))) = true := by decide +kernel
set_option maxRecDepth 100000 in
theorem zc_g35_2_1_1_1 : zc_gtst 1135 (zc_rs 1 1 (zc_na 4 (Int.ofNat 1, Int.ofNat 1) (zc_rs 2 1 (zc_cd 2)))) = true := by decide +kernel
set_option maxRecDepth 100000 in
theorem zc_g35_2_1_1_2 : zc_gtst 1135 (zc_rs 1 2 (zc_na 4 (Int.ofNat 1, Int.ofNat 1) (zc_rs 2 1 (zc_cd 2)))) = true := by decide +kernel
set_option maxRecDepth 100000 in
theorem zc_g35_2_1_2_0 : zc_gtst 1135 (zc_rs 1 0 (zc_na 4 (Int.ofNat 1, Int.ofNat 1) (zc_rs 2 2 (zc_cd 2)))) = true := by decide +kernel
set_option maxRecDepth 100000 in
theorem zc_g35_2_1_2_1 : zc_gtst 1135 (zc_rs 1 1 (zc_na 4 (Int.ofNat 1, Int.ofNat 1) (zc_rs 2 2 (zc_cd 2)))) = true := by decide +kernel
set_option maxRecDepth 100000 in
theorem zc_g35_2_1_2_2 : zc_gtst 1135 (zc_rs 1 2 (zc_na 4 (Int.ofNat 1, Int.ofNat 1) (zc_rs 2 2 (zc_cd 2)))) = true := by decide +kernel
set_option maxRecDepth 100000 in
theorem zc_g35_2_3_1_0 : zc_gtst 1135 (zc_rs 3 0 (zc_na 4 (Int.ofNat 3, Int.ofNat 3) (zc_rs 2 1 (zc_cd 2)))) = true := by decide +kernel
set_option maxRecDepth 100000 in
theorem zc_g35_2_3_1_1 : zc_gtst 1135 (zc_rs 3 1 (zc_na 4 (Int.ofNat 3, Int.ofNat 3) (zc_rs 2 1 (zc_cd 2)))) = true := by decide +kernel
set_option maxRecDepth 100000 in
theorem zc_g35_2_3_1_2 : zc_gtst 1135 (zc_rs 3 2 (zc_na 4 (Int.ofNat 3, Int.ofNat 3) (zc_rs 2 1 (zc_cd 2)))) = true := by decide +kernel
set_option maxRecDepth 100000 in
theorem zc_g35_2_3_2_0 : zc_gtst 1135 (zc_rs 3 0 (zc_na 4 (Int.ofNat 3, Int.ofNat 3) (zc_rs 2 2 (zc_cd 2)))) = true := by decide +kernel
set_option maxRecDepth 100000 in
theorem zc_g35_2_3_2_1 : zc_gtst 1135 (zc_rs 3 1 (zc_na 4 (Int.ofNat 3, Int.ofNat 3) (zc_rs 2 2 (zc_cd 2)))) = true := by decide +kernel
set_option maxRecDepth 100000 in
theorem zc_g35_2_3_2_2 : zc_gtst 1135 (zc_rs 3 2 (zc_na 4 (Int.ofNat 3, Int.ofNat 3) (zc_rs 2 2 (zc_cd 2)))) = true := by decide +kernel
set_option maxRecDepth 100000 in
theorem zc_g35_2_4_1_0 : zc_gtst 1135 (zc_rs 4 0 (zc_na 4 (Int.ofNat 4, Int.ofNat 4) (zc_rs 2 1 (zc_cd 2)))) = true := by decide +kernel
set_option maxRecDepth 100000 in
theorem zc_g35_2_4_1_1 : zc_gtst 1135 (zc_rs 4 1 (zc_na 4 (Int.ofNat 4, Int.ofNat 4) (zc_rs 2 1 (zc_cd 2)))) = true := by decide +kernel
set_option maxRecDepth 100000 in
theorem zc_g35_2_4_1_2 : zc_gtst 1135 (zc_rs 4 2 (zc_na 4 (Int.ofNat 4, Int.ofNat 4) (zc_rs 2 1 (zc_cd 2)))) = true := by decide +kernel
set_option maxRecDepth 100000 in
theorem zc_g35_2_4_2_0 : zc_gtst 1135 (zc_rs 4 0 (zc_na 4 (Int.ofNat 4, Int.ofNat 4) (zc_rs 2 2 (zc_cd 2)))) = true := by decide +kernel
set_option maxRecDepth 100000 in
theorem zc_g35_2_4_2_1 : zc_gtst 1135 (zc_rs 4 1 (zc_na 4 (Int.ofNat 4, Int.ofNat 4) (zc_rs 2 2 (zc_cd 2)))) = true := by decide +kernel
set_option maxRecDepth 100000 in
theorem zc_g35_2_4_2_2 : zc_gtst 1135 (zc_rs 4 2 (zc_na 4 (Int.ofNat 4, Int.ofNat 4) (zc_rs 2 2 (zc_cd 2)))) = true := by decide +kernel
set_option maxRecDepth 100000 in
theorem zc_g35_2_5_1_0 : zc_gtst 1135 (zc_rs 5 0 (zc_na 4 (Int.ofNat 5, Int.ofNat 5) (zc_rs 2 1 (zc_cd 2)))) = true := by decide +kernel
set_option maxRecDepth 100000 in
theorem zc_g35_2_5_1_1 : zc_gtst 1135 (zc_rs 5 1 (zc_na 4 (Int.ofNat 5, Int.ofNat 5) (zc_rs 2 1 (zc_cd 2)))) = true := by decide +kernel
set_option maxRecDepth 100000 in
theorem zc_g35_2_5_1_2 : zc_gtst 1135 (zc_rs 5 2 (zc_na 4 (Int.ofNat 5, Int.ofNat 5) (zc_rs 2 1 (zc_cd 2)))) = true := by decide +kernel
set_option maxRecDepth 100000 in
theorem zc_g35_2_5_2_0 : zc_gtst 1135 (zc_rs 5 0 (zc_na 4 (Int.ofNat 5, Int.ofNat 5) (zc_rs 2 2 (zc_cd 2)))) = true := by decide +kernel
set_option maxRecDepth 100000 in
theorem zc_g35_2_5_2_1 : zc_gtst 1135 (zc_rs 5 1 (zc_na 4 (Int.ofNat 5, Int.ofNat 5) (zc_rs 2 2 (zc_cd 2)))) = true := by decide +kernel
set_option maxRecDepth 100000 in
theorem zc_g35_2_5_2_2 : zc_gtst 1135 (zc_rs 5 2 (zc_na 4 (Int.ofNat 5, Int.ofNat 5) (zc_rs 2 2 (zc_cd 2)))) = true := by decide +kernel
