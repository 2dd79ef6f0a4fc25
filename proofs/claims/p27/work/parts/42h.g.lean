/-! tests: customers -/
set_option maxRecDepth 100000 in
theorem zc_g2_low : zc_gtst 256 (zc_na 2 (zb_lo32, -1) (zc_c0)) = true := by decide +kernel
set_option maxRecDepth 100000 in
theorem zc_g2_high : zc_gtst 256 (zc_na 2 (6, zb_hi32) (zc_c0)) = true := by decide +kernel
set_option maxRecDepth 100000 in
theorem zc_g2_0_0 : zc_gtst 256 (zc_rs 0 0 (zc_cd 0)) = true := by decide +kernel
set_option maxRecDepth 100000 in
theorem zc_g2_0_1 : zc_gtst 256 (zc_rs 0 1 (zc_cd 0)) = true := by decide +kernel
set_option maxRecDepth 100000 in
theorem zc_g2_0_4 : zc_gtst 256 (zc_rs 0 4 (zc_cd 0)) = true := by decide +kernel
set_option maxRecDepth 100000 in
theorem zc_g2_0_5 : zc_gtst 256 (zc_rs 0 5 (zc_cd 0)) = true := by decide +kernel
set_option maxRecDepth 100000 in
theorem zc_g2_0_6 : zc_gtst 256 (zc_rs 0 6 (zc_cd 0)) = true := by decide +kernel
set_option maxRecDepth 100000 in
theorem zc_g2_0_7 : zc_gtst 256 (zc_rs 0 7 (zc_cd 0)) = true := by decide +kernel
set_option maxRecDepth 100000 in
theorem zc_g2_1_0 : zc_gtst 256 (zc_rs 1 0 (zc_cd 1)) = true := by decide +kernel
set_option maxRecDepth 100000 in
theorem zc_g2_1_1 : zc_gtst 256 (zc_rs 1 1 (zc_cd 1)) = true := by decide +kernel
set_option maxRecDepth 100000 in
theorem zc_g2_1_4 : zc_gtst 256 (zc_rs 1 4 (zc_cd 1)) = true := by decide +kernel
set_option maxRecDepth 100000 in
theorem zc_g2_1_5 : zc_gtst 256 (zc_rs 1 5 (zc_cd 1)) = true := by decide +kernel
set_option maxRecDepth 100000 in
theorem zc_g2_1_6 : zc_gtst 256 (zc_rs 1 6 (zc_cd 1)) = true := by decide +kernel
set_option maxRecDepth 100000 in
theorem zc_g2_1_7 : zc_gtst 256 (zc_rs 1 7 (zc_cd 1)) = true := by decide +kernel
set_option maxRecDepth 100000 in
theorem zc_g2_2_0 : zc_gtst 256 (zc_rs 2 0 (zc_cd 2)) = true := by decide +kernel
set_option maxRecDepth 100000 in
theorem zc_g2_2_1 : zc_gtst 256 (zc_rs 2 1 (zc_cd 2)) = true := by decide +kernel
set_option maxRecDepth 100000 in
theorem zc_g2_2_4 : zc_gtst 256 (zc_rs 2 4 (zc_cd 2)) = true := by decide +kernel
set_option maxRecDepth 100000 in
theorem zc_g2_2_5 : zc_gtst 256 (zc_rs 2 5 (zc_cd 2)) = true := by decide +kernel
set_option maxRecDepth 100000 in
theorem zc_g2_2_6 : zc_gtst 256 (zc_rs 2 6 (zc_cd 2)) = true := by decide +kernel
set_option maxRecDepth 100000 in
theorem zc_g2_2_7 : zc_gtst 256 (zc_rs 2 7 (zc_cd 2)) = true := by decide +kernel
set_option maxRecDepth 100000 in
theorem zc_g2_3_0 : zc_gtst 256 (zc_rs 3 0 (zc_cd 3)) = true := by decide +kernel
set_option maxRecDepth 100000 in
theorem zc_g2_3_1 : zc_gtst 256 (zc_rs 3 1 (zc_cd 3)) = true := by decide +kernel
set_option maxRecDepth 100000 in
theorem zc_g2_3_4 : zc_gtst 256 (zc_rs 3 4 (zc_cd 3)) = true := by decide +kernel
set_option maxRecDepth 100000 in
theorem zc_g2_3_5 : zc_gtst 256 (zc_rs 3 5 (zc_cd 3)) = true := by decide +kernel
set_option maxRecDepth 100000 in
theorem zc_g2_3_6 : zc_gtst 256 (zc_rs 3 6 (zc_cd 3)) = true := by decide +kernel
set_option maxRecDepth 100000 in
theorem zc_g2_3_7 : zc_gtst 256 (zc_rs 3 7 (zc_cd 3)) = true := by decide +kernel
set_option maxRecDepth 100000 in
theorem zc_g2_4_0 : zc_gtst 256 (zc_rs 4 0 (zc_cd 4)) = true := by decide +kernel
set_option maxRecDepth 100000 in
theorem zc_g2_4_1 : zc_gtst 256 (zc_rs 4 1 (zc_cd 4)) = true := by decide +kernel
set_option maxRecDepth 100000 in
theorem zc_g2_4_4 : zc_gtst 256 (zc_rs 4 4 (zc_cd 4)) = true := by decide +kernel
set_option maxRecDepth 100000 in
theorem zc_g2_4_5 : zc_gtst 256 (zc_rs 4 5 (zc_cd 4)) = true := by decide +kernel
set_option maxRecDepth 100000 in
theorem zc_g2_4_6 : zc_gtst 256 (zc_rs 4 6 (zc_cd 4)) = true := by decide +kernel
set_option maxRecDepth 100000 in
theorem zc_g2_4_7 : zc_gtst 256 (zc_rs 4 7 (zc_cd 4)) = true := by decide +kernel
set_option maxRecDepth 100000 in
theorem zc_g2_5_0 : zc_gtst 256 (zc_rs 5 0 (zc_cd 5)) = true := by decide +kernel
set_option maxRecDepth 100000 in
theorem zc_g2_5_1 : zc_gtst 256 (zc_rs 5 1 (zc_cd 5)) = true := by decide +kernel
set_option maxRecDepth 100000 in
theorem zc_g2_5_4 : zc_gtst 256 (zc_rs 5 4 (zc_cd 5)) = true := by decide +kernel
set_option maxRecDepth 100000 in
theorem zc_g2_5_5 : zc_gtst 256 (zc_rs 5 5 (zc_cd 5)) = true := by decide +kernel
set_option maxRecDepth 100000 in
theorem zc_g2_5_6 : zc_gtst 256 (zc_rs 5 6 (zc_cd 5)) = true := by decide +kernel
set_option maxRecDepth 100000 in
theorem zc_g2_5_7 : zc_gtst 256 (zc_rs 5 7 (zc_cd 5)) = true := by decide +kernel
theorem zc_g2 : ∀ d, d < 6 → ∀ al, (al = 0 ∨ al = 1 ∨ al = 4 ∨ al = 5 ∨ al = 6 ∨ al = 7) → zc_gtst 256 (zc_rs d al (zc_cd d)) = true := by
  intro d hd al ha
  have h6 : d = 0 ∨ d = 1 ∨ d = 2 ∨ d = 3 ∨ d = 4 ∨ d = 5 := by omega
  rcases h6 with rfl | rfl | rfl | rfl | rfl | rfl <;> rcases ha with rfl | rfl | rfl | rfl | rfl | rfl
  · exact zc_g2_0_0
  · exact zc_g2_0_1
  · exact zc_g2_0_4
  · exact zc_g2_0_5
  · exact zc_g2_0_6
  · exact zc_g2_0_7
  · exact zc_g2_1_0
  · exact zc_g2_1_1
  · exact zc_g2_1_4
  · exact zc_g2_1_5
  · exact zc_g2_1_6
  · exact zc_g2_1_7
  · exact zc_g2_2_0
  · exact zc_g2_2_1
  · exact zc_g2_2_4
  · exact zc_g2_2_5
  · exact zc_g2_2_6
  · exact zc_g2_2_7
  · exact zc_g2_3_0
  · exact zc_g2_3_1
  · exact zc_g2_3_4
  · exact zc_g2_3_5
  · exact zc_g2_3_6
  · exact zc_g2_3_7
  · exact zc_g2_4_0
  · exact zc_g2_4_1
  · exact zc_g2_4_4
  · exact zc_g2_4_5
  · exact zc_g2_4_6
  · exact zc_g2_4_7
  · exact zc_g2_5_0
  · exact zc_g2_5_1
  · exact zc_g2_5_4
  · exact zc_g2_5_5
  · exact zc_g2_5_6
  · exact zc_g2_5_7
set_option maxRecDepth 100000 in
theorem zc_g2l_0 : zc_gtst 256 (zc_na 4 (zb_lo32, 0) (zc_rs 0 3 (zc_cd 0))) = true := by decide +kernel
set_option maxRecDepth 100000 in
theorem zc_g2l_1 : zc_gtst 256 (zc_na 4 (zb_lo32, 0) (zc_rs 1 3 (zc_cd 1))) = true := by decide +kernel
set_option maxRecDepth 100000 in
theorem zc_g2l_2 : zc_gtst 256 (zc_na 4 (zb_lo32, 0) (zc_rs 2 3 (zc_cd 2))) = true := by decide +kernel
set_option maxRecDepth 100000 in
theorem zc_g2l_3 : zc_gtst 256 (zc_na 4 (zb_lo32, 0) (zc_rs 3 3 (zc_cd 3))) = true := by decide +kernel
set_option maxRecDepth 100000 in
theorem zc_g2l_4 : zc_gtst 256 (zc_na 4 (zb_lo32, 0) (zc_rs 4 3 (zc_cd 4))) = true := by decide +kernel
set_option maxRecDepth 100000 in
theorem zc_g2l_5 : zc_gtst 256 (zc_na 4 (zb_lo32, 0) (zc_rs 5 3 (zc_cd 5))) = true := by decide +kernel
theorem zc_g2l : ∀ d, d < 6 → zc_gtst 256 (zc_na 4 (zb_lo32, 0) (zc_rs d 3 (zc_cd d))) = true := by
  intro d hd
  have h6 : d = 0 ∨ d = 1 ∨ d = 2 ∨ d = 3 ∨ d = 4 ∨ d = 5 := by omega
  rcases h6 with rfl | rfl | rfl | rfl | rfl | rfl
  · exact zc_g2l_0
  · exact zc_g2l_1
  · exact zc_g2l_2
  · exact zc_g2l_3
  · exact zc_g2l_4
  · exact zc_g2l_5
set_option maxRecDepth 100000 in
theorem zc_g2h_0 : zc_gtst 256 (zc_na 4 (8, zb_hi32) (zc_rs 0 3 (zc_cd 0))) = true := by decide +kernel
set_option maxRecDepth 100000 in
theorem zc_g2h_1 : zc_gtst 256 (zc_na 4 (8, zb_hi32) (zc_rs 1 3 (zc_cd 1))) = true := by decide +kernel
set_option maxRecDepth 100000 in
theorem zc_g2h_2 : zc_gtst 256 (zc_na 4 (8, zb_hi32) (zc_rs 2 3 (zc_cd 2))) = true := by decide +kernel
set_option maxRecDepth 100000 in
theorem zc_g2h_3 : zc_gtst 256 (zc_na 4 (8, zb_hi32) (zc_rs 3 3 (zc_cd 3))) = true := by decide +kernel
set_option maxRecDepth 100000 in
theorem zc_g2h_4 : zc_gtst 256 (zc_na 4 (8, zb_hi32) (zc_rs 4 3 (zc_cd 4))) = true := by decide +kernel
set_option maxRecDepth 100000 in
theorem zc_g2h_5 : zc_gtst 256 (zc_na 4 (8, zb_hi32) (zc_rs 5 3 (zc_cd 5))) = true := by decide +kernel
theorem zc_g2h : ∀ d, d < 6 → zc_gtst 256 (zc_na 4 (8, zb_hi32) (zc_rs d 3 (zc_cd d))) = true := by
  intro d hd
  have h6 : d = 0 ∨ d = 1 ∨ d = 2 ∨ d = 3 ∨ d = 4 ∨ d = 5 := by omega
  rcases h6 with rfl | rfl | rfl | rfl | rfl | rfl
  · exact zc_g2h_0
  · exact zc_g2h_1
  · exact zc_g2h_2
  · exact zc_g2h_3
  · exact zc_g2h_4
  · exact zc_g2h_5
