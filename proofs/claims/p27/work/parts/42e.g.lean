/-! tests: row -/
set_option maxRecDepth 100000 in
theorem zc_g32_low : zc_gtst 986 (zc_na 2 (zb_lo32, -1) (zc_c0)) = true := by decide +kernel
set_option maxRecDepth 100000 in
theorem zc_g32_high : zc_gtst 986 (zc_na 2 (6, zb_hi32) (zc_c0)) = true := by decide +kernel
set_option maxRecDepth 100000 in
theorem zc_g32_0 : zc_gtst 986 (zc_cd 0) = true := by decide +kernel
set_option maxRecDepth 100000 in
theorem zc_g32_1 : zc_gtst 986 (zc_cd 1) = true := by decide +kernel
set_option maxRecDepth 100000 in
theorem zc_g32_2 : zc_gtst 986 (zc_cd 2) = true := by decide +kernel
set_option maxRecDepth 100000 in
theorem zc_g32_3 : zc_gtst 986 (zc_cd 3) = true := by decide +kernel
set_option maxRecDepth 100000 in
theorem zc_g32_4 : zc_gtst 986 (zc_cd 4) = true := by decide +kernel
set_option maxRecDepth 100000 in
theorem zc_g32_5 : zc_gtst 986 (zc_cd 5) = true := by decide +kernel
theorem zc_g32 : ∀ d, d < 6 → zc_gtst 986 (zc_cd d) = true := by
  intro d hd
  have h6 : d = 0 ∨ d = 1 ∨ d = 2 ∨ d = 3 ∨ d = 4 ∨ d = 5 := by omega
  rcases h6 with rfl | rfl | rfl | rfl | rfl | rfl
  · exact zc_g32_0
  · exact zc_g32_1
  · exact zc_g32_2
  · exact zc_g32_3
  · exact zc_g32_4
  · exact zc_g32_5
