/-! tests: shift, on -/
set_option maxRecDepth 100000 in
theorem zc_g35_3_0_1_0 : zc_gtst 1135 (zc_rs 0 0 (zc_na 4 (Int.ofNat 0, Int.ofNat 0) (zc_rs 3 1 (zc_cd 3)))) = true := by decide +kernel
set_option maxRecDepth 100000 in
theorem zc_g35_3_0_1_1 : zc_gtst 1135 (zc_rs 0 1 (zc_na 4 (Int.ofNat 0, Int.ofNat 0) (zc_rs 3 1 (zc_cd 3)))) = true := by decide +kernel
set_option maxRecDepth 100000 in
theorem zc_g35_3_0_1_2 : zc_gtst 1135 (zc_rs 0 2 (zc_na 4 (Int.ofNat 0, Int.ofNat 0) (zc_rs 3 1 (zc_cd 3)))) = true := by decide +kernel
set_option maxRecDepth 100000 in
theorem zc_g35_3_0_2_0 : zc_gtst 1135 (zc_rs 0 0 (zc_na 4 (Int.ofNat 0, Int.ofNat 0) (zc_rs 3 2 (zc_cd 3)))) = true := by decide +kernel
set_option maxRecDepth 100000 in
theorem zc_g35_3_0_2_1 : zc_gtst 1135 (zc_rs 0 1 (zc_na 4 (Int.ofNat 0, Int.ofNat 0) (zc_rs 3 2 (zc_cd 3)))) = true := by decide +kernel
set_option maxRecDepth 100000 in
theorem zc_g35_3_0_2_2 : zc_gtst 1135 (zc_rs 0 2 (zc_na 4 (Int.ofNat 0, Int.ofNat 0) (zc_rs 3 2 (zc_cd 3)))) = true := by decide +kernel
set_option maxRecDepth 100000 in
theorem zc_g35_3_1_1_0 : zc_gtst 1135 (zc_rs 1 0 (zc_na 4 (Int.ofNat 1, Int.ofNat 1) (zc_rs 3 1 (zc_cd 3)))) = true := by decide +kernel
set_option maxRecDepth 100000 in
theorem zc_g35_3_1_1_1 : zc_gtst 1135 (zc_rs 1 1 (zc_na 4 (Int.ofNat 1, Int.ofNat 1) (zc_rs 3 1 (zc_cd 3)))) = true := by decide +kernel
set_option maxRecDepth 100000 in
theorem zc_g35_3_1_1_2 : zc_gtst 1135 (zc_rs 1 2 (zc_na 4 (Int.ofNat 1, Int.ofNat 1) (zc_rs 3 1 (zc_cd 3)))) = true := by decide +kernel
set_option maxRecDepth 100000 in
theorem zc_g35_3_1_2_0 : zc_gtst 1135 (zc_rs 1 0 (zc_na 4 (Int.ofNat 1, Int.ofNat 1) (zc_rs 3 2 (zc_cd 3)))) = true := by decide +kernel
set_option maxRecDepth 100000 in
theorem zc_g35_3_1_2_1 : zc_gtst 1135 (zc_rs 1 1 (zc_na 4 (Int.ofNat 1, Int.ofNat 1) (zc_rs 3 2 (zc_cd 3)))) = true := by decide +kernel
set_option maxRecDepth 100000 in
theorem zc_g35_3_1_2_2 : zc_gtst 1135 (zc_rs 1 2 (zc_na 4 (Int.ofNat 1, Int.ofNat 1) (zc_rs 3 2 (zc_cd 3)))) = true := by decide +kernel
set_option maxRecDepth 100000 in
theorem zc_g35_3_2_1_0 : zc_gtst 1135 (zc_rs 2 0 (zc_na 4 (Int.ofNat 2, Int.ofNat 2) (zc_rs 3 1 (zc_cd 3)))) = true := by decide +kernel
set_option maxRecDepth 100000 in
theorem zc_g35_3_2_1_1 : zc_gtst 1135 (zc_rs 2 1 (zc_na 4 (Int.ofNat 2, Int.ofNat 2) (zc_rs 3 1 (zc_cd 3)))) = true := by decide +kernel
set_option maxRecDepth 100000 in
theorem zc_g35_3_2_1_2 : zc_gtst 1135 (zc_rs 2 2 (zc_na 4 (Int.ofNat 2, Int.ofNat 2) (zc_rs 3 1 (zc_cd 3)))) = true := by decide +kernel
set_option maxRecDepth 100000 in
theorem zc_g35_3_2_2_0 : zc_gtst 1135 (zc_rs 2 0 (zc_na 4 (Int.ofNat 2, Int.ofNat 2) (zc_rs 3 2 (zc_cd 3)))) = true := by decide +kernel
set_option maxRecDepth 100000 in
theorem zc_g35_3_2_2_1 : zc_gtst 1135 (zc_rs 2 1 (zc_na 4 (Int.ofNat 2, Int.ofNat 2) (zc_rs 3 2 (zc_cd 3)))) = true := by decide +kernel
set_option maxRecDepth 100000 in
theorem zc_g35_3_2_2_2 : zc_gtst 1135 (zc_rs 2 2 (zc_na 4 (Int.ofNat 2, Int.ofNat 2) (zc_rs 3 2 (zc_cd 3)))) = true := by decide +kernel
set_option maxRecDepth 100000 in
theorem zc_g35_3_4_1_0 : zc_gtst 1135 (zc_rs 4 0 (zc_na 4 (Int.ofNat 4, Int.ofNat 4) (zc_rs 3 1 (zc_cd 3)))) = true := by decide +kernel
set_option maxRecDepth 100000 in
theorem zc_g35_3_4_1_1 : zc_gtst 1135 (zc_rs 4 1 (zc_na 4 (Int.ofNat 4, Int.ofNat 4) (zc_rs 3 1 (zc_cd 3)))) = true := by decide +kernel
set_option maxRecDepth 100000 in
theorem zc_g35_3_4_1_2 : zc_gtst 1135 (zc_rs 4 2 (zc_na 4 (Int.ofNat 4, Int.ofNat 4) (zc_rs 3 1 (zc_cd 3)))) = true := by decide +kernel
set_option maxRecDepth 100000 in
theorem zc_g35_3_4_2_0 : zc_gtst 1135 (zc_rs 4 0 (zc_na 4 (Int.ofNat 4, Int.ofNat 4) (zc_rs 3 2 (zc_cd 3)))) = true := by decide +kernel
set_option maxRecDepth 100000 in
theorem zc_g35_3_4_2_1 : zc_gtst 1135 (zc_rs 4 1 (zc_na 4 (Int.ofNat 4, Int.ofNat 4) (zc_rs 3 2 (zc_cd 3)))) = true := by decide +kernel
set_option maxRecDepth 100000 in
theorem zc_g35_3_4_2_2 : zc_gtst 1135 (zc_rs 4 2 (zc_na 4 (Int.ofNat 4, Int.ofNat 4) (zc_rs 3 2 (zc_cd 3)))) = true := by decide +kernel
set_option maxRecDepth 100000 in
theorem zc_g35_3_5_1_0 : zc_gtst 1135 (zc_rs 5 0 (zc_na 4 (Int.ofNat 5, Int.ofNat 5) (zc_rs 3 1 (zc_cd 3)))) = true := by decide +kernel
set_option maxRecDepth 100000 in
theorem zc_g35_3_5_1_1 : zc_gtst 1135 (zc_rs 5 1 (zc_na 4 (Int.ofNat 5, Int.ofNat 5) (zc_rs 3 1 (zc_cd 3)))) = true := by decide +kernel
set_option maxRecDepth 100000 in
theorem zc_g35_3_5_1_2 : zc_gtst 1135 (zc_rs 5 2 (zc_na 4 (Int.ofNat 5, Int.ofNat 5) (zc_rs 3 1 (zc_cd 3)))) = true := by decide +kernel
set_option maxRecDepth 100000 in
theorem zc_g35_3_5_2_0 : zc_gtst 1135 (zc_rs 5 0 (zc_na 4 (Int.ofNat 5, Int.ofNat 5) (zc_rs 3 2 (zc_cd 3)))) = true := by decide +kernel
set_option maxRecDepth 100000 in
theorem zc_g35_3_5_2_1 : zc_gtst 1135 (zc_rs 5 1 (zc_na 4 (Int.ofNat 5, Int.ofNat 5) (zc_rs 3 2 (zc_cd 3)))) = true := by decide +kernel
set_option maxRecDepth 100000 in
theorem zc_g35_3_5_2_2 : zc_gtst 1135 (zc_rs 5 2 (zc_na 4 (Int.ofNat 5, Int.ofNat 5) (zc_rs 3 2 (zc_cd 3)))) = true := by decide +kernel
set_option maxRecDepth 100000 in
theorem zc_g35_4_0_1_0 : zc_gtst 1135 (zc_rs 0 0 (zc_na 4 (Int.ofNat 0, Int.ofNat 0) (zc_rs 4 1 (zc_cd 4)))) = true := by decide +kernel
set_option maxRecDepth 100000 in
theorem zc_g35_4_0_1_1 : zc_gtst 1135 (zc_rs 0 1 (zc_na 4 (Int.ofNat 0, Int.ofNat 0) (zc_rs 4 1 (zc_cd 4)))) = true := by decide +kernel
set_option maxRecDepth 100000 in
theorem zc_g35_4_0_1_2 : zc_gtst 1135 (zc_rs 0 2 (zc_na 4 (Int.ofNat 0, Int.ofNat 0) (zc_rs 4 1 (zc_cd 4)))) = true := by decide +kernel
set_option maxRecDepth 100000 in
theorem zc_g35_4_0_2_0 : zc_gtst 1135 (zc_rs 0 0 (zc_na 4 (Int.ofNat 0, Int.ofNat 0) (zc_rs 4 2 (zc_cd 4)))) = true := by decide +kernel
set_option maxRecDepth 100000 in
theorem zc_g35_4_0_2_1 : zc_gtst 1135 (zc_rs 0 1 (zc_na 4 (Int.ofNat 0, Int.ofNat 0) (zc_rs 4 2 (zc_cd 4)))) = true := by decide +kernel
set_option maxRecDepth 100000 in
theorem zc_g35_4_0_2_2 : zc_gtst 1135 (zc_rs 0 2 (zc_na 4 (Int.ofNat 0, Int.ofNat 0) (zc_rs 4 2 (zc_cd 4)))) = true := by decide +kernel
set_option maxRecDepth 100000 in
theorem zc_g35_4_1_1_0 : zc_gtst 1135 (zc_rs 1 0 (zc_na 4 (Int.ofNat 1, Int.ofNat 1) (zc_rs 4 1 (zc_cd 4)))) = true := by decide +kernel
set_option maxRecDepth 100000 in
theorem zc_g35_4_1_1_1 : zc_gtst 1135 (zc_rs 1 1 (zc_na 4 (Int.ofNat 1, Int.ofNat 1) (zc_rs 4 1 (zc_cd 4)))) = true := by decide +kernel
set_option maxRecDepth 100000 in
theorem zc_g35_4_1_1_2 : zc_gtst 1135 (zc_rs 1 2 (zc_na 4 (Int.ofNat 1, Int.ofNat 1) (zc_rs 4 1 (zc_cd 4)))) = true := by decide +kernel
set_option maxRecDepth 100000 in
theorem zc_g35_4_1_2_0 : zc_gtst 1135 (zc_rs 1 0 (zc_na 4 (Int.ofNat 1, Int.ofNat 1) (zc_rs 4 2 (zc_cd 4)))) = true := by decide +kernel
set_option maxRecDepth 100000 in
theorem zc_g35_4_1_2_1 : zc_gtst 1135 (zc_rs 1 1 (zc_na 4 (Int.ofNat 1, Int.ofNat 1) (zc_rs 4 2 (zc_cd 4)))) = true := by decide +kernel
set_option maxRecDepth 100000 in
theorem zc_g35_4_1_2_2 : zc_gtst 1135 (zc_rs 1 2 (zc_na 4 (Int.ofNat 1, Int.ofNat 1) (zc_rs 4 2 (zc_cd 4)))) = true := by decide +kernel
set_option maxRecDepth 100000 in
theorem zc_g35_4_2_1_0 : zc_gtst 1135 (zc_rs 2 0 (zc_na 4 (Int.ofNat 2, Int.ofNat 2) (zc_rs 4 1 (zc_cd 4)))) = true := by decide +kernel
set_option maxRecDepth 100000 in
theorem zc_g35_4_2_1_1 : zc_gtst 1135 (zc_rs 2 1 (zc_na 4 (Int.ofNat 2, Int.ofNat 2) (zc_rs 4 1 (zc_cd 4)))) = true := by decide +kernel
set_option maxRecDepth 100000 in
theorem zc_g35_4_2_1_2 : zc_gtst 1135 (zc_rs 2 2 (zc_na 4 (Int.ofNat 2, Int.ofNat 2) (zc_rs 4 1 (zc_cd 4)))) = true := by decide +kernel
set_option maxRecDepth 100000 in
theorem zc_g35_4_2_2_0 : zc_gtst 1135 (zc_rs 2 0 (zc_na 4 (Int.ofNat 2, Int.ofNat 2) (zc_rs 4 2 (zc_cd 4)))) = true := by decide +kernel
set_option maxRecDepth 100000 in
theorem zc_g35_4_2_2_1 : zc_gtst 1135 (zc_rs 2 1 (zc_na 4 (Int.ofNat 2, Int.ofNat 2) (zc_rs 4 2 (zc_cd 4)))) = true := by decide +kernel
set_option maxRecDepth 100000 in
theorem zc_g35_4_2_2_2 : zc_gtst 1135 (zc_rs 2 2 (zc_na 4 (Int.ofNat 2, Int.ofNat 2) (zc_rs 4 2 (zc_cd 4)))) = true := by decide +kernel
set_option maxRecDepth 100000 in
theorem zc_g35_4_3_1_0 : zc_gtst 1135 (zc_rs 3 0 (zc_na 4 (Int.ofNat 3, Int.ofNat 3) (zc_rs 4 1 (zc_cd 4)))) = true := by decide +kernel
set_option maxRecDepth 100000 in
theorem zc_g35_4_3_1_1 : zc_gtst 1135 (zc_rs 3 1 (zc_na 4 (Int.ofNat 3, Int.ofNat 3) (zc_rs 4 1 (zc_cd 4)))) = true := by decide +kernel
set_option maxRecDepth 100000 in
theorem zc_g35_4_3_1_2 : zc_gtst 1135 (zc_rs 3 2 (zc_na 4 (Int.ofNat 3, Int.ofNat 3) (zc_rs 4 1 (zc_cd 4)))) = true := by decide +kernel
set_option maxRecDepth 100000 in
theorem zc_g35_4_3_2_0 : zc_gtst 1135 (zc_rs 3 0 (zc_na 4 (Int.ofNat 3, Int.ofNat 3) (zc_rs 4 2 (zc_cd 4)))) = true := by decide +kernel
set_option maxRecDepth 100000 in
theorem zc_g35_4_3_2_1 : zc_gtst 1135 (zc_rs 3 1 (zc_na 4 (Int.ofNat 3, Int.ofNat 3) (zc_rs 4 2 (zc_cd 4)))) = true := by decide +kernel
set_option maxRecDepth 100000 in
theorem zc_g35_4_3_2_2 : zc_gtst 1135 (zc_rs 3 2 (zc_na 4 (Int.ofNat 3, Int.ofNat 3) (zc_rs 4 2 (zc_cd 4)))) = true := by decide +kernel
set_option maxRecDepth 100000 in
theorem zc_g35_4_5_1_0 : zc_gtst 1135 (zc_rs 5 0 (zc_na 4 (Int.ofNat 5, Int.ofNat 5) (zc_rs 4 1 (zc_cd 4)))) = true := by decide +kernel
set_option maxRecDepth 100000 in
theorem zc_g35_4_5_1_1 : zc_gtst 1135 (zc_rs 5 1 (zc_na 4 (Int.ofNat 5, Int.ofNat 5) (zc_rs 4 1 (zc_cd 4)))) = true := by decide +kernel
set_option maxRecDepth 100000 in
theorem zc_g35_4_5_1_2 : zc_gtst 1135 (zc_rs 5 2 (zc_na 4 (Int.ofNat 5, Int.ofNat 5) (zc_rs 4 1 (zc_cd 4)))) = true := by decide +kernel
set_option maxRecDepth 100000 in
theorem zc_g35_4_5_2_0 : zc_gtst 1135 (zc_rs 5 0 (zc_na 4 (Int.ofNat 5, Int.ofNat 5) (zc_rs 4 2 (zc_cd 4)))) = true := by decide +kernel
set_option maxRecDepth 100000 in
theorem zc_g35_4_5_2_1 : zc_gtst 1135 (zc_rs 5 1 (zc_na 4 (Int.ofNat 5, Int.ofNat 5) (zc_rs 4 2 (zc_cd 4)))) = true := by decide +kernel
set_option maxRecDepth 100000 in
theorem zc_g35_4_5_2_2 : zc_gtst 1135 (zc_rs 5 2 (zc_na 4 (Int.ofNat 5, Int.ofNat 5) (zc_rs 4 2 (zc_cd 4)))) = true := by decide +kernel
set_option maxRecDepth 100000 in
theorem zc_g35_5_0_1_0 : zc_gtst 1135 (zc_rs 0 0 (zc_na 4 (Int.ofNat 0, Int.ofNat 0) (zc_rs 5 1 (zc_cd 5)))) = true := by decide +kernel
set_option maxRecDepth 100000 in
theorem zc_g35_5_0_1_1 : zc_gtst 1135 (zc_rs 0 1 (zc_na 4 (Int.ofNat 0, Int.ofNat 0) (zc_rs 5 1 (zc_cd 5)))) = true := by decide +kernel
set_option maxRecDepth 100000 in
theorem zc_g35_5_0_1_2 : zc_gtst 1135 (zc_rs 0 2 (zc_na 4 (Int.ofNat 0, Int.ofNat 0) (zc_rs 5 1 (zc_cd 5)))) = true := by decide +kernel
set_option maxRecDepth 100000 in
theorem zc_g35_5_0_2_0 : zc_gtst 1135 (zc_rs 0 0 (zc_na 4 (Int.ofNat 0, Int.ofNat 0) (zc_rs 5 2 (zc_cd 5)))) = true := by decide +kernel
set_option maxRecDepth 100000 in
theorem zc_g35_5_0_2_1 : zc_gtst 1135 (zc_rs 0 1 (zc_na 4 (Int.ofNat 0, Int.ofNat 0) (zc_rs 5 2 (zc_cd 5)))) = true := by decide +kernel
set_option maxRecDepth 100000 in
theorem zc_g35_5_0_2_2 : zc_gtst 1135 (zc_rs 0 2 (zc_na 4 (Int.ofNat 0, Int.ofNat 0) (zc_rs 5 2 (zc_cd 5)))) = true := by decide +kernel
set_option maxRecDepth 100000 in
theorem zc_g35_5_1_1_0 : zc_gtst 1135 (zc_rs 1 0 (zc_na 4 (Int.ofNat 1, Int.ofNat 1) (zc_rs 5 1 (zc_cd 5)))) = true := by decide +kernel
set_option maxRecDepth 100000 in
theorem zc_g35_5_1_1_1 : zc_gtst 1135 (zc_rs 1 1 (zc_na 4 (Int.ofNat 1, Int.ofNat 1) (zc_rs 5 1 (zc_cd 5)))) = true := by decide +kernel
set_option maxRecDepth 100000 in
theorem zc_g35_5_1_1_2 : zc_gtst 1135 (zc_rs 1 2 (zc_na 4 (Int.ofNat 1, Int.ofNat 1) (zc_rs 5 1 (zc_cd 5)))) = true := by decide +kernel
set_option maxRecDepth 100000 in
theorem zc_g35_5_1_2_0 : zc_gtst 1135 (zc_rs 1 0 (zc_na 4 (Int.ofNat 1, Int.ofNat 1) (zc_rs 5 2 (zc_cd 5)))) = true := by decide +kernel
set_option maxRecDepth 100000 in
theorem zc_g35_5_1_2_1 : zc_gtst 1135 (zc_rs 1 1 (zc_na 4 (Int.ofNat 1, Int.ofNat 1) (zc_rs 5 2 (zc_cd 5)))) = true := by decide +kernel
set_option maxRecDepth 100000 in
theorem zc_g35_5_1_2_2 : zc_gtst 1135 (zc_rs 1 2 (zc_na 4 (Int.ofNat 1, Int.ofNat 1) (zc_rs 5 2 (zc_cd 5)))) = true := by decide +kernel
set_option maxRecDepth 100000 in
theorem zc_g35_5_2_1_0 : zc_gtst 1135 (zc_rs 2 0 (zc_na 4 (Int.ofNat 2, Int.ofNat 2) (zc_rs 5 1 (zc_cd 5)))) = true := by decide +kernel
set_option maxRecDepth 100000 in
theorem zc_g35_5_2_1_1 : zc_gtst 1135 (zc_rs 2 1 (zc_na 4 (Int.ofNat 2, Int.ofNat 2) (zc_rs 5 1 (zc_cd 5)))) = true := by decide +kernel
set_option maxRecDepth 100000 in
theorem zc_g35_5_2_1_2 : zc_gtst 1135 (zc_rs 2 2 (zc_na 4 (Int.ofNat 2, Int.ofNat 2) (zc_rs 5 1 (zc_cd 5)))) = true := by decide +kernel
set_option maxRecDepth 100000 in
theorem zc_g35_5_2_2_0 : zc_gtst 1135 (zc_rs 2 0 (zc_na 4 (Int.ofNat 2, Int.ofNat 2) (zc_rs 5 2 (zc_cd 5)))) = true := by decide +kernel
set_option maxRecDepth 100000 in
theorem zc_g35_5_2_2_1 : zc_gtst 1135 (zc_rs 2 1 (zc_na 4 (Int.ofNat 2, Int.ofNat 2) (zc_rs 5 2 (zc_cd 5)))) = true := by decide +kernel
set_option maxRecDepth 100000 in
theorem zc_g35_5_2_2_2 : zc_gtst 1135 (zc_rs 2 2 (zc_na 4 (Int.ofNat 2, Int.ofNat 2) (zc_rs 5 2 (zc_cd 5)))) = true := by decide +kernel
set_option maxRecDepth 100000 in
theorem zc_g35_5_3_1_0 : zc_gtst 1135 (zc_rs 3 0 (zc_na 4 (Int.ofNat 3, Int.ofNat 3) (zc_rs 5 1 (zc_cd 5)))) = true := by decide +kernel
set_option maxRecDepth 100000 in
theorem zc_g35_5_3_1_1 : zc_gtst 1135 (zc_rs 3 1 (zc_na 4 (Int.ofNat 3, Int.ofNat 3) (zc_rs 5 1 (zc_cd 5)))) = true := by decide +kernel
set_option maxRecDepth 100000 in
theorem zc_g35_5_3_1_2 : zc_gtst 1135 (zc_rs 3 2 (zc_na 4 (Int.ofNat 3, Int.ofNat 3) (zc_rs 5 1 (zc_cd 5)))) = true := by decide +kernel
set_option maxRecDepth 100000 in
theorem zc_g35_5_3_2_0 : zc_gtst 1135 (zc_rs 3 0 (zc_na 4 (Int.ofNat 3, Int.ofNat 3) (zc_rs 5 2 (zc_cd 5)))) = true := by decide +kernel
set_option maxRecDepth 100000 in
theorem zc_g35_5_3_2_1 : zc_gtst 1135 (zc_rs 3 1 (zc_na 4 (Int.ofNat 3, Int.ofNat 3) (zc_rs 5 2 (zc_cd 5)))) = true := by decide +kernel
set_option maxRecDepth 100000 in
theorem zc_g35_5_3_2_2 : zc_gtst 1135 (zc_rs 3 2 (zc_na 4 (Int.ofNat 3, Int.ofNat 3) (zc_rs 5 2 (zc_cd 5)))) = true := by decide +kernel
set_option maxRecDepth 100000 in
theorem zc_g35_5_4_1_0 : zc_gtst 1135 (zc_rs 4 0 (zc_na 4 (Int.ofNat 4, Int.ofNat 4) (zc_rs 5 1 (zc_cd 5)))) = true := by decide +kernel
set_option maxRecDepth 100000 in
theorem zc_g35_5_4_1_1 : zc_gtst 1135 (zc_rs 4 1 (zc_na 4 (Int.ofNat 4, Int.ofNat 4) (zc_rs 5 1 (zc_cd 5)))) = true := by decide +kernel
set_option maxRecDepth 100000 in
theorem zc_g35_5_4_1_2 : zc_gtst 1135 (zc_rs 4 2 (zc_na 4 (Int.ofNat 4, Int.ofNat 4) (zc_rs 5 1 (zc_cd 5)))) = true := by decide +kernel
set_option maxRecDepth 100000 in
theorem zc_g35_5_4_2_0 : zc_gtst 1135 (zc_rs 4 0 (zc_na 4 (Int.ofNat 4, Int.ofNat 4) (zc_rs 5 2 (zc_cd 5)))) = true := by decide +kernel
set_option maxRecDepth 100000 in
theorem zc_g35_5_4_2_1 : zc_gtst 1135 (zc_rs 4 1 (zc_na 4 (Int.ofNat 4, Int.ofNat 4) (zc_rs 5 2 (zc_cd 5)))) = true := by decide +kernel
set_option maxRecDepth 100000 in
theorem zc_g35_5_4_2_2 : zc_gtst 1135 (zc_rs 4 2 (zc_na 4 (Int.ofNat 4, Int.ofNat 4) (zc_rs 5 2 (zc_cd 5)))) = true := by decide +kernel
theorem zc_g35t : ∀ d, d < 6 → ∀ f, f < 6 → ¬ d = f → ∀ al, (al = 1 ∨ al = 2) → ∀ bl, (bl = 0 ∨ bl = 1 ∨ bl = 2) → zc_gtst 1135 (zc_rs f bl (zc_na 4 (Int.ofNat f, Int.ofNat f) (zc_rs d al (zc_cd d)))) = true := by
  intro d hd f hf hdf al ha bl hb
  have h6 : d = 0 ∨ d = 1 ∨ d = 2 ∨ d = 3 ∨ d = 4 ∨ d = 5 := by omega
  have g6 : f = 0 ∨ f = 1 ∨ f = 2 ∨ f = 3 ∨ f = 4 ∨ f = 5 := by omega
  rcases h6 with rfl | rfl | rfl | rfl | rfl | rfl
  · rcases g6 with rfl | rfl | rfl | rfl | rfl | rfl
    · exact absurd rfl hdf
    · rcases ha with rfl | rfl <;> rcases hb with rfl | rfl | rfl
      · exact zc_g35_0_1_1_0
      · exact zc_g35_0_1_1_1
      · exact zc_g35_0_1_1_2
      · exact zc_g35_0_1_2_0
      · exact zc_g35_0_1_2_1
      · exact zc_g35_0_1_2_2
    · rcases ha with rfl | rfl <;> rcases hb with rfl | rfl | rfl
      · exact zc_g35_0_2_1_0
      · exact zc_g35_0_2_1_1
      · exact zc_g35_0_2_1_2
      · exact zc_g35_0_2_2_0
      · exact zc_g35_0_2_2_1
      · exact zc_g35_0_2_2_2
    · rcases ha with rfl | rfl <;> rcases hb with rfl | rfl | rfl
      · exact zc_g35_0_3_1_0
      · exact zc_g35_0_3_1_1
      · exact zc_g35_0_3_1_2
      · exact zc_g35_0_3_2_0
      · exact zc_g35_0_3_2_1
      · exact zc_g35_0_3_2_2
    · rcases ha with rfl | rfl <;> rcases hb with rfl | rfl | rfl
      · exact zc_g35_0_4_1_0
      · exact zc_g35_0_4_1_1
      · exact zc_g35_0_4_1_2
      · exact zc_g35_0_4_2_0
      · exact zc_g35_0_4_2_1
      · exact zc_g35_0_4_2_2
    · rcases ha with rfl | rfl <;> rcases hb with rfl | rfl | rfl
      · exact zc_g35_0_5_1_0
      · exact zc_g35_0_5_1_1
      · exact zc_g35_0_5_1_2
      · exact zc_g35_0_5_2_0
      · exact zc_g35_0_5_2_1
      · exact zc_g35_0_5_2_2
  · rcases g6 with rfl | rfl | rfl | rfl | rfl | rfl
    · rcases ha with rfl | rfl <;> rcases hb with rfl | rfl | rfl
      · exact zc_g35_1_0_1_0
      · exact zc_g35_1_0_1_1
      · exact zc_g35_1_0_1_2
      · exact zc_g35_1_0_2_0
      · exact zc_g35_1_0_2_1
      · exact zc_g35_1_0_2_2
    · exact absurd rfl hdf
    · rcases ha with rfl | rfl <;> rcases hb with rfl | rfl | rfl
      · exact zc_g35_1_2_1_0
      · exact zc_g35_1_2_1_1
      · exact zc_g35_1_2_1_2
      · exact zc_g35_1_2_2_0
      · exact zc_g35_1_2_2_1
      · exact zc_g35_1_2_2_2
    · rcases ha with rfl | rfl <;> rcases hb with rfl | rfl | rfl
      · exact zc_g35_1_3_1_0
      · exact zc_g35_1_3_1_1
      · exact zc_g35_1_3_1_2
      · exact zc_g35_1_3_2_0
      · exact zc_g35_1_3_2_1
      · exact zc_g35_1_3_2_2
    · rcases ha with rfl | rfl <;> rcases hb with rfl | rfl | rfl
      · exact zc_g35_1_4_1_0
      · exact zc_g35_1_4_1_1
      · exact zc_g35_1_4_1_2
      · exact zc_g35_1_4_2_0
      · exact zc_g35_1_4_2_1
      · exact zc_g35_1_4_2_2
    · rcases ha with rfl | rfl <;> rcases hb with rfl | rfl | rfl
      · exact zc_g35_1_5_1_0
      · exact zc_g35_1_5_1_1
      · exact zc_g35_1_5_1_2
      · exact zc_g35_1_5_2_0
      · exact zc_g35_1_5_2_1
      · exact zc_g35_1_5_2_2
  · rcases g6 with rfl | rfl | rfl | rfl | rfl | rfl
    · rcases ha with rfl | rfl <;> rcases hb with rfl | rfl | rfl
      · exact zc_g35_2_0_1_0
      · exact zc_g35_2_0_1_1
      · exact zc_g35_2_0_1_2
      · exact zc_g35_2_0_2_0
      · exact zc_g35_2_0_2_1
      · exact zc_g35_2_0_2_2
    · rcases ha with rfl | rfl <;> rcases hb with rfl | rfl | rfl
      · exact zc_g35_2_1_1_0
      · exact zc_g35_2_1_1_1
      · exact zc_g35_2_1_1_2
      · exact zc_g35_2_1_2_0
      · exact zc_g35_2_1_2_1
      · exact zc_g35_2_1_2_2
    · exact absurd rfl hdf
    · rcases ha with rfl | rfl <;> rcases hb with rfl | rfl | rfl
      · exact zc_g35_2_3_1_0
      · exact zc_g35_2_3_1_1
      · exact zc_g35_2_3_1_2
      · exact zc_g35_2_3_2_0
      · exact zc_g35_2_3_2_1
      · exact zc_g35_2_3_2_2
    · rcases ha with rfl | rfl <;> rcases hb with rfl | rfl | rfl
      · exact zc_g35_2_4_1_0
      · exact zc_g35_2_4_1_1
      · exact zc_g35_2_4_1_2
      · exact zc_g35_2_4_2_0
      · exact zc_g35_2_4_2_1
      · exact zc_g35_2_4_2_2
    · rcases ha with rfl | rfl <;> rcases hb with rfl | rfl | rfl
      · exact zc_g35_2_5_1_0
      · exact zc_g35_2_5_1_1
      · exact zc_g35_2_5_1_2
      · exact zc_g35_2_5_2_0
      · exact zc_g35_2_5_2_1
      · exact zc_g35_2_5_2_2
  · rcases g6 with rfl | rfl | rfl | rfl | rfl | rfl
    · rcases ha with rfl | rfl <;> rcases hb with rfl | rfl | rfl
      · exact zc_g35_3_0_1_0
      · exact zc_g35_3_0_1_1
      · exact zc_g35_3_0_1_2
      · exact zc_g35_3_0_2_0
      · exact zc_g35_3_0_2_1
      · exact zc_g35_3_0_2_2
    · rcases ha with rfl | rfl <;> rcases hb with rfl | rfl | rfl
      · exact zc_g35_3_1_1_0
      · exact zc_g35_3_1_1_1
      · exact zc_g35_3_1_1_2
      · exact zc_g35_3_1_2_0
      · exact zc_g35_3_1_2_1
      · exact zc_g35_3_1_2_2
    · rcases ha with rfl | rfl <;> rcases hb with rfl | rfl | rfl
      · exact zc_g35_3_2_1_0
      · exact zc_g35_3_2_1_1
      · exact zc_g35_3_2_1_2
      · exact zc_g35_3_2_2_0
      · exact zc_g35_3_2_2_1
      · exact zc_g35_3_2_2_2
    · exact absurd rfl hdf
    · rcases ha with rfl | rfl <;> rcases hb with rfl | rfl | rfl
      · exact zc_g35_3_4_1_0
      · exact zc_g35_3_4_1_1
      · exact zc_g35_3_4_1_2
      · exact zc_g35_3_4_2_0
      · exact zc_g35_3_4_2_1
      · exact zc_g35_3_4_2_2
    · rcases ha with rfl | rfl <;> rcases hb with rfl | rfl | rfl
      · exact zc_g35_3_5_1_0
      · exact zc_g35_3_5_1_1
      · exact zc_g35_3_5_1_2
      · exact zc_g35_3_5_2_0
      · exact zc_g35_3_5_2_1
      · exact zc_g35_3_5_2_2
  · rcases g6 with rfl | rfl | rfl | rfl | rfl | rfl
    · rcases ha with rfl | rfl <;> rcases hb with rfl | rfl | rfl
      · exact zc_g35_4_0_1_0
      · exact zc_g35_4_0_1_1
      · exact zc_g35_4_0_1_2
      · exact zc_g35_4_0_2_0
      · exact zc_g35_4_0_2_1
      · exact zc_g35_4_0_2_2
    · rcases ha with rfl | rfl <;> rcases hb with rfl | rfl | rfl
      · exact zc_g35_4_1_1_0
      · exact zc_g35_4_1_1_1
      · exact zc_g35_4_1_1_2
      · exact zc_g35_4_1_2_0
      · exact zc_g35_4_1_2_1
      · exact zc_g35_4_1_2_2
    · rcases ha with rfl | rfl <;> rcases hb with rfl | rfl | rfl
      · exact zc_g35_4_2_1_0
      · exact zc_g35_4_2_1_1
      · exact zc_g35_4_2_1_2
      · exact zc_g35_4_2_2_0
      · exact zc_g35_4_2_2_1
      · exact zc_g35_4_2_2_2
    · rcases ha with rfl | rfl <;> rcases hb with rfl | rfl | rfl
      · exact zc_g35_4_3_1_0
      · exact zc_g35_4_3_1_1
      · exact zc_g35_4_3_1_2
      · exact zc_g35_4_3_2_0
      · exact zc_g35_4_3_2_1
      · exact zc_g35_4_3_2_2
    · exact absurd rfl hdf
    · rcases ha with rfl | rfl <;> rcases hb with rfl | rfl | rfl
      · exact zc_g35_4_5_1_0
      · exact zc_g35_4_5_1_1
      · exact zc_g35_4_5_1_2
      · exact zc_g35_4_5_2_0
      · exact zc_g35_4_5_2_1
      · exact zc_g35_4_5_2_2
  · rcases g6 with rfl | rfl | rfl | rfl | rfl | rfl
    · rcases ha with rfl | rfl <;> rcases hb with rfl | rfl | rfl
      · exact zc_g35_5_0_1_0
      · exact zc_g35_5_0_1_1
      · exact zc_g35_5_0_1_2
      · exact zc_g35_5_0_2_0
      · exact zc_g35_5_0_2_1
      · exact zc_g35_5_0_2_2
    · rcases ha with rfl | rfl <;> rcases hb with rfl | rfl | rfl
      · exact zc_g35_5_1_1_0
      · exact zc_g35_5_1_1_1
      · exact zc_g35_5_1_1_2
      · exact zc_g35_5_1_2_0
      · exact zc_g35_5_1_2_1
      · exact zc_g35_5_1_2_2
    · rcases ha with rfl | rfl <;> rcases hb with rfl | rfl | rfl
      · exact zc_g35_5_2_1_0
      · exact zc_g35_5_2_1_1
      · exact zc_g35_5_2_1_2
      · exact zc_g35_5_2_2_0
      · exact zc_g35_5_2_2_1
      · exact zc_g35_5_2_2_2
    · rcases ha with rfl | rfl <;> rcases hb with rfl | rfl | rfl
      · exact zc_g35_5_3_1_0
      · exact zc_g35_5_3_1_1
      · exact zc_g35_5_3_1_2
      · exact zc_g35_5_3_2_0
      · exact zc_g35_5_3_2_1
      · exact zc_g35_5_3_2_2
    · rcases ha with rfl | rfl <;> rcases hb with rfl | rfl | rfl
      · exact zc_g35_5_4_1_0
      · exact zc_g35_5_4_1_1
      · exact zc_g35_5_4_1_2
      · exact zc_g35_5_4_2_0
      · exact zc_g35_5_4_2_1
      · exact zc_g35_5_4_2_2
    · exact absurd rfl hdf
