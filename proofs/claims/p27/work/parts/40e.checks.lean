/-! the tests of the methods, decided by the kernel (wip/e2/out.py) -/
set_option maxRecDepth 100000 in
theorem zb_c6_0 : zb_chk zb_tT (false, [0, 1, 2, 3, 4, 5, 6]) rf_ms zb_SP zb_nX 3000 12 zb_ns rf_m6 zb_p6_0 = true := by decide +kernel
set_option maxRecDepth 100000 in
theorem zb_c6_1 : zb_chk zb_tT (false, [0, 1, 2, 3, 4, 5, 6]) rf_ms zb_SP zb_nX 3000 12 zb_ns rf_m6 zb_p6_1 = true := by decide +kernel
set_option maxRecDepth 100000 in
theorem zb_c155_0 : zb_chk zb_tT (false, []) rf_ms zb_SP zb_nX 3000 6 zb_ns rf_m155 zb_p155_0 = true := by decide +kernel
set_option maxRecDepth 100000 in
theorem zb_c97_0 : zb_chk zb_tT (false, []) rf_ms zb_SP zb_nX 3000 6 zb_ns rf_m97 zb_p97_0 = true := by decide +kernel
set_option maxRecDepth 100000 in
theorem zb_c6_2 : zb_chk zb_tT (false, [0, 1, 2, 3, 4, 5, 6]) rf_ms zb_SP zb_nX 3000 12 zb_ns rf_m6 zb_p6_2 = true := by decide +kernel
