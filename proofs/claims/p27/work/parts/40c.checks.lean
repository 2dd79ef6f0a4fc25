/-! the tests of the methods, decided by the kernel (wip/e2/out.py) -/
set_option maxRecDepth 100000 in
theorem zb_c99_0 : zb_chk zb_tT (false, []) rf_ms zb_SP zb_nX 3000 6 zb_ns rf_m99 zb_p99_0 = true := by decide +kernel
set_option maxRecDepth 100000 in
theorem zb_c123_0 : zb_chk zb_tT (false, []) rf_ms zb_SP zb_nX 3000 6 zb_ns rf_m123 zb_p123_0 = true := by decide +kernel
set_option maxRecDepth 100000 in
theorem zb_c166_0 : zb_chk zb_tT (false, []) rf_ms zb_SP zb_nX 3000 6 zb_ns rf_m166 zb_p166_0 = true := by decide +kernel
set_option maxRecDepth 100000 in
theorem zb_c198_0 : zb_chk zb_tT (false, []) rf_ms zb_SP zb_nX 3000 6 zb_ns rf_m198 zb_p198_0 = true := by decide +kernel
set_option maxRecDepth 100000 in
theorem zb_c199_0 : zb_chk zb_tT (false, []) rf_ms zb_SP zb_nX 3000 6 zb_ns rf_m199 zb_p199_0 = true := by decide +kernel
set_option maxRecDepth 100000 in
theorem zb_c22_0 : zb_chk zb_tT (false, []) rf_ms zb_SP zb_nX 3000 6 zb_ns rf_m22 zb_p22_0 = true := by decide +kernel
set_option maxRecDepth 100000 in
theorem zb_c124_0 : zb_chk zb_tT (false, []) rf_ms zb_SP zb_nX 3000 6 zb_ns rf_m124 zb_p124_0 = true := by decide +kernel
set_option maxRecDepth 100000 in
theorem zb_c219_0 : zb_chk zb_tT (false, []) rf_ms zb_SP zb_nX 3000 6 zb_ns rf_m219 zb_p219_0 = true := by decide +kernel
set_option maxRecDepth 100000 in
theorem zb_c165_0 : zb_chk zb_tT (false, []) rf_ms zb_SP zb_nX 3000 6 zb_ns rf_m165 zb_p165_0 = true := by decide +kernel
set_option maxRecDepth 100000 in
theorem zb_c34_0 : zb_chk zb_tT (false, []) rf_ms zb_SP zb_nX 3000 6 zb_ns rf_m34 zb_p34_0 = true := by decide +kernel
set_option maxRecDepth 100000 in
theorem zb_c40_0 : zb_chk zb_tT (false, []) rf_ms zb_SP zb_nX 3000 6 zb_ns rf_m40 zb_p40_0 = true := by decide +kernel
set_option maxRecDepth 100000 in
theorem zb_c196_0 : zb_chk zb_tT (false, []) rf_ms zb_SP zb_nX 3000 6 zb_ns rf_m196 zb_p196_0 = true := by decide +kernel
set_option maxRecDepth 100000 in
theorem zb_c149_0 : zb_chk zb_tT (false, []) rf_ms zb_SP zb_nX 3000 6 zb_ns rf_m149 zb_p149_0 = true := by decide +kernel
set_option maxRecDepth 100000 in
theorem zb_c6_3 : zb_chk zb_tT (false, [0, 1, 2, 3, 4, 5, 6]) rf_ms zb_SP zb_nX 3000 12 zb_ns rf_m6 zb_p6_3 = true := by decide +kernel
set_option maxRecDepth 100000 in
theorem zb_c204_0 : zb_chk zb_tT (false, []) rf_ms zb_SP zb_nX 3000 6 zb_ns rf_m204 zb_p204_0 = true := by decide +kernel
