/-! the tests of the methods, decided by the kernel (wip/e2/out.py) -/
set_option maxRecDepth 100000 in
theorem zb_c180_0 : zb_chk zb_tT (false, []) rf_ms zb_SP zb_nX 3000 6 zb_ns rf_m180 zb_p180_0 = true := by decide +kernel
set_option maxRecDepth 100000 in
theorem zb_c92_0 : zb_chk zb_tT (false, []) rf_ms zb_SP zb_nX 3000 6 zb_ns rf_m92 zb_p92_0 = true := by decide +kernel
set_option maxRecDepth 100000 in
theorem zb_c21_0 : zb_chk zb_tT (false, []) rf_ms zb_SP zb_nX 3000 6 zb_ns rf_m21 zb_p21_0 = true := by decide +kernel
set_option maxRecDepth 100000 in
theorem zb_c166_0 : zb_chk zb_tT (false, []) rf_ms zb_SP zb_nX 3000 6 zb_ns rf_m166 zb_p166_0 = true := by decide +kernel
set_option maxRecDepth 100000 in
theorem zb_c40_0 : zb_chk zb_tT (false, []) rf_ms zb_SP zb_nX 3000 6 zb_ns rf_m40 zb_p40_0 = true := by decide +kernel
set_option maxRecDepth 100000 in
theorem zb_c174_0 : zb_chk zb_tT (false, []) rf_ms zb_SP zb_nX 3000 6 zb_ns rf_m174 zb_p174_0 = true := by decide +kernel
