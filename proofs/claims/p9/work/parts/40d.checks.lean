/-! the tests of the methods, decided by the kernel (wip/e2/out.py) -/
set_option maxRecDepth 100000 in
theorem zb_c149_0 : zb_chk zb_tT (false, []) rf_ms zb_SP zb_nX 3000 6 zb_ns rf_m149 zb_p149_0 = true := by decide +kernel
set_option maxRecDepth 100000 in
theorem zb_c6_3 : zb_chk zb_tT (false, [0, 1, 2, 3, 4, 5, 6]) rf_ms zb_SP zb_nX 3000 12 zb_ns rf_m6 zb_p6_3 = true := by decide +kernel
set_option maxRecDepth 100000 in
theorem zb_c204_0 : zb_chk zb_tT (false, []) rf_ms zb_SP zb_nX 3000 6 zb_ns rf_m204 zb_p204_0 = true := by decide +kernel
set_option maxRecDepth 100000 in
theorem zb_c223_0 : zb_chk zb_tT (false, []) rf_ms zb_SP zb_nX 3000 6 zb_ns rf_m223 zb_p223_0 = true := by decide +kernel
set_option maxRecDepth 100000 in
theorem zb_c174_0 : zb_chk zb_tT (false, []) rf_ms zb_SP zb_nX 3000 6 zb_ns rf_m174 zb_p174_0 = true := by decide +kernel
set_option maxRecDepth 100000 in
theorem zb_c206_0 : zb_chk zb_tT (false, []) rf_ms zb_SP zb_nX 3000 6 zb_ns rf_m206 zb_p206_0 = true := by decide +kernel
set_option maxRecDepth 100000 in
theorem zb_c168_0 : zb_chk zb_tT (false, []) rf_ms zb_SP zb_nX 3000 6 zb_ns rf_m168 zb_p168_0 = true := by decide +kernel
set_option maxRecDepth 100000 in
theorem zb_c169_0 : zb_chk zb_tT (false, []) rf_ms zb_SP zb_nX 3000 6 zb_ns rf_m169 zb_p169_0 = true := by decide +kernel
set_option maxRecDepth 100000 in
theorem zb_c19_0 : zb_chk zb_tT (false, []) rf_ms zb_SP zb_nX 3000 6 zb_ns rf_m19 zb_p19_0 = true := by decide +kernel
