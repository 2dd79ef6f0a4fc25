/-! the tests of the methods, decided by the kernel (wip/e2/out.py) -/
set_option maxRecDepth 100000 in
theorem zb_c156_0 : zb_chk zb_tT (false, []) rf_ms zb_SP zb_nX 3000 6 zb_ns rf_m156 zb_p156_0 = true := by decide +kernel
set_option maxRecDepth 100000 in
theorem zb_c152_0 : zb_chk zb_tT (false, []) rf_ms zb_SP zb_nX 3000 6 zb_ns rf_m152 zb_p152_0 = true := by decide +kernel
