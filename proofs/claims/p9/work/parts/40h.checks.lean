/-! the tests of the methods, decided by the kernel (wip/e2/out.py) -/
set_option maxRecDepth 100000 in
theorem zb_c132_0 : zb_chk zb_tT (false, [1, 3]) rf_ms zb_SP zb_nX 3000 6 zb_ns rf_m132 zb_p132_0 = true := by decide +kernel
