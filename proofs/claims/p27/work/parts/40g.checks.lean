/-! the tests of the methods, decided by the kernel (wip/e2/out.py) -/
set_option maxRecDepth 100000 in
theorem zb_c216_0 : zb_chk zb_tT (false, [0, 1, 2, 3, 4, 5, 6]) rf_ms zb_SP zb_nX 3000 16 zb_ns rf_m216 zb_p216_0 = true := by decide +kernel
