/-! the tests of Model.friends, but for its first loop -/
set_option maxRecDepth 100000 in
theorem zb_cf1 : (zb_dn zb_ns zb_f1 && zb_seg zb_tT (false, []) rf_ms zb_Sf 3000 6 rf_m191 zb_f1 0 zb_f1.1 none) = true := by decide +kernel
set_option maxRecDepth 100000 in
theorem zb_cf2 : (zb_dn zb_ns zb_f2 && zb_chkc zb_tT (false, []) rf_ms zb_SP zb_nX 3000 6 rf_m191 zb_f2) = true := by decide +kernel
