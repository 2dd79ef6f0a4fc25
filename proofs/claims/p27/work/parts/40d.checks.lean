/-! the tests of the methods, decided by the kernel (wip/e2/out.py) -/
set_option maxRecDepth 100000 in
theorem zb_c174_0 : zb_chk zb_tT (false, []) rf_ms zb_SP zb_nX 3000 6 zb_ns rf_m174 zb_p174_0 = true := by decide +kernel
set_option maxRecDepth 100000 in
theorem zb_c206_0 : zb_chk zb_tT (false, []) rf_ms zb_SP zb_nX 3000 6 zb_ns rf_m206 zb_p206_0 = true := by decide +kernel
set_option maxRecDepth 100000 in
theorem zb_c168_0 : zb_chk zb_tT (false, []) rf_ms zb_SP zb_nX 3000 6 zb_ns rf_m168 zb_p168_0 = true := by decide +kernel
set_option maxRecDepth 100000 in
theorem zb_c169_0 : zb_chk zb_tT (false, []) rf_ms zb_SP zb_nX 3000 6 zb_ns rf_m169 zb_p169_0 = true := by decide +kernel
set_option maxRecDepth 100000 in
theorem zb_c19_0 : zb_chk zb_tT (false, []) rf_ms zb_SP zb_nX 3000 6 zb_ns rf_m19 zb_p19_0 = true := by decide +kernel
set_option maxRecDepth 100000 in
theorem zb_c203_0 : zb_chk zb_tT (false, []) rf_ms zb_SP zb_nX 3000 6 zb_ns rf_m203 zb_p203_0 = true := by decide +kernel
set_option maxRecDepth 100000 in
theorem zb_c226_0 : zb_chk zb_tT (false, []) rf_ms zb_SP zb_nX 3000 6 zb_ns rf_m226 zb_p226_0 = true := by decide +kernel
set_option maxRecDepth 100000 in
theorem zb_c178_0 : zb_chk zb_tT (false, []) rf_ms zb_SP zb_nX 3000 6 zb_ns rf_m178 zb_p178_0 = true := by decide +kernel
