/-! the tests of the methods, decided by the kernel (wip/e2/out.py) -/
set_option maxRecDepth 100000 in
theorem zb_c88_0 : zb_chk zb_tT (false, []) rf_ms zb_SP zb_nX 3000 6 zb_ns rf_m88 zb_p88_0 = true := by decide +kernel
set_option maxRecDepth 100000 in
theorem zb_c147_0 : zb_chk zb_tT (false, []) rf_ms zb_SP zb_nX 3000 6 zb_ns rf_m147 zb_p147_0 = true := by decide +kernel
set_option maxRecDepth 100000 in
theorem zb_c187_0 : zb_chk zb_tT (false, []) rf_ms zb_SP zb_nX 3000 6 zb_ns rf_m187 zb_p187_0 = true := by decide +kernel
set_option maxRecDepth 100000 in
theorem zb_c87_0 : zb_chk zb_tT (false, []) rf_ms zb_SP zb_nX 3000 6 zb_ns rf_m87 zb_p87_0 = true := by decide +kernel
set_option maxRecDepth 100000 in
theorem zb_c162_0 : zb_chk zb_tT (false, []) rf_ms zb_SP zb_nX 3000 6 zb_ns rf_m162 zb_p162_0 = true := by decide +kernel
set_option maxRecDepth 100000 in
theorem zb_c183_0 : zb_chk zb_tT (false, []) rf_ms zb_SP zb_nX 3000 6 zb_ns rf_m183 zb_p183_0 = true := by decide +kernel
set_option maxRecDepth 100000 in
theorem zb_c85_0 : zb_chk zb_tT (false, []) rf_ms zb_SP zb_nX 3000 6 zb_ns rf_m85 zb_p85_0 = true := by decide +kernel
set_option maxRecDepth 100000 in
theorem zb_c93_0 : zb_chk zb_tT (false, []) rf_ms zb_SP zb_nX 3000 6 zb_ns rf_m93 zb_p93_0 = true := by decide +kernel
set_option maxRecDepth 100000 in
theorem zb_c105_0 : zb_chk zb_tT (false, []) rf_ms zb_SP zb_nX 3000 6 zb_ns rf_m105 zb_p105_0 = true := by decide +kernel
set_option maxRecDepth 100000 in
theorem zb_c163_0 : zb_chk zb_tT (false, []) rf_ms zb_SP zb_nX 3000 6 zb_ns rf_m163 zb_p163_0 = true := by decide +kernel
set_option maxRecDepth 100000 in
theorem zb_c76_0 : zb_chk zb_tT (false, []) rf_ms zb_SP zb_nX 3000 6 zb_ns rf_m76 zb_p76_0 = true := by decide +kernel
set_option maxRecDepth 100000 in
theorem zb_c193_0 : zb_chk zb_tT (false, []) rf_ms zb_SP zb_nX 3000 6 zb_ns rf_m193 zb_p193_0 = true := by decide +kernel
set_option maxRecDepth 100000 in
theorem zb_c142_0 : zb_chk zb_tT (false, []) rf_ms zb_SP zb_nX 3000 6 zb_ns rf_m142 zb_p142_0 = true := by decide +kernel
set_option maxRecDepth 100000 in
theorem zb_c101_0 : zb_chk zb_tT (false, []) rf_ms zb_SP zb_nX 3000 6 zb_ns rf_m101 zb_p101_0 = true := by decide +kernel
set_option maxRecDepth 100000 in
theorem zb_c194_0 : zb_chk zb_tT (false, []) rf_ms zb_SP zb_nX 3000 6 zb_ns rf_m194 zb_p194_0 = true := by decide +kernel
set_option maxRecDepth 100000 in
theorem zb_c185_0 : zb_chk zb_tT (false, []) rf_ms zb_SP zb_nX 3000 6 zb_ns rf_m185 zb_p185_0 = true := by decide +kernel
set_option maxRecDepth 100000 in
theorem zb_c36_0 : zb_chk zb_tT (false, []) rf_ms zb_SP zb_nX 3000 6 zb_ns rf_m36 zb_p36_0 = true := by decide +kernel
set_option maxRecDepth 100000 in
theorem zb_c33_0 : zb_chk zb_tT (false, []) rf_ms zb_SP zb_nX 3000 6 zb_ns rf_m33 zb_p33_0 = true := by decide +kernel
set_option maxRecDepth 100000 in
theorem zb_c33_1 : zb_chk zb_tT (false, []) rf_ms zb_SP zb_nX 3000 6 zb_ns rf_m33 zb_p33_1 = true := by decide +kernel
set_option maxRecDepth 100000 in
theorem zb_c164_0 : zb_chk zb_tT (false, []) rf_ms zb_SP zb_nX 3000 6 zb_ns rf_m164 zb_p164_0 = true := by decide +kernel
set_option maxRecDepth 100000 in
theorem zb_c83_0 : zb_chk zb_tT (false, []) rf_ms zb_SP zb_nX 3000 6 zb_ns rf_m83 zb_p83_0 = true := by decide +kernel
set_option maxRecDepth 100000 in
theorem zb_c115_0 : zb_chk zb_tT (false, []) rf_ms zb_SP zb_nX 3000 6 zb_ns rf_m115 zb_p115_0 = true := by decide +kernel
set_option maxRecDepth 100000 in
theorem zb_c84_0 : zb_chk zb_tT (false, []) rf_ms zb_SP zb_nX 3000 6 zb_ns rf_m84 zb_p84_0 = true := by decide +kernel
set_option maxRecDepth 100000 in
theorem zb_c109_0 : zb_chk zb_tT (false, []) rf_ms zb_SP zb_nX 3000 6 zb_ns rf_m109 zb_p109_0 = true := by decide +kernel
set_option maxRecDepth 100000 in
theorem zb_c33_3 : zb_chk zb_tT (false, []) rf_ms zb_SP zb_nX 3000 6 zb_ns rf_m33 zb_p33_3 = true := by decide +kernel
set_option maxRecDepth 100000 in
theorem zb_c189_0 : zb_chk zb_tT (false, []) rf_ms zb_SP zb_nX 3000 6 zb_ns rf_m189 zb_p189_0 = true := by decide +kernel
set_option maxRecDepth 100000 in
theorem zb_c32_0 : zb_chk zb_tT (false, []) rf_ms zb_SP zb_nX 3000 6 zb_ns rf_m32 zb_p32_0 = true := by decide +kernel
set_option maxRecDepth 100000 in
theorem zb_c205_0 : zb_chk zb_tT (false, []) rf_ms zb_SP zb_nX 3000 6 zb_ns rf_m205 zb_p205_0 = true := by decide +kernel
set_option maxRecDepth 100000 in
theorem zb_c190_0 : zb_chk zb_tT (false, []) rf_ms zb_SP zb_nX 3000 6 zb_ns rf_m190 zb_p190_0 = true := by decide +kernel
set_option maxRecDepth 100000 in
theorem zb_c33_4 : zb_chk zb_tT (false, []) rf_ms zb_SP zb_nX 3000 6 zb_ns rf_m33 zb_p33_4 = true := by decide +kernel
set_option maxRecDepth 100000 in
theorem zb_c33_2 : zb_chk zb_tT (false, []) rf_ms zb_SP zb_nX 3000 6 zb_ns rf_m33 zb_p33_2 = true := by decide +kernel
set_option maxRecDepth 100000 in
theorem zb_c81_0 : zb_chk zb_tT (false, []) rf_ms zb_SP zb_nX 3000 6 zb_ns rf_m81 zb_p81_0 = true := by decide +kernel
