/-! the tests of the methods, decided by the kernel (wip/e2/out.py) -/
set_option maxRecDepth 100000 in
theorem zb_c114_0 : zb_chk zb_tT (false, []) rf_ms zb_SP zb_nX 3000 6 zb_ns rf_m114 zb_p114_0 = true := by decide +kernel
set_option maxRecDepth 100000 in
theorem zb_c33_5 : zb_chk zb_tT (false, []) rf_ms zb_SP zb_nX 3000 6 zb_ns rf_m33 zb_p33_5 = true := by decide +kernel
set_option maxRecDepth 100000 in
theorem zb_c197_0 : zb_chk zb_tT (false, []) rf_ms zb_SP zb_nX 3000 6 zb_ns rf_m197 zb_p197_0 = true := by decide +kernel
set_option maxRecDepth 100000 in
theorem zb_c122_0 : zb_chk zb_tT (false, []) rf_ms zb_SP zb_nX 3000 6 zb_ns rf_m122 zb_p122_0 = true := by decide +kernel
set_option maxRecDepth 100000 in
theorem zb_c229_0 : zb_chk zb_tT (false, []) rf_ms zb_SP zb_nX 3000 6 zb_ns rf_m229 zb_p229_0 = true := by decide +kernel
set_option maxRecDepth 100000 in
theorem zb_c217_0 : zb_chk zb_tT (false, []) rf_ms zb_SP zb_nX 3000 6 zb_ns rf_m217 zb_p217_0 = true := by decide +kernel
set_option maxRecDepth 100000 in
theorem zb_c72_0 : zb_chk zb_tT (false, []) rf_ms zb_SP zb_nX 3000 6 zb_ns rf_m72 zb_p72_0 = true := by decide +kernel
set_option maxRecDepth 100000 in
theorem zb_c73_0 : zb_chk zb_tT (false, []) rf_ms zb_SP zb_nX 3000 6 zb_ns rf_m73 zb_p73_0 = true := by decide +kernel
set_option maxRecDepth 100000 in
theorem zb_c111_0 : zb_chk zb_tT (false, []) rf_ms zb_SP zb_nX 3000 6 zb_ns rf_m111 zb_p111_0 = true := by decide +kernel
set_option maxRecDepth 100000 in
theorem zb_c107_0 : zb_chk zb_tT (false, []) rf_ms zb_SP zb_nX 3000 6 zb_ns rf_m107 zb_p107_0 = true := by decide +kernel
set_option maxRecDepth 100000 in
theorem zb_c143_0 : zb_chk zb_tT (false, []) rf_ms zb_SP zb_nX 3000 6 zb_ns rf_m143 zb_p143_0 = true := by decide +kernel
set_option maxRecDepth 100000 in
theorem zb_c78_0 : zb_chk zb_tT (false, []) rf_ms zb_SP zb_nX 3000 6 zb_ns rf_m78 zb_p78_0 = true := by decide +kernel
set_option maxRecDepth 100000 in
theorem zb_c118_0 : zb_chk zb_tT (false, []) rf_ms zb_SP zb_nX 3000 6 zb_ns rf_m118 zb_p118_0 = true := by decide +kernel
set_option maxRecDepth 100000 in
theorem zb_c112_0 : zb_chk zb_tT (false, []) rf_ms zb_SP zb_nX 3000 6 zb_ns rf_m112 zb_p112_0 = true := by decide +kernel
set_option maxRecDepth 100000 in
theorem zb_c113_0 : zb_chk zb_tT (false, []) rf_ms zb_SP zb_nX 3000 6 zb_ns rf_m113 zb_p113_0 = true := by decide +kernel
set_option maxRecDepth 100000 in
theorem zb_c144_0 : zb_chk zb_tT (false, []) rf_ms zb_SP zb_nX 3000 6 zb_ns rf_m144 zb_p144_0 = true := by decide +kernel
set_option maxRecDepth 100000 in
theorem zb_c227_0 : zb_chk zb_tT (false, []) rf_ms zb_SP zb_nX 3000 6 zb_ns rf_m227 zb_p227_0 = true := by decide +kernel
set_option maxRecDepth 100000 in
theorem zb_c62_0 : zb_chk zb_tT (false, []) rf_ms zb_SP zb_nX 3000 6 zb_ns rf_m62 zb_p62_0 = true := by decide +kernel
set_option maxRecDepth 100000 in
theorem zb_c177_0 : zb_chk zb_tT (false, []) rf_ms zb_SP zb_nX 3000 6 zb_ns rf_m177 zb_p177_0 = true := by decide +kernel
set_option maxRecDepth 100000 in
theorem zb_c4_0 : zb_chk zb_tT (false, []) rf_ms zb_SP zb_nX 3000 6 zb_ns rf_m4 zb_p4_0 = true := by decide +kernel
set_option maxRecDepth 100000 in
theorem zb_c102_0 : zb_chk zb_tT (false, []) rf_ms zb_SP zb_nX 3000 6 zb_ns rf_m102 zb_p102_0 = true := by decide +kernel
set_option maxRecDepth 100000 in
theorem zb_c125_0 : zb_chk zb_tT (false, []) rf_ms zb_SP zb_nX 3000 6 zb_ns rf_m125 zb_p125_0 = true := by decide +kernel
set_option maxRecDepth 100000 in
theorem zb_c180_0 : zb_chk zb_tT (false, []) rf_ms zb_SP zb_nX 3000 6 zb_ns rf_m180 zb_p180_0 = true := by decide +kernel
set_option maxRecDepth 100000 in
theorem zb_c47_0 : zb_chk zb_tT (false, []) rf_ms zb_SP zb_nX 3000 6 zb_ns rf_m47 zb_p47_0 = true := by decide +kernel
set_option maxRecDepth 100000 in
theorem zb_c77_0 : zb_chk zb_tT (false, []) rf_ms zb_SP zb_nX 3000 6 zb_ns rf_m77 zb_p77_0 = true := by decide +kernel
set_option maxRecDepth 100000 in
theorem zb_c103_0 : zb_chk zb_tT (false, []) rf_ms zb_SP zb_nX 3000 6 zb_ns rf_m103 zb_p103_0 = true := by decide +kernel
set_option maxRecDepth 100000 in
theorem zb_c127_0 : zb_chk zb_tT (false, []) rf_ms zb_SP zb_nX 3000 6 zb_ns rf_m127 zb_p127_0 = true := by decide +kernel
set_option maxRecDepth 100000 in
theorem zb_c170_0 : zb_chk zb_tT (false, []) rf_ms zb_SP zb_nX 3000 6 zb_ns rf_m170 zb_p170_0 = true := by decide +kernel
set_option maxRecDepth 100000 in
theorem zb_c92_0 : zb_chk zb_tT (false, []) rf_ms zb_SP zb_nX 3000 6 zb_ns rf_m92 zb_p92_0 = true := by decide +kernel
set_option maxRecDepth 100000 in
theorem zb_c89_0 : zb_chk zb_tT (false, []) rf_ms zb_SP zb_nX 3000 6 zb_ns rf_m89 zb_p89_0 = true := by decide +kernel
set_option maxRecDepth 100000 in
theorem zb_c106_0 : zb_chk zb_tT (false, []) rf_ms zb_SP zb_nX 3000 6 zb_ns rf_m106 zb_p106_0 = true := by decide +kernel
set_option maxRecDepth 100000 in
theorem zb_c116_0 : zb_chk zb_tT (false, []) rf_ms zb_SP zb_nX 3000 6 zb_ns rf_m116 zb_p116_0 = true := by decide +kernel
set_option maxRecDepth 100000 in
theorem zb_c186_0 : zb_chk zb_tT (false, []) rf_ms zb_SP zb_nX 3000 6 zb_ns rf_m186 zb_p186_0 = true := by decide +kernel
set_option maxRecDepth 100000 in
theorem zb_c126_0 : zb_chk zb_tT (false, [2]) rf_ms zb_SP zb_nX 3000 6 zb_ns rf_m126 zb_p126_0 = true := by decide +kernel
set_option maxRecDepth 100000 in
theorem zb_c175_0 : zb_chk zb_tT (false, []) rf_ms zb_SP zb_nX 3000 6 zb_ns rf_m175 zb_p175_0 = true := by decide +kernel
set_option maxRecDepth 100000 in
theorem zb_c23_0 : zb_chk zb_tT (false, []) rf_ms zb_SP zb_nX 3000 6 zb_ns rf_m23 zb_p23_0 = true := by decide +kernel
set_option maxRecDepth 100000 in
theorem zb_c110_0 : zb_chk zb_tT (false, []) rf_ms zb_SP zb_nX 3000 6 zb_ns rf_m110 zb_p110_0 = true := by decide +kernel
set_option maxRecDepth 100000 in
theorem zb_c117_0 : zb_chk zb_tT (false, []) rf_ms zb_SP zb_nX 3000 6 zb_ns rf_m117 zb_p117_0 = true := by decide +kernel
set_option maxRecDepth 100000 in
theorem zb_c195_0 : zb_chk zb_tT (false, []) rf_ms zb_SP zb_nX 3000 6 zb_ns rf_m195 zb_p195_0 = true := by decide +kernel
set_option maxRecDepth 100000 in
theorem zb_c21_0 : zb_chk zb_tT (false, []) rf_ms zb_SP zb_nX 3000 6 zb_ns rf_m21 zb_p21_0 = true := by decide +kernel
set_option maxRecDepth 100000 in
theorem zb_c128_0 : zb_chk zb_tT (false, []) rf_ms zb_SP zb_nX 3000 6 zb_ns rf_m128 zb_p128_0 = true := by decide +kernel
set_option maxRecDepth 100000 in
theorem zb_c119_0 : zb_chk zb_tT (false, []) rf_ms zb_SP zb_nX 3000 6 zb_ns rf_m119 zb_p119_0 = true := by decide +kernel
set_option maxRecDepth 100000 in
theorem zb_c120_0 : zb_chk zb_tT (false, []) rf_ms zb_SP zb_nX 3000 6 zb_ns rf_m120 zb_p120_0 = true := by decide +kernel
set_option maxRecDepth 100000 in
theorem zb_c121_0 : zb_chk zb_tT (false, []) rf_ms zb_SP zb_nX 3000 6 zb_ns rf_m121 zb_p121_0 = true := by decide +kernel
set_option maxRecDepth 100000 in
theorem zb_c202_0 : zb_chk zb_tT (false, []) rf_ms zb_SP zb_nX 3000 6 zb_ns rf_m202 zb_p202_0 = true := by decide +kernel
set_option maxRecDepth 100000 in
theorem zb_c26_0 : zb_chk zb_tT (false, []) rf_ms zb_SP zb_nX 3000 6 zb_ns rf_m26 zb_p26_0 = true := by decide +kernel
set_option maxRecDepth 100000 in
theorem zb_c79_0 : zb_chk zb_tT (false, []) rf_ms zb_SP zb_nX 3000 6 zb_ns rf_m79 zb_p79_0 = true := by decide +kernel
set_option maxRecDepth 100000 in
theorem zb_c133_0 : zb_chk zb_tT (false, []) rf_ms zb_SP zb_nX 3000 6 zb_ns rf_m133 zb_p133_0 = true := by decide +kernel
set_option maxRecDepth 100000 in
theorem zb_c158_0 : zb_chk zb_tT (false, []) rf_ms zb_SP zb_nX 3000 6 zb_ns rf_m158 zb_p158_0 = true := by decide +kernel
set_option maxRecDepth 100000 in
theorem zb_c173_0 : zb_chk zb_tT (false, []) rf_ms zb_SP zb_nX 3000 6 zb_ns rf_m173 zb_p173_0 = true := by decide +kernel
set_option maxRecDepth 100000 in
theorem zb_c209_0 : zb_chk zb_tT (false, []) rf_ms zb_SP zb_nX 3000 6 zb_ns rf_m209 zb_p209_0 = true := by decide +kernel
set_option maxRecDepth 100000 in
theorem zb_c86_0 : zb_chk zb_tT (false, []) rf_ms zb_SP zb_nX 3000 6 zb_ns rf_m86 zb_p86_0 = true := by decide +kernel
set_option maxRecDepth 100000 in
theorem zb_c134_0 : zb_chk zb_tT (false, []) rf_ms zb_SP zb_nX 3000 6 zb_ns rf_m134 zb_p134_0 = true := by decide +kernel
set_option maxRecDepth 100000 in
theorem zb_c184_0 : zb_chk zb_tT (false, []) rf_ms zb_SP zb_nX 3000 6 zb_ns rf_m184 zb_p184_0 = true := by decide +kernel
set_option maxRecDepth 100000 in
theorem zb_c90_0 : zb_chk zb_tT (false, []) rf_ms zb_SP zb_nX 3000 6 zb_ns rf_m90 zb_p90_0 = true := by decide +kernel
set_option maxRecDepth 100000 in
theorem zb_c192_0 : zb_chk zb_tT (false, []) rf_ms zb_SP zb_nX 3000 6 zb_ns rf_m192 zb_p192_0 = true := by decide +kernel
set_option maxRecDepth 100000 in
theorem zb_c80_0 : zb_chk zb_tT (false, []) rf_ms zb_SP zb_nX 3000 6 zb_ns rf_m80 zb_p80_0 = true := by decide +kernel
set_option maxRecDepth 100000 in
theorem zb_c104_0 : zb_chk zb_tT (false, []) rf_ms zb_SP zb_nX 3000 6 zb_ns rf_m104 zb_p104_0 = true := by decide +kernel
