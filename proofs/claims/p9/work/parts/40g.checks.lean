/-! the tests of the methods, decided by the kernel (wip/e2/out.py) -/
set_option maxRecDepth 100000 in
theorem zb_cn150_0 : (zb_dn zb_ns zb_p150_0 && zb_dq 6 zb_p150_0) = true := by decide +kernel
set_option maxRecDepth 100000 in
theorem zb_ce150_0 : zb_seg zb_tT (false, []) rf_ms (zb_S rf_ms zb_SP zb_nX zb_p150_0.1.1.1.length zb_p150_0.2.2.2.2 zb_p150_0.2.2.2.1 6) 3000 6 rf_m150 zb_p150_0 0 zb_p150_0.1 none = true := by decide +kernel
set_option maxRecDepth 100000 in
theorem zb_cs150_0_0 : zb_seg zb_tT (false, []) rf_ms (zb_S rf_ms zb_SP zb_nX zb_p150_0.1.1.1.length zb_p150_0.2.2.2.2 zb_p150_0.2.2.2.1 6) 3000 6 rf_m150 zb_p150_0 zb_d150_0_0.1 zb_d150_0_0.2.1 (some zb_d150_0_0.2.2) = true := by decide +kernel
set_option maxRecDepth 100000 in
theorem zb_cs150_0_1 : zb_seg zb_tT (false, []) rf_ms (zb_S rf_ms zb_SP zb_nX zb_p150_0.1.1.1.length zb_p150_0.2.2.2.2 zb_p150_0.2.2.2.1 6) 3000 6 rf_m150 zb_p150_0 zb_d150_0_1.1 zb_d150_0_1.2.1 (some zb_d150_0_1.2.2) = true := by decide +kernel
set_option maxRecDepth 100000 in
theorem zb_cs150_0_2 : zb_seg zb_tT (false, []) rf_ms (zb_S rf_ms zb_SP zb_nX zb_p150_0.1.1.1.length zb_p150_0.2.2.2.2 zb_p150_0.2.2.2.1 6) 3000 6 rf_m150 zb_p150_0 zb_d150_0_2.1 zb_d150_0_2.2.1 (some zb_d150_0_2.2.2) = true := by decide +kernel
set_option maxRecDepth 100000 in
theorem zb_cs150_0_3 : zb_seg zb_tT (false, []) rf_ms (zb_S rf_ms zb_SP zb_nX zb_p150_0.1.1.1.length zb_p150_0.2.2.2.2 zb_p150_0.2.2.2.1 6) 3000 6 rf_m150 zb_p150_0 zb_d150_0_3.1 zb_d150_0_3.2.1 (some zb_d150_0_3.2.2) = true := by decide +kernel
set_option maxRecDepth 100000 in
theorem zb_cs150_0_4 : zb_seg zb_tT (false, []) rf_ms (zb_S rf_ms zb_SP zb_nX zb_p150_0.1.1.1.length zb_p150_0.2.2.2.2 zb_p150_0.2.2.2.1 6) 3000 6 rf_m150 zb_p150_0 zb_d150_0_4.1 zb_d150_0_4.2.1 (some zb_d150_0_4.2.2) = true := by decide +kernel
set_option maxRecDepth 100000 in
theorem zb_cs150_0_5 : zb_seg zb_tT (false, []) rf_ms (zb_S rf_ms zb_SP zb_nX zb_p150_0.1.1.1.length zb_p150_0.2.2.2.2 zb_p150_0.2.2.2.1 6) 3000 6 rf_m150 zb_p150_0 zb_d150_0_5.1 zb_d150_0_5.2.1 (some zb_d150_0_5.2.2) = true := by decide +kernel
set_option maxRecDepth 100000 in
theorem zb_cs150_0_6 : zb_seg zb_tT (false, []) rf_ms (zb_S rf_ms zb_SP zb_nX zb_p150_0.1.1.1.length zb_p150_0.2.2.2.2 zb_p150_0.2.2.2.1 6) 3000 6 rf_m150 zb_p150_0 zb_d150_0_6.1 zb_d150_0_6.2.1 (some zb_d150_0_6.2.2) = true := by decide +kernel
set_option maxRecDepth 100000 in
theorem zb_cs150_0_7 : zb_seg zb_tT (false, []) rf_ms (zb_S rf_ms zb_SP zb_nX zb_p150_0.1.1.1.length zb_p150_0.2.2.2.2 zb_p150_0.2.2.2.1 6) 3000 6 rf_m150 zb_p150_0 zb_d150_0_7.1 zb_d150_0_7.2.1 (some zb_d150_0_7.2.2) = true := by decide +kernel
set_option maxRecDepth 100000 in
theorem zb_cs150_0_8 : zb_seg zb_tT (false, []) rf_ms (zb_S rf_ms zb_SP zb_nX zb_p150_0.1.1.1.length zb_p150_0.2.2.2.2 zb_p150_0.2.2.2.1 6) 3000 6 rf_m150 zb_p150_0 zb_d150_0_8.1 zb_d150_0_8.2.1 (some zb_d150_0_8.2.2) = true := by decide +kernel
set_option maxRecDepth 100000 in
theorem zb_c150_0 : zb_chk zb_tT (false, []) rf_ms zb_SP zb_nX 3000 6 zb_ns rf_m150 zb_p150_0 = true := zb_chk_of (an_and zb_cn150_0).1 (an_and zb_cn150_0).2 zb_ce150_0 (List.forall_mem_cons.mpr ⟨zb_cs150_0_0, List.forall_mem_cons.mpr ⟨zb_cs150_0_1, List.forall_mem_cons.mpr ⟨zb_cs150_0_2, List.forall_mem_cons.mpr ⟨zb_cs150_0_3, List.forall_mem_cons.mpr ⟨zb_cs150_0_4, List.forall_mem_cons.mpr ⟨zb_cs150_0_5, List.forall_mem_cons.mpr ⟨zb_cs150_0_6, List.forall_mem_cons.mpr ⟨zb_cs150_0_7, List.forall_mem_cons.mpr ⟨zb_cs150_0_8, List.forall_mem_nil _⟩⟩⟩⟩⟩⟩⟩⟩⟩)
set_option maxRecDepth 100000 in
theorem zb_c152_0 : zb_chk zb_tT (false, []) rf_ms zb_SP zb_nX 3000 6 zb_ns rf_m152 zb_p152_0 = true := by decide +kernel
