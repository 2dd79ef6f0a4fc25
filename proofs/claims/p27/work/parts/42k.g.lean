/-! tests: customers, on -/
set_option maxRecDepth 100000 in
theorem zc_g2n_4 : zc_phn 256 292 65 (zc_na 4 (1, 7) (zc_rs 4 3 (zc_cd 4))) = true := by decide +kernel
set_option maxRecDepth 100000 in
theorem zc_g2p_4_0 : zc_ph 256 292 0 7 (zc_na 4 (1, 7) (zc_rs 4 3 (zc_cd 4))) = true := by decide +kernel
set_option maxRecDepth 100000 in
theorem zc_g2p_4_1 : zc_ph 256 292 7 4 (zc_na 4 (1, 7) (zc_rs 4 3 (zc_cd 4))) = true := by decide +kernel
set_option maxRecDepth 100000 in
theorem zc_g2p_4_2 : zc_ph 256 292 11 4 (zc_na 4 (1, 7) (zc_rs 4 3 (zc_cd 4))) = true := by decide +kernel
set_option maxRecDepth 100000 in
theorem zc_g2p_4_3 : zc_ph 256 292 15 4 (zc_na 4 (1, 7) (zc_rs 4 3 (zc_cd 4))) = true := by decide +kernel
set_option maxRecDepth 100000 in
theorem zc_g2p_4_4 : zc_ph 256 292 19 5 (zc_na 4 (1, 7) (zc_rs 4 3 (zc_cd 4))) = true := by decide +kernel
set_option maxRecDepth 100000 in
theorem zc_g2p_4_5 : zc_ph 256 292 24 5 (zc_na 4 (1, 7) (zc_rs 4 3 (zc_cd 4))) = true := by decide +kernel
set_option maxRecDepth 100000 in
theorem zc_g2p_4_6 : zc_ph 256 292 29 6 (zc_na 4 (1, 7) (zc_rs 4 3 (zc_cd 4))) = true := by decide +kernel
set_option maxRecDepth 100000 in
theorem zc_g2p_4_7 : zc_ph 256 292 35 8 (zc_na 4 (1, 7) (zc_rs 4 3 (zc_cd 4))) = true := by decide +kernel
set_option maxRecDepth 100000 in
theorem zc_g2p_4_8 : zc_ph 256 292 43 13 (zc_na 4 (1, 7) (zc_rs 4 3 (zc_cd 4))) = true := by decide +kernel
set_option maxRecDepth 100000 in
theorem zc_g2p_4_9 : zc_ph 256 292 56 9 (zc_na 4 (1, 7) (zc_rs 4 3 (zc_cd 4))) = true := by decide +kernel
theorem zc_g2q_4 : ∃ cs, zc_ph1 256 292 (zc_na 4 (1, 7) (zc_rs 4 3 (zc_cd 4))) = some cs ∧ ∀ e, e ∈ cs → zc_ph2 e = true := by
  obtain ⟨cs, h1, h2⟩ := zc_len zc_g2n_4
  refine ⟨cs, h1, fun e he => ?_⟩
  obtain ⟨j, hj, rfl⟩ := List.mem_iff_getElem.mp he
  have hc : (0 ≤ j ∧ j < 7) ∨ (7 ≤ j ∧ j < 11) ∨ (11 ≤ j ∧ j < 15) ∨ (15 ≤ j ∧ j < 19) ∨ (19 ≤ j ∧ j < 24) ∨ (24 ≤ j ∧ j < 29) ∨ (29 ≤ j ∧ j < 35) ∨ (35 ≤ j ∧ j < 43) ∨ (43 ≤ j ∧ j < 56) ∨ (56 ≤ j ∧ j < 65) := by omega
  rcases hc with h | h | h | h | h | h | h | h | h | h
  · exact zc_in h1 zc_g2p_4_0 hj h.1 (by omega)
  · exact zc_in h1 zc_g2p_4_1 hj h.1 (by omega)
  · exact zc_in h1 zc_g2p_4_2 hj h.1 (by omega)
  · exact zc_in h1 zc_g2p_4_3 hj h.1 (by omega)
  · exact zc_in h1 zc_g2p_4_4 hj h.1 (by omega)
  · exact zc_in h1 zc_g2p_4_5 hj h.1 (by omega)
  · exact zc_in h1 zc_g2p_4_6 hj h.1 (by omega)
  · exact zc_in h1 zc_g2p_4_7 hj h.1 (by omega)
  · exact zc_in h1 zc_g2p_4_8 hj h.1 (by omega)
  · exact zc_in h1 zc_g2p_4_9 hj h.1 (by omega)
set_option maxRecDepth 100000 in
theorem zc_g2n_5 : zc_phn 256 292 65 (zc_na 4 (1, 7) (zc_rs 5 3 (zc_cd 5))) = true := by decide +kernel
set_option maxRecDepth 100000 in
theorem zc_g2p_5_0 : zc_ph 256 292 0 7 (zc_na 4 (1, 7) (zc_rs 5 3 (zc_cd 5))) = true := by decide +kernel
set_option maxRecDepth 100000 in
theorem zc_g2p_5_1 : zc_ph 256 292 7 4 (zc_na 4 (1, 7) (zc_rs 5 3 (zc_cd 5))) = true := by decide +kernel
set_option maxRecDepth 100000 in
theorem zc_g2p_5_2 : zc_ph 256 292 11 4 (zc_na 4 (1, 7) (zc_rs 5 3 (zc_cd 5))) = true := by decide +kernel
set_option maxRecDepth 100000 in
theorem zc_g2p_5_3 : zc_ph 256 292 15 4 (zc_na 4 (1, 7) (zc_rs 5 3 (zc_cd 5))) = true := by decide +kernel
set_option maxRecDepth 100000 in
theorem zc_g2p_5_4 : zc_ph 256 292 19 5 (zc_na 4 (1, 7) (zc_rs 5 3 (zc_cd 5))) = true := by decide +kernel
set_option maxRecDepth 100000 in
theorem zc_g2p_5_5 : zc_ph 256 292 24 5 (zc_na 4 (1, 7) (zc_rs 5 3 (zc_cd 5))) = true := by decide +kernel
set_option maxRecDepth 100000 in
theorem zc_g2p_5_6 : zc_ph 256 292 29 6 (zc_na 4 (1, 7) (zc_rs 5 3 (zc_cd 5))) = true := by decide +kernel
set_option maxRecDepth 100000 in
theorem zc_g2p_5_7 : zc_ph 256 292 35 8 (zc_na 4 (1, 7) (zc_rs 5 3 (zc_cd 5))) = true := by decide +kernel
set_option maxRecDepth 100000 in
theorem zc_g2p_5_8 : zc_ph 256 292 43 13 (zc_na 4 (1, 7) (zc_rs 5 3 (zc_cd 5))) = true := by decide +kernel
set_option maxRecDepth 100000 in
theorem zc_g2p_5_9 : zc_ph 256 292 56 9 (zc_na 4 (1, 7) (zc_rs 5 3 (zc_cd 5))) = true := by decide +kernel
theorem zc_g2q_5 : ∃ cs, zc_ph1 256 292 (zc_na 4 (1, 7) (zc_rs 5 3 (zc_cd 5))) = some cs ∧ ∀ e, e ∈ cs → zc_ph2 e = true := by
  obtain ⟨cs, h1, h2⟩ := zc_len zc_g2n_5
  refine ⟨cs, h1, fun e he => ?_⟩
  obtain ⟨j, hj, rfl⟩ := List.mem_iff_getElem.mp he
  have hc : (0 ≤ j ∧ j < 7) ∨ (7 ≤ j ∧ j < 11) ∨ (11 ≤ j ∧ j < 15) ∨ (15 ≤ j ∧ j < 19) ∨ (19 ≤ j ∧ j < 24) ∨ (24 ≤ j ∧ j < 29) ∨ (29 ≤ j ∧ j < 35) ∨ (35 ≤ j ∧ j < 43) ∨ (43 ≤ j ∧ j < 56) ∨ (56 ≤ j ∧ j < 65) := by omega
  rcases hc with h | h | h | h | h | h | h | h | h | h
  · exact zc_in h1 zc_g2p_5_0 hj h.1 (by omega)
  · exact zc_in h1 zc_g2p_5_1 hj h.1 (by omega)
  · exact zc_in h1 zc_g2p_5_2 hj h.1 (by omega)
  · exact zc_in h1 zc_g2p_5_3 hj h.1 (by omega)
  · exact zc_in h1 zc_g2p_5_4 hj h.1 (by omega)
  · exact zc_in h1 zc_g2p_5_5 hj h.1 (by omega)
  · exact zc_in h1 zc_g2p_5_6 hj h.1 (by omega)
  · exact zc_in h1 zc_g2p_5_7 hj h.1 (by omega)
  · exact zc_in h1 zc_g2p_5_8 hj h.1 (by omega)
  · exact zc_in h1 zc_g2p_5_9 hj h.1 (by omega)
theorem zc_g2c : ∀ d, d < 6 → ∃ cs, zc_ph1 256 292 (zc_na 4 (1, 7) (zc_rs d 3 (zc_cd d))) = some cs ∧ ∀ e, e ∈ cs → zc_ph2 e = true := by
  intro d hd
  have h6 : d = 0 ∨ d = 1 ∨ d = 2 ∨ d = 3 ∨ d = 4 ∨ d = 5 := by omega
  rcases h6 with rfl | rfl | rfl | rfl | rfl | rfl
  · exact zc_g2q_0
  · exact zc_g2q_1
  · exact zc_g2q_2
  · exact zc_g2q_3
  · exact zc_g2q_4
  · exact zc_g2q_5
