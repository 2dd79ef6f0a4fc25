/-! tests: customers, on -/
set_option maxRecDepth 100000 in
theorem zc_g2n_2 : zc_phn 256 292 65 (zc_na 4 (1, 7) (zc_rs 2 3 (zc_cd 2))) = true := by decide +kernel
set_option maxRecDepth 100000 in
theorem zc_g2p_2_0 : zc_ph 256 292 0 7 (zc_na 4 (1, 7) (zc_rs 2 3 (zc_cd 2))) = true := by decide +kernel
set_option maxRecDepth 100000 in
theorem zc_g2p_2_1 : zc_ph 256 292 7 4 (zc_na 4 (1, 7) (zc_rs 2 3 (zc_cd 2))) = true := by decide +kernel
set_option maxRecDepth 100000 in
theorem zc_g2p_2_2 : zc_ph 256 292 11 4 (zc_na 4 (1, 7) (zc_rs 2 3 (zc_cd 2))) = true := by decide +kernel
set_option maxRecDepth 100000 in
theorem zc_g2p_2_3 : zc_ph 256 292 15 4 (zc_na 4 (1, 7) (zc_rs 2 3 (zc_cd 2))) = true := by decide +kernel
set_option maxRecDepth 100000 in
theorem zc_g2p_2_4 : zc_ph 256 292 19 5 (zc_na 4 (1, 7) (zc_rs 2 3 (zc_cd 2))) = true := by decide +kernel
set_option maxRecDepth 100000 in
theorem zc_g2p_2_5 : zc_ph 256 292 24 5 (zc_na 4 (1, 7) (zc_rs 2 3 (zc_cd 2))) = true := by decide +kernel
set_option maxRecDepth 100000 in
theorem zc_g2p_2_6 : zc_ph 256 292 29 6 (zc_na 4 (1, 7) (zc_rs 2 3 (zc_cd 2))) = true := by decide +kernel
set_option maxRecDepth 100000 in
theorem zc_g2p_2_7 : zc_ph 256 292 35 8 (zc_na 4 (1, 7) (zc_rs 2 3 (zc_cd 2))) = true := by decide +kernel
set_option maxRecDepth 100000 in
theorem zc_g2p_2_8 : zc_ph 256 292 43 13 (zc_na 4 (1, 7) (zc_rs 2 3 (zc_cd 2))) = true := by decide +kernel
set_option maxRecDepth 100000 in
theorem zc_g2p_2_9 : zc_ph 256 292 56 9 (zc_na 4 (1, 7) (zc_rs 2 3 (zc_cd 2))) = true := by decide +kernel
theorem zc_g2q_2 : ∃ cs, zc_ph1 256 292 (zc_na 4 (1, 7) (zc_rs 2 3 (zc_cd 2))) = some cs ∧ ∀ e, e ∈ cs → zc_ph2 e = true := by
  obtain ⟨cs, h1, h2⟩ := zc_len zc_g2n_2
  refine ⟨cs, h1, fun e he => ?_⟩
  obtain ⟨j, hj, rfl⟩ := List.mem_iff_getElem.mp he
  have hc : (0 ≤ j ∧ j < 7) ∨ (7 ≤ j ∧ j < 11) ∨ (11 ≤ j ∧ j < 15) ∨ (15 ≤ j ∧ j < 19) ∨ (19 ≤ j ∧ j < 24) ∨ (24 ≤ j ∧ j < 29) ∨ (29 ≤ j ∧ j < 35) ∨ (35 ≤ j ∧ j < 43) ∨ (43 ≤ j ∧ j < 56) ∨ (56 ≤ j ∧ j < 65) := by omega
  rcases hc with h | h | h | h | h | h | h | h | h | h
  · exact zc_in h1 zc_g2p_2_0 hj h.1 (by omega)
  · exact zc_in h1 zc_g2p_2_1 hj h.1 (by omega)
  · exact zc_in h1 zc_g2p_2_2 hj h.1 (by omega)
  · exact zc_in h1 zc_g2p_2_3 hj h.1 (by omega)
  · exact zc_in h1 zc_g2p_2_4 hj h.1 (by omega)
  · exact zc_in h1 zc_g2p_2_5 hj h.1 (by omega)
  · exact zc_in h1 zc_g2p_2_6 hj h.1 (by omega)
  · exact zc_in h1 zc_g2p_2_7 hj h.1 (by omega)
  · exact zc_in h1 zc_g2p_2_8 hj h.1 (by omega)
  · exact zc_in h1 zc_g2p_2_9 hj h.1 (by omega)
set_option maxRecDepth 100000 in
theorem zc_g2n_3 : zc_phn 256 292 65 (zc_na 4 (1, 7) (zc_rs 3 3 (zc_cd 3))) = true := by decide +kernel
set_option maxRecDepth 100000 in
theorem zc_g2p_3_0 : zc_ph 256 292 0 7 (zc_na 4 (1, 7) (zc_rs 3 3 (zc_cd 3))) = true := by decide +kernel
set_option maxRecDepth 100000 in
theorem zc_g2p_3_1 : zc_ph 256 292 7 4 (zc_na 4 (1, 7) (zc_rs 3 3 (zc_cd 3))) = true := by decide +kernel
set_option maxRecDepth 100000 in
theorem zc_g2p_3_2 : zc_ph 256 292 11 4 (zc_na 4 (1, 7) (zc_rs 3 3 (zc_cd 3))) = true := by decide +kernel
set_option maxRecDepth 100000 in
theorem zc_g2p_3_3 : zc_ph 256 292 15 4 (zc_na 4 (1, 7) (zc_rs 3 3 (zc_cd 3))) = true := by decide +kernel
set_option maxRecDepth 100000 in
theorem zc_g2p_3_4 : zc_ph 256 292 19 5 (zc_na 4 (1, 7) (zc_rs 3 3 (zc_cd 3))) = true := by decide +kernel
set_option maxRecDepth 100000 in
theorem zc_g2p_3_5 : zc_ph 256 292 24 5 (zc_na 4 (1, 7) (zc_rs 3 3 (zc_cd 3))) = true := by decide +kernel
set_option maxRecDepth 100000 in
theorem zc_g2p_3_6 : zc_ph 256 292 29 6 (zc_na 4 (1, 7) (zc_rs 3 3 (zc_cd 3))) = true := by decide +kernel
set_option maxRecDepth 100000 in
theorem zc_g2p_3_7 : zc_ph 256 292 35 8 (zc_na 4 (1, 7) (zc_rs 3 3 (zc_cd 3))) = true := by decide +kernel
set_option maxRecDepth 100000 in
theorem zc_g2p_3_8 : zc_ph 256 292 43 13 (zc_na 4 (1, 7) (zc_rs 3 3 (zc_cd 3))) = true := by decide +kernel
set_option maxRecDepth 100000 in
theorem zc_g2p_3_9 : zc_ph 256 292 56 9 (zc_na 4 (1, 7) (zc_rs 3 3 (zc_cd 3))) = true := by decide +kernel
theorem zc_g2q_3 : ∃ cs, zc_ph1 256 292 (zc_na 4 (1, 7) (zc_rs 3 3 (zc_cd 3))) = some cs ∧ ∀ e, e ∈ cs → zc_ph2 e = true := by
  obtain ⟨cs, h1, h2⟩ := zc_len zc_g2n_3
  refine ⟨cs, h1, fun e he => ?_⟩
  obtain ⟨j, hj, rfl⟩ := List.mem_iff_getElem.mp he
  have hc : (0 ≤ j ∧ j < 7) ∨ (7 ≤ j ∧ j < 11) ∨ (11 ≤ j ∧ j < 15) ∨ (15 ≤ j ∧ j < 19) ∨ (19 ≤ j ∧ j < 24) ∨ (24 ≤ j ∧ j < 29) ∨ (29 ≤ j ∧ j < 35) ∨ (35 ≤ j ∧ j < 43) ∨ (43 ≤ j ∧ j < 56) ∨ (56 ≤ j ∧ j < 65) := by omega
  rcases hc with h | h | h | h | h | h | h | h | h | h
  · exact zc_in h1 zc_g2p_3_0 hj h.1 (by omega)
  · exact zc_in h1 zc_g2p_3_1 hj h.1 (by omega)
  · exact zc_in h1 zc_g2p_3_2 hj h.1 (by omega)
  · exact zc_in h1 zc_g2p_3_3 hj h.1 (by omega)
  · exact zc_in h1 zc_g2p_3_4 hj h.1 (by omega)
  · exact zc_in h1 zc_g2p_3_5 hj h.1 (by omega)
  · exact zc_in h1 zc_g2p_3_6 hj h.1 (by omega)
  · exact zc_in h1 zc_g2p_3_7 hj h.1 (by omega)
  · exact zc_in h1 zc_g2p_3_8 hj h.1 (by omega)
  · exact zc_in h1 zc_g2p_3_9 hj h.1 (by omega)
