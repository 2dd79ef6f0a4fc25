/-! every case's turn -/
theorem zb_turns {LL : Nat} {xs : Nat → Int32} {ρ : Nat → Int} {L' : rf_L} {σ : rf_S} {u v : Nat} {post : rf_P} (hLL : LL < 2 ^ 31) {t : Nat} (ht : t ∈ zb_lts) (ham : zb_am zb_tL 90 zb_LC 98 ρ L' [] σ) (hs : zb_hs LL xs 98 ρ) (hR : zb_RI ρ) (hC : zc_CS ρ σ) (hu : u ≤ 600000) (hv : v ≤ 7302250)
    (hnext : ∀ ρ1 L1 σ1, zb_am zb_tL 90 zb_LH 98 ρ1 L1 [] σ1 → zb_RI ρ1 → zc_CS ρ1 σ1 → ρ1 0 = ρ 0 → ρ1 7 = ρ 7 + 6 → zb_W (rf_SA LL xs) rf_ms (rf_run (rf_SA LL xs) rf_ms (900 + 8)) rf_law 18 L1 [] σ1 u v post) : zb_W (rf_SA LL xs) rf_ms (rf_run (rf_SA LL xs) rf_ms (900 + 8)) rf_law t L' [] σ u v post := by
  rcases zb_lall t ht with h | h | h | h | h | h | h
  · subst h
    exact zc_turn2 hLL ham hs hR hC hu hv hnext
  · subst h
    exact zc_turn32 hLL ham hs hR hC hu hv hnext
  · subst h
    exact zc_turn33 hLL ham hs hR hC hu hv hnext
  · subst h
    exact zc_turn34 hLL ham hs hR hC hu hv hnext
  · subst h
    exact zc_turn35 hLL ham hs hR hC hu hv hnext
  · subst h
    exact zb_turnK hLL ham hs hR hC hu hv hnext
  · exact zb_turn hLL h ham.1 ham.2.1 ham.2.2.2 hs hR hC hu hv hnext
