/-! every case's turn -/
theorem zb_turns {LL : Nat} {xs : Nat → Int32} {ρ : Nat → Int} {L' : rf_L} {σ : rf_S} {u v : Nat} {post : rf_P} (hLL : LL < 2 ^ 31) {t : Nat} (ht : t ∈ zb_lts) (ham : zb_am zb_tL 90 zb_LC 186 ρ L' [] σ) (hs : zb_hs LL xs 186 ρ) (hR : zb_RI ρ) (hu : u ≤ 600000) (hv : v ≤ 7302250)
    (hnext : ∀ ρ1 L1 σ1, zb_am zb_tL 90 zb_LH 186 ρ1 L1 [] σ1 → zb_RI ρ1 → ρ1 0 = ρ 0 → ρ1 7 = ρ 7 + 6 → zb_W (rf_SA LL xs) rf_ms (rf_run (rf_SA LL xs) rf_ms (900 + 8)) rf_law 18 L1 [] σ1 u v post) : zb_W (rf_SA LL xs) rf_ms (rf_run (rf_SA LL xs) rf_ms (900 + 8)) rf_law t L' [] σ u v post := by
  rcases zb_lall t ht with h | h | h | h
  · subst h
    exact zb_turnT hLL ham hs hR hu hv hnext
  · subst h
    have b := ham.1.2.1 25 (.ofNat 0, .ofNat 50) rfl
    have b1 : (0 : Int) ≤ ρ 25 := b.1
    have b2 : ρ 25 ≤ (50 : Int) := b.2
    exact zb_turn hLL (zb_ball (ρ 25).toNat (by omega)) (zb_en_upd ham.1 (by show (((ρ 25).toNat : Nat) : Int) ≤ _; omega) (by show _ ≤ (((ρ 25).toNat : Nat) : Int); omega)) ham.2.1 ham.2.2.2 hs hR hu hv hnext
  · subst h
    have b2 := ham.1.2.1 2 (zb_lo32, zb_hi32) rfl
    by_cases h1 : ρ 2 < 0
    · exact zb_turn hLL zb_do0 (zb_en_upd ham.1 b2.1 (by show ρ 2 ≤ (-1 : Int); omega)) ham.2.1 ham.2.2.2 hs hR hu hv hnext
    by_cases h2 : 5 < ρ 2
    · exact zb_turn hLL zb_do1 (zb_en_upd ham.1 (by show (6 : Int) ≤ ρ 2; omega) b2.2) ham.2.1 ham.2.2.2 hs hR hu hv hnext
    exact zb_turn hLL (zb_dall (ρ 2).toNat (by omega)) (zb_en_upd ham.1 (by show (((ρ 2).toNat : Nat) : Int) ≤ _; omega) (by show _ ≤ (((ρ 2).toNat : Nat) : Int); omega)) ham.2.1 ham.2.2.2 hs hR hu hv hnext
  · exact zb_turn hLL h ham.1 ham.2.1 ham.2.2.2 hs hR hu hv hnext
