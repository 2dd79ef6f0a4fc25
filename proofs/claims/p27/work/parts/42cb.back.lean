/-! the turn of back: by how many things the image keeps -/
theorem zb_turnK {LL : Nat} {xs : Nat → Int32} {ρ : Nat → Int} {L' : rf_L} {σ : rf_S} {u v : Nat} {post : rf_P} (hLL : LL < 2 ^ 31) (ham : zb_am zb_tL 90 zb_LC 98 ρ L' [] σ) (hs : zb_hs LL xs 98 ρ) (hR : zb_RI ρ) (hC : zc_CS ρ σ) (hu : u ≤ 600000) (hv : v ≤ 7302250)
    (hnext : ∀ ρ1 L1 σ1, zb_am zb_tL 90 zb_LH 98 ρ1 L1 [] σ1 → zb_RI ρ1 → zc_CS ρ1 σ1 → ρ1 0 = ρ 0 → ρ1 7 = ρ 7 + 6 → zb_W (rf_SA LL xs) rf_ms (rf_run (rf_SA LL xs) rf_ms (900 + 8)) rf_law 18 L1 [] σ1 u v post) : zb_W (rf_SA LL xs) rf_ms (rf_run (rf_SA LL xs) rf_ms (900 + 8)) rf_law 825 L' [] σ u v post := by
  have b := ham.1.2.1 48 (.ofNat 0, .ofNat 8) rfl
  have b1 : (0 : Int) ≤ ρ 48 := b.1
  have b2 : ρ 48 ≤ (8 : Int) := b.2
  exact zb_turn hLL (zb_kall (ρ 48).toNat (by omega)) (zb_en_upd ham.1 (by show (((ρ 48).toNat : Nat) : Int) ≤ _; omega) (by show _ ≤ (((ρ 48).toNat : Nat) : Int); omega)) ham.2.1 ham.2.2.2 hs hR hC hu hv hnext
