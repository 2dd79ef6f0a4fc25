/-! the law's head by hand; its loop -/
theorem zb_lts_eq : zb_lts = zb_lsw.map (·.2) ++ [1254] := rfl
def zb_p7 (k : Nat) : Bool := Nat.ble 7 k && Nat.blt k 98
set_option maxRecDepth 100000 in
theorem zb_LD : zb_every (zb_np zb_p7) zb_LH.2.2.2.1 = true := by decide +kernel
set_option maxRecDepth 100000 in
theorem zb_LF : zb_LH.1.2.all (zb_fg zb_p7) = true := by decide +kernel
def zb_rw6 (xs : Nat → Int32) (ρ : Nat → Int) : Nat → Int := fun j => if 1 ≤ j ∧ j ≤ 6 then (xs ((ρ 7).toNat + (j - 1))).toInt else ρ j
section
variable {LL : Nat} {xs : Nat → Int32} {ρ : Nat → Int} {L' : rf_L} {σ : rf_S} {u v : Nat} {post : rf_P}
theorem zb_rw6_in {j : Nat} (h1 : 1 ≤ j) (h2 : j ≤ 6) : zb_rw6 xs ρ j = (xs ((ρ 7).toNat + (j - 1))).toInt := by
  unfold zb_rw6
  rw [if_pos ⟨h1, h2⟩]
theorem zb_rw6_out {j : Nat} (h : j = 0 ∨ 7 ≤ j) : zb_rw6 xs ρ j = ρ j := by
  unfold zb_rw6
  rw [if_neg (by omega)]
theorem zc_CS_rw (hC : zc_CS ρ σ) : zc_CS (zb_rw6 xs ρ) σ := by
  obtain ⟨f, g, h1, h2, h3⟩ := hC
  refine ⟨f, g, h1, h2, h3.1, fun d hd j hj hj2 => ?_⟩
  rw [zb_rw6_out (Or.inr (by omega))] at hj2 ⊢
  exact h3.2 d hd j hj hj2
theorem zb_toC (h7 : ρ 7 ≤ 3066) (ham : zb_am zb_tL 90 zb_LH 98 ρ L' [] σ) : zb_am zb_tL 90 zb_LC 98 (zb_rw6 xs ρ) L' [] σ := by
  obtain ⟨a1, a2, a3, a4⟩ := ham
  have hr : zb_cg zb_p7 98 ρ (zb_rw6 xs ρ) := fun k hk => by
    have h := an_and hk
    have h1 := Nat.le_of_ble_eq_true h.1
    have h2 : k < 98 := Nat.le_of_ble_eq_true h.2
    exact ⟨h2, zb_rw6_out (Or.inr h1)⟩
  have w : ∀ j, 1 ≤ j → j ≤ 6 → zb_lo32 ≤ zb_rw6 xs ρ j ∧ zb_rw6 xs ρ j ≤ zb_hi32 := fun j h1 h2 => by
    rw [zb_rw6_in h1 h2]
    exact zb_32 _
  refine ⟨⟨rfl, fun k b hb => ?_, fun f hf => zb_fk_cg hr (a1.2.2 f hf) (List.all_eq_true.mp zb_LF f hf)⟩, fun i x hi => ?_, trivial, zb_ss_cg hr a4 zb_LD⟩
  · match k, hb with
    | 0, hb => rw [zb_rw6_out (Or.inl rfl)]; exact a1.2.1 0 b hb
    | 1, hb => cases hb; exact w 1 (by decide) (by decide)
    | 2, hb => cases hb; exact w 2 (by decide) (by decide)
    | 3, hb => cases hb; exact w 3 (by decide) (by decide)
    | 4, hb => cases hb; exact w 4 (by decide) (by decide)
    | 5, hb => cases hb; exact w 5 (by decide) (by decide)
    | 6, hb => cases hb; exact w 6 (by decide) (by decide)
    | 7, hb =>
      cases hb
      rw [zb_rw6_out (Or.inr (Nat.le_refl 7))]
      exact ⟨(a1.2.1 7 (.ofNat 0, .ofNat 3072) rfl).1, h7⟩
    | k + 8, hb => rw [zb_rw6_out (Or.inr (by omega))]; exact a1.2.1 (k + 8) b hb
  · obtain ⟨w, w1, w2⟩ := a2 i x hi
    refine ⟨w, w1, zb_g_cg hr w2 ?_⟩
    match i, hi with
    | 0, hi => cases hi; rfl
    | 1, hi => cases hi; rfl
    | 2, hi => cases hi; rfl
    | 3, hi => cases hi; rfl
    | i + 4, hi => cases hi
theorem zb_head (hLL : LL ≤ 3072) (ham : zb_am zb_tL 90 zb_LH 98 ρ L' [] σ) (h0 : ρ 0 = (LL : Int)) (hu : u ≤ 600000) (hv : v ≤ 7302250) (hret : post (some (.int 1)) σ)
    (hcase : ρ 7 + 6 ≤ (LL : Int) → ∀ t, t ∈ zb_lts → zb_W (rf_SA LL xs) rf_ms (rf_run (rf_SA LL xs) rf_ms (900 + 8)) rf_law t L' [] σ u v post) : zb_W (rf_SA LL xs) rf_ms (rf_run (rf_SA LL xs) rf_ms (900 + 8)) rf_law 18 L' [] σ u v post := by
  obtain ⟨a1, a2, a3, a4⟩ := ham
  obtain ⟨w0, g0, e0⟩ := a2 0 (.inl (.ref 1000002)) rfl
  have e0 : w0 = .ref 1000002 := e0
  subst e0
  obtain ⟨w3, g3, e3⟩ := a2 3 (.inr (0, .ofNat 7, .ofNat 0)) rfl
  obtain ⟨-, i, rfl, hi⟩ := e3
  have hi : i.toInt = ρ 7 + 0 := hi
  have b7 : (0 : Int) ≤ ρ 7 := (a1.2.1 7 (.ofNat 0, .ofNat 3072) rfl).1
  have eL : (Int32.ofNat LL).toInt = (LL : Int) := Int32.toInt_ofNat_of_lt (by omega)
  have e6 : (Int32.ofInt 6).toInt = 6 := rfl
  have eS : (Int32.ofNat LL - Int32.ofInt 6).toInt = (LL : Int) - 6 := by rw [zb_sub' (by omega) (by omega), eL, e6]
  refine zb_W_step (pc' := 19) (L' := L') (st' := [.int i]) (σ' := σ) rfl (by decide) (by decide) (by decide) (by simp only [rf_stp, g3]) ?_
  refine zb_W_step (pc' := 20) (L' := L') (st' := [.ref 1000002, .int i]) (σ' := σ) rfl (by decide) (by decide) (by decide) (by simp only [rf_stp, g0]) ?_
  refine zb_W_step (pc' := 21) (L' := L') (st' := [.int (Int32.ofNat LL), .int i]) (σ' := σ) rfl (by decide) (by decide) (by decide) rfl ?_
  refine zb_W_step (pc' := 23) (L' := L') (st' := [.int (Int32.ofInt 6), .int (Int32.ofNat LL), .int i]) (σ' := σ) rfl (by decide) (by decide) (by decide) rfl ?_
  refine zb_W_step (pc' := 24) (L' := L') (st' := [.int (Int32.ofNat LL - Int32.ofInt 6), .int i]) (σ' := σ) rfl (by decide) (by decide) (by decide) rfl ?_
  by_cases hc : Int32.ofNat LL - Int32.ofInt 6 < i
  · refine zb_W_step (pc' := 1260) (L' := L') (st' := []) (σ' := σ) rfl (by decide) (by decide) (by decide) (by simp only [rf_stp, rf_cmp, hc, decide_true, cond_true]) ?_
    refine zb_W_step (pc' := 1261) (L' := L') (st' := [.int (Int32.ofInt 1)]) (σ' := σ) rfl (by decide) (by decide) (by decide) rfl ?_
    exact zb_W_ret rfl (by decide) (by decide) (by decide) hu hv ⟨zb_narrow (Or.inr rfl), hret⟩
  · refine zb_W_step (pc' := 27) (L' := L') (st' := []) (σ' := σ) rfl (by decide) (by decide) (by decide) (by simp only [rf_stp, rf_cmp, hc, decide_false, cond_false]) ?_
    have hle : i.toInt ≤ (LL : Int) - 6 := by
      have : ¬ (Int32.ofNat LL - Int32.ofInt 6).toInt < i.toInt := fun q => hc (Int32.lt_iff_toInt_lt.mpr q)
      omega
    have h0i : ¬ i < 0 := fun e => by
      have e := Int32.lt_iff_toInt_lt.mp e
      have e0 : (0 : Int32).toInt = 0 := rfl
      omega
    have e1 : (i.toNatClampNeg : Int) = i.toInt := by
      show ((i.toInt.toNat : Nat) : Int) = i.toInt
      omega
    have hix : rf_ixs i LL = true := an_ixs h0i (by show i.toNatClampNeg < LL; omega)
    refine zb_W_step (pc' := 28) (L' := L') (st' := [.ref 1000002]) (σ' := σ) rfl (by decide) (by decide) (by decide) (by simp only [rf_stp, g0]) ?_
    refine zb_W_step (pc' := 29) (L' := L') (st' := [.int i, .ref 1000002]) (σ' := σ) rfl (by decide) (by decide) (by decide) (by simp only [rf_stp, g3]) ?_
    refine zb_W_step (pc' := 30) (L' := L') (st' := [.int (xs i.toNatClampNeg)]) (σ' := σ) rfl (by decide) (by decide) (by decide) (by
      have hS : rf_isS 1000002 = true := rfl
      have hI : rf_ix 1000002 = 2 := rfl
      simp only [rf_stp, hS, cond_true]
      rw [hI]
      simp only [rf_SA, hix, cond_true]) ?_
    refine zb_W_step (pc' := 32) (L' := L') (st' := [.int (Int32.ofInt 63), .int (xs i.toNatClampNeg)]) (σ' := σ) rfl (by decide) (by decide) (by decide) rfl ?_
    refine zb_W_step (pc' := 33) (L' := L') (st' := [.int (rf_bin 3 (xs i.toNatClampNeg) (Int32.ofInt 63))]) (σ' := σ) rfl (by decide) (by decide) (by decide) rfl ?_
    refine zb_W_step (pc' := rf_sw zb_lsw 1254 (rf_bin 3 (xs i.toNatClampNeg) (Int32.ofInt 63)).toInt) (L' := L') (st' := []) (σ' := σ) rfl (by decide) (by decide) (by decide) rfl ?_
    refine hcase (by omega) _ ?_
    rw [zb_lts_eq]
    rcases zb_sw_in 1254 (rf_bin 3 (xs i.toNatClampNeg) (Int32.ofInt 63)).toInt zb_lsw with h | h
    · rw [h]
      exact List.mem_append.mpr (Or.inr (List.mem_singleton.mpr rfl))
    · exact List.mem_append.mpr (Or.inl h)
theorem zb_loop (hLL : LL ≤ 3072) (hu : u ≤ 600000) (hv : v ≤ 7302250) (hret : ∀ σ, post (some (.int 1)) σ) : ∀ (n : Nat) (ρ : Nat → Int) (L' : rf_L) (σ : rf_S), zb_am zb_tL 90 zb_LH 98 ρ L' [] σ → zb_RI ρ → zc_CS ρ σ → ρ 0 = (LL : Int) → (4000 - ρ 7).toNat ≤ n → zb_W (rf_SA LL xs) rf_ms (rf_run (rf_SA LL xs) rf_ms (900 + 8)) rf_law 18 L' [] σ u v post := by
  intro n
  induction n with
  | zero =>
    intro ρ L' σ ham hR hC h0 hn
    have b7 : ρ 7 ≤ (3072 : Int) := (ham.1.2.1 7 (.ofNat 0, .ofNat 3072) rfl).2
    omega
  | succ n ih =>
    intro ρ L' σ ham hR hC h0 hn
    have b7 : (0 : Int) ≤ ρ 7 := (ham.1.2.1 7 (.ofNat 0, .ofNat 3072) rfl).1
    refine zb_head hLL ham h0 hu hv (hret σ) (fun h7 t ht => ?_)
    have e7 : zb_rw6 xs ρ 7 = ρ 7 := zb_rw6_out (Or.inr (Nat.le_refl 7))
    have e0 : zb_rw6 xs ρ 0 = ρ 0 := zb_rw6_out (Or.inl rfl)
    refine zb_turns (by omega) ht (zb_toC (by omega) ham) ⟨by decide, by rw [e0]; exact h0, by rw [e7]; exact b7, by rw [e7]; exact h7, fun c hc => ?_⟩ (fun d hd => by rw [zb_rw6_out (Or.inr (by omega)), zb_rw6_out (Or.inr (by omega)), zb_rw6_out (Or.inr (by omega)), zb_rw6_out (Or.inr (by decide))]; exact hR d hd) (zc_CS_rw hC) hu hv (fun ρ1 L1 σ1 h1 hR1 hC1 h2 h3 => ih ρ1 L1 σ1 h1 hR1 hC1 ?_ ?_)
    · rw [e7, zb_rw6_in (by omega) (by omega), show 1 + c - 1 = c by omega]
    · rw [h2, e0]
      exact h0
    · rw [h3, e7]
      omega
end
