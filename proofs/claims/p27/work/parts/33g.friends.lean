/-! by hand: the first loop of Model.friends (191): up to the customer's place -/
theorem zb_frl {SA : rf_A} {C : zb_K} {post : rf_P} {σ : rf_S} {fs : List Value} {f : Nat → Int32} {k : Int32} {p : Nat} {u v : Nat} {v1 : Int32} (h63 : σ[63]? = some (.inr (10, fs))) (h12 : fs[12]? = some (.ref 69)) (h69 : σ[69]? = some (.inl (0, 7, .inl f))) (hp : p < 7) (hk : f p = k) (hnext : ∀ L z, rf_get L 0 = some (.ref 63) → rf_get L 1 = some (.int v1) → rf_get L 2 = some (.int k) → rf_get L 3 = some (.int z) → zb_W SA rf_ms C rf_m191 49 L [] σ u v post) : ∀ (m i : Nat) (z : Int32) (L : rf_L), i + m = p → rf_get L 0 = some (.ref 63) → rf_get L 1 = some (.int v1) → rf_get L 2 = some (.int k) → rf_get L 3 = some (.int z) → rf_get L 4 = some (.int (Int32.ofNat i)) → zb_W SA rf_ms C rf_m191 20 L [] σ u v post := by
  intro m
  induction m with
  | zero =>
    intro i z L hi g0 g1 g2 g3 g4
    have ep : i = p := by omega
    subst ep
    have x7 := zb_ix7 hp
    refine zb_W_step (pc' := 21) (L' := L) (st' := [.ref 63]) (σ' := σ) rfl (by decide) (by decide) (by decide) (by simp only [rf_stp, g0]) ?_
    refine zb_W_step (pc' := 24) (L' := L) (st' := [.ref 69]) (σ' := σ) rfl (by decide) (by decide) (by decide) (by simp only [rf_stp, h63, Nat.beq_refl, cond_true, h12]) ?_
    refine zb_W_step (pc' := 26) (L' := L) (st' := [.int (Int32.ofNat i), .ref 69]) (σ' := σ) rfl (by decide) (by decide) (by decide) (by simp only [rf_stp, g4]) ?_
    refine zb_W_step (pc' := 27) (L' := L) (st' := [.int (f i)]) (σ' := σ) rfl (by decide) (by decide) (by decide) (by
      have e := an_st_H (SA := SA) (L' := L) (σ' := σ) (r2 := []) (a := 0) (b := 0) (c := 0) (x := 0) (nxt := 27) (sw := []) (r0 := 69) (i := Int32.ofNat i) rfl h69 x7.1
      rw [x7.2] at e
      exact e) ?_
    refine zb_W_step (pc' := 28) (L' := L) (st' := [.int k, .int (f i)]) (σ' := σ) rfl (by decide) (by decide) (by decide) (by simp only [rf_stp, g2]) ?_
    refine zb_W_step (pc' := 49) (L' := L) (st' := []) (σ' := σ) rfl (by decide) (by decide) (by decide) (by simp only [rf_stp, rf_cmp, hk, decide_true, cond_true]) ?_
    exact hnext L z g0 g1 g2 g3
  | succ m ih =>
    intro i z L hi g0 g1 g2 g3 g4
    have i7 : i < 7 := by omega
    have x7 := zb_ix7 i7
    refine zb_W_step (pc' := 21) (L' := L) (st' := [.ref 63]) (σ' := σ) rfl (by decide) (by decide) (by decide) (by simp only [rf_stp, g0]) ?_
    refine zb_W_step (pc' := 24) (L' := L) (st' := [.ref 69]) (σ' := σ) rfl (by decide) (by decide) (by decide) (by simp only [rf_stp, h63, Nat.beq_refl, cond_true, h12]) ?_
    refine zb_W_step (pc' := 26) (L' := L) (st' := [.int (Int32.ofNat i), .ref 69]) (σ' := σ) rfl (by decide) (by decide) (by decide) (by simp only [rf_stp, g4]) ?_
    refine zb_W_step (pc' := 27) (L' := L) (st' := [.int (f i)]) (σ' := σ) rfl (by decide) (by decide) (by decide) (by
      have e := an_st_H (SA := SA) (L' := L) (σ' := σ) (r2 := []) (a := 0) (b := 0) (c := 0) (x := 0) (nxt := 27) (sw := []) (r0 := 69) (i := Int32.ofNat i) rfl h69 x7.1
      rw [x7.2] at e
      exact e) ?_
    refine zb_W_step (pc' := 28) (L' := L) (st' := [.int k, .int (f i)]) (σ' := σ) rfl (by decide) (by decide) (by decide) (by simp only [rf_stp, g2]) ?_
    by_cases he : f i = k
    · refine zb_W_step (pc' := 49) (L' := L) (st' := []) (σ' := σ) rfl (by decide) (by decide) (by decide) (by simp only [rf_stp, rf_cmp, he, decide_true, cond_true]) ?_
      exact hnext L z g0 g1 g2 g3
    · refine zb_W_step (pc' := 31) (L' := L) (st' := []) (σ' := σ) rfl (by decide) (by decide) (by decide) (by simp only [rf_stp, rf_cmp, he, decide_false, cond_false]) ?_
      refine zb_W_step (pc' := 32) (L' := L) (st' := [.int z]) (σ' := σ) rfl (by decide) (by decide) (by decide) (by simp only [rf_stp, g3]) ?_
      refine zb_W_step (pc' := 33) (L' := L) (st' := [.int (Int32.ofInt 1), .int z]) (σ' := σ) rfl (by decide) (by decide) (by decide) rfl ?_
      refine zb_W_step (pc' := 34) (L' := L) (st' := [.ref 63, .int (Int32.ofInt 1), .int z]) (σ' := σ) rfl (by decide) (by decide) (by decide) (by simp only [rf_stp, g0]) ?_
      refine zb_W_step (pc' := 37) (L' := L) (st' := [.ref 69, .int (Int32.ofInt 1), .int z]) (σ' := σ) rfl (by decide) (by decide) (by decide) (by simp only [rf_stp, h63, Nat.beq_refl, cond_true, h12]) ?_
      refine zb_W_step (pc' := 39) (L' := L) (st' := [.int (Int32.ofNat i), .ref 69, .int (Int32.ofInt 1), .int z]) (σ' := σ) rfl (by decide) (by decide) (by decide) (by simp only [rf_stp, g4]) ?_
      refine zb_W_step (pc' := 40) (L' := L) (st' := [.int (f i), .int (Int32.ofInt 1), .int z]) (σ' := σ) rfl (by decide) (by decide) (by decide) (by
        have e := an_st_H (SA := SA) (L' := L) (σ' := σ) (r2 := [.int (Int32.ofInt 1), .int z]) (a := 0) (b := 0) (c := 0) (x := 0) (nxt := 40) (sw := []) (r0 := 69) (i := Int32.ofNat i) rfl h69 x7.1
        rw [x7.2] at e
        exact e) ?_
      refine zb_W_step (pc' := 41) (L' := L) (σ' := σ) rfl (by decide) (by decide) (by decide) rfl ?_
      refine zb_W_step (pc' := 42) (L' := L) (σ' := σ) rfl (by decide) (by decide) (by decide) rfl ?_
      refine zb_W_step (pc' := 43) (st' := []) (σ' := σ) rfl (by decide) (by decide) (by decide) rfl ?_
      have g4a : rf_get (rf_set L 3 (.int (rf_bin 4 z (rf_bin 6 (Int32.ofInt 1) (f i))))) 4 = some (.int (Int32.ofNat i)) := zb_rget_ne (by decide) g4 (fun q => by cases q)
      refine zb_W_step (pc' := 46) (L' := rf_set (rf_set L 3 (.int (rf_bin 4 z (rf_bin 6 (Int32.ofInt 1) (f i))))) 4 (.int (Int32.ofNat i + Int32.ofInt 1))) (st' := []) (σ' := σ) rfl (by decide) (by decide) (by decide) (by simp only [rf_stp, g4a]) ?_
      refine zb_W_step (pc' := 20) (st' := []) (σ' := σ) rfl (by decide) (by decide) (by decide) rfl ?_
      refine ih (i + 1) _ _ (by omega) (zb_rget_ne (by decide) (zb_rget_ne (by decide) g0 (fun q => by cases q)) (fun q => by cases q)) (zb_rget_ne (by decide) (zb_rget_ne (by decide) g1 (fun q => by cases q)) (fun q => by cases q)) (zb_rget_ne (by decide) (zb_rget_ne (by decide) g2 (fun q => by cases q)) (fun q => by cases q)) (zb_rget_ne (by decide) (zb_rget_set _ _ _) (fun q => by cases q)) ?_
      rw [← zb_ofs i7]
      exact zb_rget_set _ _ _
noncomputable def zb_f1 : zb_Sp := (zb_p191_0.1, zb_p191_0.2.1, [zb_d191_0_0], zb_p191_0.2.2.2)
noncomputable def zb_f2 : zb_Sp := (zb_p191_0.1, zb_p191_0.2.1, [zb_d191_0_1, zb_d191_0_2], zb_p191_0.2.2.2)
noncomputable def zb_Sf : zb_St := zb_S rf_ms zb_SP zb_nX zb_p191_0.1.1.1.length zb_p191_0.2.2.2.2 zb_p191_0.2.2.2.1 6
theorem zb_nX_ok {T : zb_T} {len n0 : Nat} {wl : List Nat} {ρ0 : Nat → Int} {σ0 : rf_S} {C : zb_K} : zb_sok T len (zb_has wl) n0 ρ0 σ0 zb_nX C := by
  intro b env As D rs As' σ post N ρ h
  cases h
set_option maxRecDepth 100000 in
theorem zb_h191_f : zb_d191_0_0.2.1.1.2.all (zb_fl 68) = true := by decide +kernel
set_option maxRecDepth 100000 in
theorem zb_h191_d : zb_every (zb_nl 68) zb_d191_0_0.2.1.2.2.2.1 = true := by decide +kernel
set_option maxRecDepth 100000 in
theorem zb_h191 {LL : Nat} {xs : Nat → Int32} (hLL : LL < 2 ^ 31) (c1 : zb_dn zb_ns zb_f1 = true) (c2 : zb_seg zb_tT (false, []) rf_ms zb_Sf 3000 6 rf_m191 zb_f1 0 zb_f1.1 none = true) (c3 : zb_dn zb_ns zb_f2 = true) (c4 : zb_chkc zb_tT (false, []) rf_ms zb_SP zb_nX 3000 6 rf_m191 zb_f2 = true) : zb_Ind zb_tT 90 zb_ns (rf_SA LL xs) rf_ms zb_SP 191 zb_p191_0 := by
  intro dm hSP ρP As' σ post hdm ham hlg hJ hpost
  have hev : zb_ev ρP zb_p191_0.2.2.2.1 = 438 := by
    show (0 * ρP 0 + 438 : Int) = 438
    omega
  rw [hev] at hdm ⊢
  have e438 : (438 : Int).toNat = 437 + 1 := rfl
  rw [e438] at hdm ⊢
  obtain ⟨mi, hmi, hml⟩ := hlg
  have hm : rf_ms[191]? = some rf_m191 := rfl
  rw [hm] at hmi
  cases hmi
  have hS : zb_sok zb_tT 90 (zb_has zb_p191_0.2.2.2.2) zb_p191_0.1.1.1.length ρP σ zb_Sf (rf_run (rf_SA LL xs) rf_ms (431 + 1)) := zb_S_ok (d1 := 431) (T0 := 6) zb_hloc zb_hlc zb_nX_ok (fun b p hp => ⟨(hSP b p hp).1, (hSP b p hp).2 (431 + 1) (by omega)⟩) (by rw [hev]; rfl)
  have hH : zb_H (zb_has zb_p191_0.2.2.2.2) zb_p191_0.1.1.1.length ρP σ zb_p191_0.1.1.1.length ρP σ := ⟨Nat.le_refl _, zb_ag_refl _ _, fun _ _ => rfl⟩
  have hW : zb_W (rf_SA LL xs) rf_ms (rf_run (rf_SA LL xs) rf_ms (431 + 6)) rf_m191 0 (lv_args 0 As') [] σ 0 0 post := by
    refine zb_seg_ok (p := zb_f1) (ns := 66) (sl := (false, [])) (by decide) hLL zb_hloc zb_hlc (fun h => by cases h) c1 hS (Nat.zero_le _) (Nat.zero_le _) hpost c2 ham hH (fun q hq ρ1 L1 st1 σ1 h1 h2 _ => ?_)
    have e := List.mem_singleton.mp hq
    subst e
    obtain ⟨a1, a2, a3, a4⟩ := h1
    obtain ⟨w0, v0, v1⟩ := a2 0 (.inl (.ref 63)) rfl
    have v1 : w0 = .ref 63 := v1
    subst v1
    obtain ⟨w1, v2, v3⟩ := a2 1 (.inr (0, .ofNat 66, .ofNat 0)) rfl
    obtain ⟨u1, x1, rfl, hx1⟩ := v3
    obtain ⟨w2, v4, v5⟩ := a2 2 (.inr (0, .ofNat 67, .ofNat 0)) rfl
    obtain ⟨u2, x2, rfl, hx2⟩ := v5
    have hx2 : x2.toInt = ρ1 67 + 0 := hx2
    obtain ⟨w3, v6, v7⟩ := a2 3 (.inr (0, .ofNat 68, .ofNat 0)) rfl
    obtain ⟨-, x3, rfl, -⟩ := v7
    obtain ⟨w4, v8, v9⟩ := a2 4 (.inr (0, .ofNat 69, .ofNat 0)) rfl
    obtain ⟨-, x4, rfl, hx4⟩ := v9
    have hx4 : x4.toInt = ρ1 69 + 0 := hx4
    have b93 := a1.2.1 69 (.ofNat 0, .ofNat 0) rfl
    have b93 : (0 : Int) ≤ ρ1 69 ∧ ρ1 69 ≤ (0 : Int) := b93
    have e4 : x4 = Int32.ofNat 0 := Int32.toInt_inj.mp (by
      have e0 : (Int32.ofNat 0).toInt = 0 := rfl
      omega)
    subst e4
    have est := zb_gl_nil a3
    subst est
    obtain ⟨o63, s1, s2⟩ := a4.2 63 zb_t63 rfl
    obtain ⟨o69, s3, s4⟩ := a4.2 69 zb_t69 rfl
    rcases o63 with o | ⟨ci, fs⟩
    · exact s2.elim
    obtain ⟨t1, -, t2⟩ := s2
    have t1 : 10 = ci := t1
    subst t1
    obtain ⟨f12, t3, t4⟩ := t2 12 (1, 0, .inl (.ref 69)) rfl
    have t4 : f12 = .ref 69 := t4
    subst t4
    obtain ⟨-, f, rfl, hf⟩ := s4
    have hfv : ∀ j, j < 7 → (f j).toInt = ρ1 (46 + j) := fun j hj => by
      obtain ⟨a, b1, b2⟩ := hf j hj
      have e := zb_gD_line hj
      have b1 : zb_gD[46 + j]? = some a := b1
      rw [e] at b1
      cases b1
      obtain ⟨-, y, hy, hz⟩ := b2
      cases hy
      rw [Int.toNat_natCast] at hz
      omega
    have f1 : ρ1 67 ≤ ρ1 23 + (-1) := (a1.2.2 (0, 67, 23, .negSucc 0) List.mem_cons_self).2.2
    have f2 : (0 : Int) ≤ ρ1 67 := (a1.2.1 67 (.ofNat 0, .ofNat 6) rfl).1
    have hJ1 : zb_Jv (ρ1 23) (fun i => ρ1 (46 + i)) := (a1.2.2 (3, 23, 46, .ofNat 0) (List.mem_of_getElem? (i := 5) rfl)).2.2
    obtain ⟨p, p7, -, p2⟩ := hJ1 (ρ1 67) f2 (by omega)
    have p2 : ρ1 (46 + p) = ρ1 67 := p2
    have hk : f p = x2 := Int32.toInt_inj.mp (by rw [hfv p p7]; omega)
    refine zb_frl (v1 := x1) s1 t3 s3 p7 hk (fun L z g0 g1 g2 g3 => ?_) p 0 x3 L1 (Nat.zero_add _) v0 v2 v4 v6 v8
    have hag : zb_ag 68 ρ1 (zb_ru ρ1 68 z.toInt) := zb_ru_ag _
    have en92 : zb_en 68 ρ1 (zb_d191_0_0.2.1.1.1.take 68, zb_d191_0_0.2.1.1.2) := zb_en_to a1 rfl (fun k hk => by rw [List.getElem?_take_of_lt hk]) (fun g hg => ⟨hg, List.all_eq_true.mp zb_h191_f g hg⟩)
    have en93 : zb_en 69 (zb_ru ρ1 68 z.toInt) zb_d191_0_1.2.1.1 := zb_en_app (b := (zb_lo32, zb_hi32)) (fs := []) en92 (zb_32 z).1 (zb_32 z).2 (fun f hf => absurd hf List.not_mem_nil)
    have gl : ∀ {a : an_V} {w : Value}, zb_g 70 ρ1 a w → zb_nl 68 a = true → zb_g 69 (zb_ru ρ1 68 z.toInt) a w := fun h hn => zb_g_ext (Nat.le_succ 68) hag (zb_g_to h hn)
    refine zb_core (p := zb_f2) (SP := zb_SP) (X := zb_nX) (ns := 66) (sl := (false, [])) (by decide) hLL zb_hloc zb_hlc (fun h => by cases h) c3 hS (Nat.zero_le _) (Nat.zero_le _) hpost c4 _ zb_d191_0_1 List.mem_cons_self (zb_ru ρ1 68 z.toInt) L [] σ1 rfl ⟨en93, fun i v hv => ?_, trivial, zb_ss_ext (Nat.le_succ 68) hag (zb_ss_to a4 zb_h191_d)⟩ ⟨by decide +kernel, fun k hk => ?_, h2.2.2⟩
    · match i, hv with
      | 0, hv => cases hv; exact ⟨_, g0, rfl⟩
      | 1, hv => cases hv; exact ⟨_, g1, gl ⟨by decide, x1, rfl, hx1⟩ rfl⟩
      | 2, hv => cases hv; exact ⟨_, g2, gl ⟨by decide, x2, rfl, hx2⟩ rfl⟩
      | 3, hv =>
        cases hv
        refine ⟨_, g3, by decide, z, rfl, ?_⟩
        show z.toInt = zb_ru ρ1 68 z.toInt 68 + 0
        rw [zb_ru_at, Int.add_zero]
      | 4, hv => cases hv
      | 5, hv => cases hv
      | i + 6, hv => cases hv
    · have hk : k < 67 := hk
      rw [hag k (by omega)]
      exact h2.2.1 k hk
  obtain ⟨n, hn⟩ := hW
  exact ⟨rf_m191, hm, hml, n, hn⟩
