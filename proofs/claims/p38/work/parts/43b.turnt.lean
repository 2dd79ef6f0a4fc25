/-! the turn of case 36 -/
/-- the kinds are the same numbers on both sides, 0 to 7 -/
noncomputable def zb_kt (j : Nat) : Bool := match zb_nth zb_LC.2.2.2.1 (78 + j), zb_nth zb_LC.2.2.2.1 (128 + j), zb_nth zb_LC.1.1 (8 + (78 + j)) with
  | some (.inr (0, k, c)), some (.inr (0, k', c')), some b => Nat.beq k.toNat (8 + (78 + j)) && (zb_ieq c 0 && (Nat.beq k'.toNat (8 + (78 + j)) && (zb_ieq c' 0 && (zb_ieq b.1 0 && zb_ieq b.2 7))))
  | _, _, _ => false
set_option maxRecDepth 100000 in
theorem zb_kt_all : (List.range 50).all zb_kt = true := by decide +kernel
set_option maxRecDepth 100000 in
theorem zb_rckK : zb_rck zb_LC.1 zb_LC.2.2.2.1 zb_rsK = true := by decide +kernel
theorem zb_lwKw : zb_has zb_lwK 55 = false ∧ zb_has zb_lwK 84 = false := by decide +kernel
theorem zb_lwKr : ∀ q, q ∈ zb_rsK → zb_has zb_lwK q.1 = false := List.forall_mem_cons.mpr ⟨zb_lwKw.1, List.forall_mem_cons.mpr ⟨zb_lwKw.2, List.forall_mem_nil _⟩⟩
set_option maxRecDepth 100000 in
theorem zb_rckT : ∀ d, d < 6 → zb_rck (zb_sA d 1).1 (zb_sA d 1).2 zb_rsK = true := by
  intro d hd
  have h6 : d = 0 ∨ d = 1 ∨ d = 2 ∨ d = 3 ∨ d = 4 ∨ d = 5 := by omega
  rcases h6 with rfl | rfl | rfl | rfl | rfl | rfl
  · decide +kernel
  · decide +kernel
  · decide +kernel
  · decide +kernel
  · decide +kernel
  · decide +kernel
section
variable {LL : Nat} {xs : Nat → Int32} {ρ : Nat → Int} {L' : rf_L} {σ : rf_S} {u v : Nat} {post : rf_P}
/-- the kinds at a turn's start -/
theorem zb_kinds (ham : zb_am zb_tL 90 zb_LC 186 ρ L' [] σ) : ∃ f f' : Nat → Int32, σ[55]? = some (.inl (0, 50, .inl f)) ∧ σ[84]? = some (.inl (0, 50, .inl f')) ∧ ∀ j, j < 50 → (f j).toInt = ρ (8 + (78 + j)) ∧ (f' j).toInt = ρ (8 + (78 + j)) ∧ 0 ≤ ρ (8 + (78 + j)) ∧ ρ (8 + (78 + j)) ≤ 7 := by
  obtain ⟨a1, a2, a3, a4⟩ := ham
  obtain ⟨f, f1, f2⟩ := zb_cells (r := 55) (m := 50) (b := 78) a4 rfl
  obtain ⟨f', f3, f4⟩ := zb_cells (r := 84) (m := 50) (b := 128) a4 rfl
  refine ⟨f, f', f1, f3, fun j hj => ?_⟩
  have g := List.all_eq_true.mp zb_kt_all j (List.mem_range.mpr hj)
  unfold zb_kt at g
  split at g
  case h_2 => cases g
  case h_1 k c k' c' b h1 h2 h3 =>
  rw [zb_nth_eq] at h1 h2 h3
  have g1 := an_and g
  have g2 := an_and g1.2
  have g3 := an_and g2.2
  have g4 := an_and g3.2
  have g5 := an_and g4.2
  have e1 := Nat.eq_of_beq_eq_true g1.1
  have e2 := zb_ieq_of g2.1
  have e3 := Nat.eq_of_beq_eq_true g3.1
  have e4 := zb_ieq_of g4.1
  have e5 := zb_ieq_of g5.1
  have e6 := zb_ieq_of g5.2
  obtain ⟨a, b1, b2⟩ := f2 j hj
  rw [h1] at b1
  cases b1
  obtain ⟨a', b3, b4⟩ := f4 j hj
  rw [h2] at b3
  cases b3
  obtain ⟨-, x, hx, hx2⟩ := b2
  cases hx
  obtain ⟨-, y, hy, hy2⟩ := b4
  cases hy
  have hb := a1.2.1 _ _ h3
  rw [e1] at hx2
  rw [e3] at hy2
  exact ⟨by omega, by omega, by omega, by omega⟩
theorem zb_turnT (hLL : LL < 2 ^ 31) (ham : zb_am zb_tL 90 zb_LC 186 ρ L' [] σ) (hs : zb_hs LL xs 186 ρ) (hR : zb_RI ρ) (hu : u ≤ 600000) (hv : v ≤ 7302250)
    (hnext : ∀ ρ1 L1 σ1, zb_am zb_tL 90 zb_LH 186 ρ1 L1 [] σ1 → zb_RI ρ1 → ρ1 0 = ρ 0 → ρ1 7 = ρ 7 + 6 → zb_W (rf_SA LL xs) rf_ms (rf_run (rf_SA LL xs) rf_ms (900 + 8)) rf_law 18 L1 [] σ1 u v post) : zb_W (rf_SA LL xs) rf_ms (rf_run (rf_SA LL xs) rf_ms (900 + 8)) rf_law 1198 L' [] σ u v post := by
  obtain ⟨f, f', k1, k2, k3⟩ := zb_kinds ham
  obtain ⟨a1, a2, a3, a4⟩ := ham
  rcases zb_st6_ok a1 a4 hR with ⟨c, c1, c2, c3⟩ | ⟨d, hd, r0, r1, c2, c3⟩
  · exact zb_turn hLL (zb_every_ok zb_tN c c1) c2 a2 c3 hs hR hu hv hnext
  obtain ⟨w, hw8, hw⟩ : ∃ w : Nat, w < 8 ∧ (w : Int) = ρ (8 + (78 + (ρ (8 + (60 + d))).toNat)) := by
    obtain ⟨-, -, h3, h4⟩ := k3 (ρ (8 + (60 + d))).toNat (by omega)
    exact ⟨(ρ (8 + (78 + (ρ (8 + (60 + d))).toNat))).toNat, by omega, by omega⟩
  have ht := zb_tall d hd w hw8
  unfold zb_ttst at ht
  split at ht
  case h_2 => cases ht
  case h_1 cs hcs =>
  have hag : zb_ag 186 ρ (zb_ru ρ 186 (w : Int)) := zb_ru_ag _
  have hle : (186 : Nat) ≤ 187 := by decide
  have en : zb_en 187 (zb_ru ρ 186 (w : Int)) (List.append (zb_sA d 1).1.1 [(Int.ofNat w, Int.ofNat w)], (zb_sA d 1).1.2) := zb_en_app (b := (Int.ofNat w, Int.ofNat w)) (fs := []) c2 (Int.le_refl _) (Int.le_refl _) (fun f hf => absurd hf List.not_mem_nil)
  have rck : zb_rck (zb_sA d 1).1 (zb_sA d 1).2 zb_rsK = true := zb_rckT d hd
  have ssA : zb_ss zb_tA 90 ((zb_sA d 1).2.take 78) 187 (zb_ru ρ 186 (w : Int)) σ := zb_ss_ext hle hag (zb_poor zb_relK c2 c3 rck)
  have hs' : zb_hs LL xs 187 (zb_ru ρ 186 (w : Int)) := zb_hs_ext hle hag hs
  have e2 : zb_ru ρ 186 (w : Int) (8 + (60 + d)) = ρ (8 + (60 + d)) := hag _ (by omega)
  have eg : zb_ru ρ 186 (w : Int) 186 = (w : Int) := zb_ru_at _
  have hnone : ∀ C : zb_K, zb_cov zb_tA 90 (zb_has zb_lwK) 187 (zb_ru ρ 186 (w : Int)) σ (fun _ _ _ _ => none) C := fun C b env As D rs As' σ post N ρ h => by cases h
  have hS : zb_sok zb_tA 90 (zb_has zb_lwK) 187 (zb_ru ρ 186 (w : Int)) σ (zb_tS d) (rf_run (rf_SA LL xs) rf_ms (888 + 1)) := by
    intro b env As D rs As' σ1 post1 N ρ1 h he hA hσ hH hpost
    dsimp only at h
    unfold zb_tS at h
    cases hb1 : Nat.beq b 2 with
    | true =>
      rw [hb1, cond_true] at h
      have eb : b = 2 := Nat.eq_of_beq_eq_true hb1
      rw [eb]
      refine rf_run_le (d := 0 + 1) (by decide) (zb_hk_ok (loc := zb_locL) (by decide) hLL zb_hlocA (fun _ => hs') (hnone _) rfl zb_lwKw.1 (by omega) (by decide) ⟨f, k1, fun h1 h2 => ?_⟩ env As D rs As' σ1 post1 N ρ1 h he hA hσ hH hpost)
      rw [e2] at h1 h2 ⊢
      rw [eg, hw]
      exact (k3 _ (by omega)).1
    | false =>
      rw [hb1, cond_false] at h
      cases hb2 : Nat.beq b 208 with
      | true =>
        rw [hb2, cond_true] at h
        have eb : b = 208 := Nat.eq_of_beq_eq_true hb2
        rw [eb]
        refine rf_run_le (d := 0 + 1) (by decide) (zb_hk_ok (loc := zb_locL) (by decide) hLL zb_hlocA (fun _ => hs') (hnone _) rfl zb_lwKw.2 (by omega) (by decide) ⟨f', k2, fun h1 h2 => ?_⟩ env As D rs As' σ1 post1 N ρ1 h he hA hσ hH hpost)
        rw [e2] at h1 h2 ⊢
        rw [eg, hw]
        exact (k3 _ (by omega)).2.1
      | false =>
        rw [hb2, cond_false] at h
        cases h
  have hgL : zb_gL 187 (zb_ru ρ 186 (w : Int)) zb_LC.2.1 L' := zb_gL_ext hle hag a2
  refine zb_body_ok (wr := zb_has zb_lwK) (n0 := 187) (ρ0 := zb_ru ρ 186 (w : Int)) (σ0 := σ) (sl := (true, [])) (by decide) hLL zb_hlocA (fun _ => hs') (fun b As σ p q => rf_run_post _ _ _ b As σ p q) (rf_run_det _ _ _) (zb_run_ok (d1 := 888) (by decide) hLL zb_hlocA (fun _ => hs') hS 20) hu hv 3000 true (zb_tc d w) cs 187 (zb_ru ρ 186 (w : Int)) L' [] σ hcs en hgL trivial ssA ⟨Nat.le_refl _, zb_ag_refl _ _, fun _ _ => rfl⟩ (fun e he => ?_) (fun e he M ρ' L1 st1 σ1 b1 b2 b3 b4 b5 b6 b7 b8 => ?_)
  · have g := List.all_eq_true.mp ht _ he
    cases g
  · have g := an_and (show (Nat.beq e.2.2.2.2.length 78 && zb_lend (false, e.1, e.2.1, e.2.2.1, e.2.2.2.1, List.append e.2.2.2.2 (zb_LC.2.2.2.1.drop 78))) = true from List.all_eq_true.mp ht _ he)
    have hlen := Nat.eq_of_beq_eq_true g.1
    have hl2 := g.2
    have g := an_and (show (Nat.beq e.2.1 18 && ((Nat.beq (List.append e.2.2.2.2 (zb_LC.2.2.2.1.drop 78)).length 178 && zb_rend e.1 (List.append e.2.2.2.2 (zb_LC.2.2.2.1.drop 78))) && (match zb_fitA 1 (e.1, e.2.1, e.2.2.1, e.2.2.2.1, List.append e.2.2.2.2 (zb_LC.2.2.2.1.drop 78)) zb_LH with
      | some ds => (match zb_nth ds 6 with
        | some (.inr (0, k, c)) => Nat.beq k.toNat 7 && zb_ieq c 6
        | _ => false)
      | none => false))) = true from g.2)
    have e18 : e.2.1 = 18 := Nat.eq_of_beq_eq_true g.1
    have g1 := an_and g.2
    have g4 := an_and g1.1
    have g2 := g1.2
    split at g2
    case h_2 => cases g2
    case h_1 ds hds =>
    split at g2
    case h_2 => cases g2
    case h_1 k c hk =>
    have g3 := an_and g2
    have ek := Nat.eq_of_beq_eq_true g3.1
    have ec := zb_ieq_of g3.2
    subst ec
    rw [zb_nth_eq] at hk
    have b4' : zb_ss zb_tL 90 (e.2.2.2.2 ++ zb_LC.2.2.2.1.drop 78) M ρ' σ1 := zb_back zb_relK b4 hlen (zb_ss_ext hle hag a4) b5 b6 (fun q hq => b7 q.1 (zb_lwKr q hq))
    obtain ⟨hd, hm, hl⟩ := zb_fitA_ok (ns := 178) (c := (e.1, e.2.1, e.2.2.1, e.2.2.2.1, List.append e.2.2.2.2 (zb_LC.2.2.2.1.drop 78))) zb_hlocL zb_hlcL rfl (by omega : 1 ≤ M) b1 b2 b3 b4' hds
    rw [e18]
    have est := zb_gl_nil hm.2.2.1
    subst est
    refine hnext _ L1 σ1 hm (zb_rend_ok (N := 187) b1 b4' (Nat.eq_of_beq_eq_true g4.1) hle b5 b6 zb_srs_ok (zb_RI_ext hag hR) g4.2) ?_ ?_
    · rw [zb_rA_lt (by decide), b6 0 (by decide)]
      exact hag 0 (by decide)
    · obtain ⟨w1, w2, w3⟩ := hd.2.2 6 (0, 3) _ rfl hk
      obtain ⟨-, x, rfl, hx⟩ := w3
      have e7 : zb_rA zb_locL 1 ρ' zb_LH.2.2.2.2 L1 [] σ1 7 = x.toInt := by
        unfold zb_rA
        rw [if_neg (by decide)]
        show zb_int (zb_cw zb_locL L1 [] σ1 (0, 3)) = _
        rw [w2]
        rfl
      rw [e7, hx, ek, b6 7 (by decide), hag 7 (by decide)]
end
