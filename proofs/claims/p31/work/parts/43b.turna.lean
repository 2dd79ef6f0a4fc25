/-! act's turn -/
/-- the kinds are the same numbers on both sides, 0 to 7 -/
noncomputable def zb_kt (j : Nat) : Bool := match zb_nth zb_LC.2.2.2.1 (66 + j), zb_nth zb_LC.2.2.2.1 (116 + j), zb_nth zb_LC.1.1 (8 + (66 + j)) with
  | some (.inr (0, k, c)), some (.inr (0, k', c')), some b => Nat.beq k.toNat (8 + (66 + j)) && (zb_ieq c 0 && (Nat.beq k'.toNat (8 + (66 + j)) && (zb_ieq c' 0 && (zb_ieq b.1 0 && zb_ieq b.2 7))))
  | _, _, _ => false
set_option maxRecDepth 100000 in
theorem zb_kt_all : (List.range 50).all zb_kt = true := by decide +kernel
set_option maxRecDepth 100000 in
theorem zb_rckK : zb_rck zb_LC.1 zb_LC.2.2.2.1 zb_rsK = true := by decide +kernel
theorem zb_lwKw : zb_has zb_lwK 55 = false ∧ zb_has zb_lwK 84 = false := by decide +kernel
theorem zb_lwKr : ∀ q, q ∈ zb_rsK → zb_has zb_lwK q.1 = false := List.forall_mem_cons.mpr ⟨zb_lwKw.1, List.forall_mem_cons.mpr ⟨zb_lwKw.2, List.forall_mem_nil _⟩⟩
section
variable {LL : Nat} {xs : Nat → Int32} {ρ : Nat → Int} {L' : rf_L} {σ : rf_S} {u v : Nat} {post : rf_P}
/-- the kinds at a turn's start -/
theorem zb_kinds (ham : zb_am zb_tL 90 zb_LC 174 ρ L' [] σ) : ∃ f f' : Nat → Int32, σ[55]? = some (.inl (0, 50, .inl f)) ∧ σ[84]? = some (.inl (0, 50, .inl f')) ∧ ∀ j, j < 50 → (f j).toInt = ρ (8 + (66 + j)) ∧ (f' j).toInt = ρ (8 + (66 + j)) ∧ 0 ≤ ρ (8 + (66 + j)) ∧ ρ (8 + (66 + j)) ≤ 7 := by
  obtain ⟨a1, a2, a3, a4⟩ := ham
  obtain ⟨f, f1, f2⟩ := zb_cells (r := 55) (m := 50) (b := 66) a4 rfl
  obtain ⟨f', f3, f4⟩ := zb_cells (r := 84) (m := 50) (b := 116) a4 rfl
  refine ⟨f, f', f1, f3, fun j hj => ?_⟩
  have g := List.all_eq_true.mp zb_kt_all j (List.mem_range.mpr hj)
  unfold zb_kt at g
  split at g
  case h_2 => cases g
  case h_1 k c k' c' b h1 h2 h3 =>
  rw [zb_nth_eq] at h1 h2 h3
  have g1 := an_and g
  have g2 := an_and g1.2
  have g3 := an_and g2.2
  have g4 := an_and g3.2
  have g5 := an_and g4.2
  have e1 := Nat.eq_of_beq_eq_true g1.1
  have e2 := zb_ieq_of g2.1
  have e3 := Nat.eq_of_beq_eq_true g3.1
  have e4 := zb_ieq_of g4.1
  have e5 := zb_ieq_of g5.1
  have e6 := zb_ieq_of g5.2
  obtain ⟨a, b1, b2⟩ := f2 j hj
  rw [h1] at b1
  cases b1
  obtain ⟨a', b3, b4⟩ := f4 j hj
  rw [h2] at b3
  cases b3
  obtain ⟨-, x, hx, hx2⟩ := b2
  cases hx
  obtain ⟨-, y, hy, hy2⟩ := b4
  cases hy
  have hb := a1.2.1 _ _ h3
  rw [e1] at hx2
  rw [e3] at hy2
  exact ⟨by omega, by omega, by omega, by omega⟩
theorem zb_turnA (hLL : LL < 2 ^ 31) (ham : zb_am zb_tL 90 zb_LC 174 ρ L' [] σ) (hs : zb_hs LL xs 174 ρ) (hu : u ≤ 600000) (hv : v ≤ 7302250)
    (hnext : ∀ ρ1 L1 σ1, zb_am zb_tL 90 zb_LH 174 ρ1 L1 [] σ1 → ρ1 0 = ρ 0 → ρ1 7 = ρ 7 + 6 → zb_W (rf_SA LL xs) rf_ms (rf_run (rf_SA LL xs) rf_ms (900 + 8)) rf_law 18 L1 [] σ1 u v post) : zb_W (rf_SA LL xs) rf_ms (rf_run (rf_SA LL xs) rf_ms (900 + 8)) rf_law 887 L' [] σ u v post := by
  obtain ⟨f, f', k1, k2, k3⟩ := zb_kinds ham
  obtain ⟨a1, a2, a3, a4⟩ := ham
  obtain ⟨w, hw8, hw⟩ : ∃ w : Nat, w < 8 ∧ (0 ≤ ρ 2 → ρ 2 < 50 → (w : Int) = ρ (8 + (66 + (ρ 2).toNat))) := by
    by_cases h : 0 ≤ ρ 2 ∧ ρ 2 < 50
    · obtain ⟨-, -, h3, h4⟩ := k3 (ρ 2).toNat (by omega)
      exact ⟨(ρ (8 + (66 + (ρ 2).toNat))).toNat, by omega, fun _ _ => by omega⟩
    · exact ⟨0, by decide, fun h1 h2 => absurd ⟨h1, h2⟩ h⟩
  have ht := zb_aall w hw8
  unfold zb_atst at ht
  split at ht
  case h_2 => cases ht
  case h_1 cs hcs =>
  have hag : zb_ag 174 ρ (zb_ru ρ 174 (w : Int)) := zb_ru_ag _
  have hle : (174 : Nat) ≤ 175 := by decide
  have en : zb_en 175 (zb_ru ρ 174 (w : Int)) (List.append zb_LC.1.1 [(Int.ofNat w, Int.ofNat w)], zb_LC.1.2) := zb_en_app (b := (Int.ofNat w, Int.ofNat w)) (fs := []) a1 (Int.le_refl _) (Int.le_refl _) (fun f hf => absurd hf List.not_mem_nil)
  have ssA : zb_ss zb_tA 90 (zb_LC.2.2.2.1.take 66) 175 (zb_ru ρ 174 (w : Int)) σ := zb_ss_ext hle hag (zb_poor zb_relK a1 a4 zb_rckK)
  have hs' : zb_hs LL xs 175 (zb_ru ρ 174 (w : Int)) := zb_hs_ext hle hag hs
  have e2 : zb_ru ρ 174 (w : Int) 2 = ρ 2 := hag 2 (by decide)
  have eg : zb_ru ρ 174 (w : Int) 174 = (w : Int) := zb_ru_at _
  have hnone : ∀ C : zb_K, zb_cov zb_tA 90 (zb_has zb_lwK) 175 (zb_ru ρ 174 (w : Int)) σ (fun _ _ _ _ => none) C := fun C b env As D rs As' σ post N ρ h => by cases h
  have hnX : ∀ C : zb_K, zb_sok zb_tA 90 (zb_has zb_lwK) 175 (zb_ru ρ 174 (w : Int)) σ zb_nX C := fun C => zb_nX_ok
  have hK16 := zb_run_ok (LL := LL) (xs := xs) (ms := rf_ms) (S := zb_nX) (F := 3000) (sl := zb_aslo) (loc := zb_locL) (by decide) hLL zb_hlocA (fun _ => hs') (hnX (rf_run (rf_SA LL xs) rf_ms (0 + 1))) 16
  have hS : zb_sok zb_tA 90 (zb_has zb_lwK) 175 (zb_ru ρ 174 (w : Int)) σ zb_aS (rf_run (rf_SA LL xs) rf_ms (848 + 1)) := by
    intro b env As D rs As' σ1 post1 N ρ1 h he hA hσ hH hpost
    dsimp only at h
    unfold zb_aS at h
    cases hb1 : Nat.beq b 2 with
    | true =>
      rw [hb1, cond_true] at h
      have eb : b = 2 := Nat.eq_of_beq_eq_true hb1
      rw [eb]
      refine rf_run_le (d := 0 + 1) (by decide) (zb_hk_ok (loc := zb_locL) (by decide) hLL zb_hlocA (fun _ => hs') (hnone _) rfl zb_lwKw.1 (by decide) (by decide) ⟨f, k1, fun h1 h2 => ?_⟩ env As D rs As' σ1 post1 N ρ1 h he hA hσ hH hpost)
      rw [e2] at h1 h2 ⊢
      rw [eg, hw h1 h2]
      exact (k3 _ (by omega)).1
    | false =>
      rw [hb1, cond_false] at h
      cases hb2 : Nat.beq b 216 with
      | true =>
        rw [hb2, cond_true] at h
        have eb : b = 216 := Nat.eq_of_beq_eq_true hb2
        rw [eb]
        refine rf_run_le (d := 0 + 16 + 1) (by decide) (zb_hk_ok (loc := zb_locL) (by decide) hLL zb_hlocA (fun _ => hs') hK16 rfl zb_lwKw.2 (by decide) (by decide) ⟨f', k2, fun h1 h2 => ?_⟩ env As D rs As' σ1 post1 N ρ1 h he hA hσ hH hpost)
        rw [e2] at h1 h2 ⊢
        rw [eg, hw h1 h2]
        exact (k3 _ (by omega)).2.1
      | false =>
        rw [hb2, cond_false] at h
        cases h
  have hgL : zb_gL 175 (zb_ru ρ 174 (w : Int)) zb_LC.2.1 L' := zb_gL_ext hle hag a2
  refine zb_body_ok (wr := zb_has zb_lwK) (n0 := 175) (ρ0 := zb_ru ρ 174 (w : Int)) (σ0 := σ) (sl := zb_aslo) (by decide) hLL zb_hlocA (fun _ => hs') (fun b As σ p q => rf_run_post _ _ _ b As σ p q) (rf_run_det _ _ _) (zb_run_ok (d1 := 848) (by decide) hLL zb_hlocA (fun _ => hs') hS 60) hu hv 3000 true (zb_ac w) cs 175 (zb_ru ρ 174 (w : Int)) L' [] σ hcs en hgL trivial ssA ⟨Nat.le_refl _, zb_ag_refl _ _, fun _ _ => rfl⟩ (fun e he => ?_) (fun e he M ρ' L1 st1 σ1 b1 b2 b3 b4 b5 b6 b7 b8 => ?_)
  · have g := List.all_eq_true.mp ht _ he
    cases g
  · have g := an_and (show (Nat.beq e.2.2.2.2.length 66 && zb_lend (false, e.1, e.2.1, e.2.2.1, e.2.2.2.1, List.append e.2.2.2.2 (zb_LC.2.2.2.1.drop 66))) = true from List.all_eq_true.mp ht _ he)
    have hlen := Nat.eq_of_beq_eq_true g.1
    have g := an_and (show (Nat.beq e.2.1 18 && (match zb_fitA 1 (e.1, e.2.1, e.2.2.1, e.2.2.2.1, List.append e.2.2.2.2 (zb_LC.2.2.2.1.drop 66)) zb_LH with
      | some ds => (match zb_nth ds 6 with
        | some (.inr (0, k, c)) => Nat.beq k.toNat 7 && zb_ieq c 6
        | _ => false)
      | none => false)) = true from g.2)
    have e18 : e.2.1 = 18 := Nat.eq_of_beq_eq_true g.1
    have g2 := g.2
    split at g2
    case h_2 => cases g2
    case h_1 ds hds =>
    split at g2
    case h_2 => cases g2
    case h_1 k c hk =>
    have g3 := an_and g2
    have ek := Nat.eq_of_beq_eq_true g3.1
    have ec := zb_ieq_of g3.2
    subst ec
    rw [zb_nth_eq] at hk
    have b4' : zb_ss zb_tL 90 (e.2.2.2.2 ++ zb_LC.2.2.2.1.drop 66) M ρ' σ1 := zb_back zb_relK b4 hlen (zb_ss_ext hle hag a4) b5 b6 (fun q hq => b7 q.1 (zb_lwKr q hq))
    obtain ⟨hd, hm, hl⟩ := zb_fitA_ok (ns := 166) (c := (e.1, e.2.1, e.2.2.1, e.2.2.2.1, List.append e.2.2.2.2 (zb_LC.2.2.2.1.drop 66))) zb_hlocL zb_hlcL rfl (by omega : 1 ≤ M) b1 b2 b3 b4' hds
    rw [e18]
    have est := zb_gl_nil hm.2.2.1
    subst est
    refine hnext _ L1 σ1 hm ?_ ?_
    · rw [zb_rA_lt (by decide), b6 0 (by decide)]
      exact hag 0 (by decide)
    · obtain ⟨w1, w2, w3⟩ := hd.2.2 6 (0, 3) _ rfl hk
      obtain ⟨-, x, rfl, hx⟩ := w3
      have e7 : zb_rA zb_locL 1 ρ' zb_LH.2.2.2.2 L1 [] σ1 7 = x.toInt := by
        unfold zb_rA
        rw [if_neg (by decide)]
        show zb_int (zb_cw zb_locL L1 [] σ1 (0, 3)) = _
        rw [w2]
        rfl
      rw [e7, hx, ek, b6 7 (by decide), hag 7 (by decide)]
end
