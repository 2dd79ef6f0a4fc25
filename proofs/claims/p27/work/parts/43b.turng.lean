/-! the turns that read or write the shelves' elements -/
section
variable {LL : Nat} {xs : Nat → Int32} {ρ : Nat → Int} {L' : rf_L} {σ : rf_S} {u v : Nat} {post : rf_P}
theorem zc_sS {f0 g0 : Nat → Int} (hLL : LL < 2 ^ 31) (hs : zb_hs LL xs 98 ρ) (hCI : zc_CI ρ f0 g0) : zc_sok zb_tL 90 (zb_has zb_lw) 98 ρ σ f0 g0 zc_S (rf_run (rf_SA LL xs) rf_ms (896 + 1)) := by
  have hT : zc_T zb_tL := ⟨rfl, rfl, rfl⟩
  have w61 : zb_has zb_lw 61 = false := by decide +kernel
  have w88 : zb_has zb_lw 88 = false := by decide +kernel
  have h86 : 86 ≤ 98 := by decide
  have hnone : ∀ C : zb_K, zc_sok zb_tL 90 (zb_has zb_lw) 98 ρ σ f0 g0 (fun _ => none) C := fun C b env As D G rs As' σ post N ρ h => by cases h
  have hK6 := zc_run_ok (LL := LL) (xs := xs) (ms := rf_ms) (S := fun _ => none) (F := 3000) (sl := (true, [])) (loc := zb_locL) (d1 := 0) (by decide) hLL zb_hlocL (fun _ => hs) h86 hT hCI w61 w88 (hnone (rf_run (rf_SA LL xs) rf_ms (0 + 1))) 6
  intro b env As D G rs As' σ1 post1 N ρ1 h he hA hσ hH hG hpost
  dsimp only at h
  unfold zc_S at h
  cases hb1 : Nat.beq b 57 with
  | true =>
    rw [hb1, cond_true] at h
    rw [Nat.eq_of_beq_eq_true hb1]
    exact rf_run_le (d := 0 + 1) (by decide) (zc_hH_ok (loc := zb_locL) (so := 66) (sz := 72) (d1 := 0) zb_hlocL hT (show zb_tL 57 = some zb_t57 from rfl) rfl rfl rfl rfl rfl (by decide +kernel) (by decide +kernel) (by decide) env As D G rs As' σ1 post1 N ρ1 h he hA hσ hH hG hpost)
  | false =>
    rw [hb1, cond_false] at h
    cases hb2 : Nat.beq b 225 with
    | true =>
      rw [hb2, cond_true] at h
      rw [Nat.eq_of_beq_eq_true hb2]
      exact rf_run_le (d := 0 + 6 + 1) (by decide) (zc_hM_ok (loc := zb_locL) (by decide) hLL zb_hlocL (fun _ => hs) h86 hT hCI w61 w88 hK6 (show zb_tL 63 = some zb_t63 from rfl) rfl rfl rfl (by decide +kernel) env As D G rs As' σ1 post1 N ρ1 h he hA hσ hH hG hpost)
    | false =>
      rw [hb2, cond_false] at h
      cases hb3 : Nat.beq b 96 with
      | true =>
        rw [hb3, cond_true] at h
        rw [Nat.eq_of_beq_eq_true hb3]
        exact rf_run_le (d := 0 + 1) (by decide) (zc_hI_ok (d1 := 0) env As D G rs As' σ1 post1 N ρ1 h he hA hσ hH hG hpost)
      | false =>
        rw [hb3, cond_false] at h
        cases h
theorem zc_core {f0 g0 : Nat → Int} (hLL : LL < 2 ^ 31) {e0 : zc_C} {cs : List (Bool × zc_C)} (hcs : zc_body zb_tL (zb_has zb_lw) (true, []) rf_ms (zc_run zb_tL (zb_has zb_lw) (true, []) rf_ms zc_S 3000 12) rf_law (fun k => Nat.beq k 18) 3000 true e0 = some cs) (ht : cs.all zc_lend = true) {N : Nat} {ρn : Nat → Int} {Ln : rf_L} {stn : List Value} {σn : rf_S} (d1 : zb_en N ρn e0.1.1) (d2 : zb_gL N ρn e0.1.2.2.1 Ln) (d3 : zb_gl N ρn e0.1.2.2.2.1 stn) (d4 : zb_ss zb_tL 90 e0.1.2.2.2.2 N ρn σn) (hH : zb_H (zc_wf (zb_has zb_lw)) 98 ρ σ N ρn σn) (hG : zc_GR N ρn f0 g0 e0.2 σn) (hs : zb_hs LL xs 98 ρ) (hR : zb_RI ρ) (hCI : zc_CI ρ f0 g0) (hu : u ≤ 600000) (hv : v ≤ 7302250)
    (hnext : ∀ ρ1 L1 σ1, zb_am zb_tL 90 zb_LH 98 ρ1 L1 [] σ1 → zb_RI ρ1 → zc_CS ρ1 σ1 → ρ1 0 = ρ 0 → ρ1 7 = ρ 7 + 6 → zb_W (rf_SA LL xs) rf_ms (rf_run (rf_SA LL xs) rf_ms (900 + 8)) rf_law 18 L1 [] σ1 u v post) : zb_W (rf_SA LL xs) rf_ms (rf_run (rf_SA LL xs) rf_ms (900 + 8)) rf_law e0.1.2.1 Ln stn σn u v post := by
  have hT : zc_T zb_tL := ⟨rfl, rfl, rfl⟩
  have w61 : zb_has zb_lw 61 = false := by decide +kernel
  have w88 : zb_has zb_lw 88 = false := by decide +kernel
  have h86 : 86 ≤ 98 := by decide
  refine zc_body_ok (wr := zb_has zb_lw) (n0 := 98) (ρ0 := ρ) (σ0 := σ) (sl := (true, [])) (by decide) hLL zb_hlocL (fun _ => hs) h86 hT hCI w61 w88 (fun b As σ p q => rf_run_post _ _ _ b As σ p q) (rf_run_det _ _ _) (zc_run_ok (d1 := 896) (by decide) hLL zb_hlocL (fun _ => hs) h86 hT hCI w61 w88 (zc_sS hLL hs hCI) 12) hu hv 3000 true e0 cs N ρn Ln stn σn hcs d1 d2 d3 d4 hH hG (fun e he => ?_) (fun e he M ρ' L1 st1 σ1 b1 b2 b3 b4 b5 b6 b7 b8 b9 => ?_)
  · have g := List.all_eq_true.mp ht _ he
    cases g
  · have g := List.all_eq_true.mp ht _ he
    have b4 : zb_ss zb_tL 90 (zc_cv e.1.1 e.1.2.2.2.2) M ρ' σ1 := zc_cv_ok b1 b4
    have hagI : zb_ag 98 ρ ρ' := zb_ag_trans hH.1 hH.2.1 b6
    have hNM : 98 ≤ M := Nat.le_trans hH.1 b5
    have g := an_and (show (Nat.beq e.1.2.1 18 && ((Nat.beq (zc_cv e.1.1 e.1.2.2.2.2).length 90 && (zb_rend e.1.1 (zc_cv e.1.1 e.1.2.2.2.2) && zc_cend e.1.1 (zc_cv e.1.1 e.1.2.2.2.2) e.2.2.1 e.2.2.2)) && (match zb_fitA 1 (e.1.1, e.1.2.1, e.1.2.2.1, e.1.2.2.2.1, zc_cv e.1.1 e.1.2.2.2.2) zb_LH with
      | some ds => (match zb_nth ds 6 with
        | some (.inr (0, k, c)) => Nat.beq k.toNat 7 && zb_ieq c 6
        | _ => false)
      | none => false))) = true from g)
    have e18 : e.1.2.1 = 18 := Nat.eq_of_beq_eq_true g.1
    have g1 := an_and g.2
    have g4 := an_and g1.1
    have g5 := an_and g4.2
    have g2 := g1.2
    split at g2
    case h_2 => cases g2
    case h_1 ds hds =>
    split at g2
    case h_2 => cases g2
    case h_1 k c' hk =>
    have g3 := an_and g2
    have ek := Nat.eq_of_beq_eq_true g3.1
    have ec := zb_ieq_of g3.2
    subst ec
    rw [zb_nth_eq] at hk
    obtain ⟨hd, hm, hl⟩ := zb_fitA_ok (ns := 90) (c := (e.1.1, e.1.2.1, e.1.2.2.1, e.1.2.2.2.1, zc_cv e.1.1 e.1.2.2.2.2)) zb_hlocL zb_hlcL rfl (by omega : 1 ≤ M) b1 b2 b3 b4 hds
    rw [e18]
    have est := zb_gl_nil hm.2.2.1
    subst est
    have hlen := Nat.eq_of_beq_eq_true g4.1
    refine hnext _ L1 σ1 hm (zb_rend_ok (N := 98) b1 b4 hlen (Nat.le_refl _) hNM hagI zb_srs_ok hR g5.1) (zc_cend_ok (N := 98) (ms := e.2.1) b1 b4 hlen zb_srs_ok hagI (Nat.le_refl _) hCI b8 g5.2) ?_ ?_
    · rw [zb_rA_lt (by decide)]
      exact hagI 0 (by decide)
    · obtain ⟨w, w1, w2⟩ := hd.2.2 6 (0, 3) _ rfl hk
      obtain ⟨-, x, rfl, hx⟩ := w2
      have e7 : zb_rA zb_locL 1 ρ' zb_LH.2.2.2.2 L1 [] σ1 7 = x.toInt := by
        unfold zb_rA
        rw [if_neg (by decide)]
        show zb_int ((some ((0, 3) : Nat × Nat)).bind (zb_cw zb_locL L1 [] σ1)) = _
        show zb_int (zb_cw zb_locL L1 [] σ1 (0, 3)) = _
        rw [w1]
        rfl
      rw [e7, hx, ek, hagI 7 (by decide)]
theorem zc_G0 {f g : Nat → Int64} (r1 : σ[61]? = some (.inl (1, 360, .inr (.inl f)))) (r2 : σ[88]? = some (.inl (1, 360, .inr (.inl g)))) : zc_GR 98 ρ (fun x => (f x).toInt) (fun x => (g x).toInt) ([], [], []) σ := ⟨fun m hm => absurd hm List.not_mem_nil, fun u hu => absurd hu List.not_mem_nil, fun u hu => absurd hu List.not_mem_nil, ⟨f, r1, fun x hx => rfl⟩, ⟨g, r2, fun x hx => rfl⟩⟩
theorem zc_turnG (hLL : LL < 2 ^ 31) {t : Nat} {c : zb_N × zb_D} (ht : zc_gtst t c = true) (a1 : zb_en 98 ρ c.1) (a2 : zb_gL 98 ρ zb_LC.2.1 L') (a4 : zb_ss zb_tL 90 c.2 98 ρ σ) (hs : zb_hs LL xs 98 ρ) (hR : zb_RI ρ) (hC : zc_CS ρ σ) (hu : u ≤ 600000) (hv : v ≤ 7302250)
    (hnext : ∀ ρ1 L1 σ1, zb_am zb_tL 90 zb_LH 98 ρ1 L1 [] σ1 → zb_RI ρ1 → zc_CS ρ1 σ1 → ρ1 0 = ρ 0 → ρ1 7 = ρ 7 + 6 → zb_W (rf_SA LL xs) rf_ms (rf_run (rf_SA LL xs) rf_ms (900 + 8)) rf_law 18 L1 [] σ1 u v post) : zb_W (rf_SA LL xs) rf_ms (rf_run (rf_SA LL xs) rf_ms (900 + 8)) rf_law t L' [] σ u v post := by
  unfold zc_gtst at ht
  split at ht
  case h_2 => cases ht
  case h_1 cs hcs =>
  obtain ⟨f, g, r1, r2, hCI⟩ := hC
  exact zc_core hLL (e0 := ((c.1, t, zb_LC.2.1, [], c.2), ([], [], []))) hcs ht a1 a2 trivial a4 ⟨Nat.le_refl _, zb_ag_refl _ _, fun _ _ => rfl⟩ (zc_G0 r1 r2) hs hR hCI hu hv hnext
theorem zc_turnP (hLL : LL < 2 ^ 31) {t pm : Nat} {c : zb_N × zb_D} (ht : ∃ cs, zc_ph1 t pm c = some cs ∧ ∀ e, e ∈ cs → zc_ph2 e = true) (a1 : zb_en 98 ρ c.1) (a2 : zb_gL 98 ρ zb_LC.2.1 L') (a4 : zb_ss zb_tL 90 c.2 98 ρ σ) (hs : zb_hs LL xs 98 ρ) (hR : zb_RI ρ) (hC : zc_CS ρ σ) (hu : u ≤ 600000) (hv : v ≤ 7302250)
    (hnext : ∀ ρ1 L1 σ1, zb_am zb_tL 90 zb_LH 98 ρ1 L1 [] σ1 → zb_RI ρ1 → zc_CS ρ1 σ1 → ρ1 0 = ρ 0 → ρ1 7 = ρ 7 + 6 → zb_W (rf_SA LL xs) rf_ms (rf_run (rf_SA LL xs) rf_ms (900 + 8)) rf_law 18 L1 [] σ1 u v post) : zb_W (rf_SA LL xs) rf_ms (rf_run (rf_SA LL xs) rf_ms (900 + 8)) rf_law t L' [] σ u v post := by
  obtain ⟨cs, hcs, ht⟩ := ht
  obtain ⟨f, g, r1, r2, hCI⟩ := hC
  have hT : zc_T zb_tL := ⟨rfl, rfl, rfl⟩
  have w61 : zb_has zb_lw 61 = false := by decide +kernel
  have w88 : zb_has zb_lw 88 = false := by decide +kernel
  have h86 : 86 ≤ 98 := by decide
  refine zc_body_ok (wr := zb_has zb_lw) (n0 := 98) (ρ0 := ρ) (σ0 := σ) (sl := (true, [])) (by decide) hLL zb_hlocL (fun _ => hs) h86 hT hCI w61 w88 (fun b As σ p q => rf_run_post _ _ _ b As σ p q) (rf_run_det _ _ _) (zc_run_ok (d1 := 896) (by decide) hLL zb_hlocL (fun _ => hs) h86 hT hCI w61 w88 (zc_sS hLL hs hCI) 12) hu hv 3000 true ((c.1, t, zb_LC.2.1, [], c.2), ([], [], [])) cs 98 ρ L' [] σ hcs a1 a2 trivial a4 ⟨Nat.le_refl _, zb_ag_refl _ _, fun _ _ => rfl⟩ (zc_G0 r1 r2) (fun e he => ?_) (fun e he M ρ' L1 st1 σ1 b1 b2 b3 b4 b5 b6 b7 b8 b9 => ?_)
  · have g := ht _ he
    cases g
  · have g := ht _ he
    have g : (match zc_body zb_tL (zb_has zb_lw) (true, []) rf_ms (zc_run zb_tL (zb_has zb_lw) (true, []) rf_ms zc_S 3000 12) rf_law (fun k => Nat.beq k 18) 3000 true e with
      | some cs => cs.all zc_lend
      | none => false) = true := g
    split at g
    case h_2 => cases g
    case h_1 cs2 hcs2 =>
    exact zc_core hLL hcs2 g b1 b2 b3 b4 ⟨b5, b6, b7⟩ b8 hs hR hCI hu hv hnext
end
section
variable {LL : Nat} {xs : Nat → Int32} {ρ : Nat → Int} {L' : rf_L} {σ : rf_S} {u v : Nat} {post : rf_P}
theorem zc_turn34 (hLL : LL < 2 ^ 31) (ham : zb_am zb_tL 90 zb_LC 98 ρ L' [] σ) (hs : zb_hs LL xs 98 ρ) (hR : zb_RI ρ) (hC : zc_CS ρ σ) (hu : u ≤ 600000) (hv : v ≤ 7302250)
    (hnext : ∀ ρ1 L1 σ1, zb_am zb_tL 90 zb_LH 98 ρ1 L1 [] σ1 → zb_RI ρ1 → zc_CS ρ1 σ1 → ρ1 0 = ρ 0 → ρ1 7 = ρ 7 + 6 → zb_W (rf_SA LL xs) rf_ms (rf_run (rf_SA LL xs) rf_ms (900 + 8)) rf_law 18 L1 [] σ1 u v post) : zb_W (rf_SA LL xs) rf_ms (rf_run (rf_SA LL xs) rf_ms (900 + 8)) rf_law 1102 L' [] σ u v post := by
  obtain ⟨a1, a2, a3, a4⟩ := ham
  have b2 := a1.2.1 2 (zb_lo32, zb_hi32) rfl
  have s0 : zc_st ρ σ zc_c0 := ⟨a1, a4⟩
  have hb := zc_bod a1
  have G : ∀ c, zc_gtst 1102 c = true → zc_st ρ σ c → zb_W (rf_SA LL xs) rf_ms (rf_run (rf_SA LL xs) rf_ms (900 + 8)) rf_law 1102 L' [] σ u v post := fun c h s => zc_turnG hLL h s.1 a2 s.2 hs hR hC hu hv hnext
  by_cases h1 : ρ 2 < 0
  · exact G _ zc_g34_low (zc_na_ok s0 b2.1 (by show ρ 2 ≤ (-1 : Int); omega))
  by_cases h2 : 5 < ρ 2
  · exact G _ zc_g34_high (zc_na_ok s0 (by show (6 : Int) ≤ ρ 2; omega) b2.2)
  obtain ⟨d, hd⟩ : ∃ d : Nat, ρ 2 = (d : Int) := ⟨(ρ 2).toNat, by omega⟩
  have hd6 : d < 6 := by omega
  have s1 : zc_st ρ σ (zc_cd d) := zc_na_ok s0 (by show (d : Int) ≤ ρ 2; omega) (by show ρ 2 ≤ (d : Int); omega)
  rcases zc_rs_ok hd6 (zc_kd1 hd6) s1 hb hR with h | h | ⟨h, -⟩
  · exact G _ (zc_g34 d hd6 0 (by decide)) h
  · exact G _ (zc_g34 d hd6 1 (by decide)) h
  · exact G _ (zc_g34 d hd6 2 (by decide)) h
end
section
variable {LL : Nat} {xs : Nat → Int32} {ρ : Nat → Int} {L' : rf_L} {σ : rf_S} {u v : Nat} {post : rf_P}
theorem zc_turn33 (hLL : LL < 2 ^ 31) (ham : zb_am zb_tL 90 zb_LC 98 ρ L' [] σ) (hs : zb_hs LL xs 98 ρ) (hR : zb_RI ρ) (hC : zc_CS ρ σ) (hu : u ≤ 600000) (hv : v ≤ 7302250)
    (hnext : ∀ ρ1 L1 σ1, zb_am zb_tL 90 zb_LH 98 ρ1 L1 [] σ1 → zb_RI ρ1 → zc_CS ρ1 σ1 → ρ1 0 = ρ 0 → ρ1 7 = ρ 7 + 6 → zb_W (rf_SA LL xs) rf_ms (rf_run (rf_SA LL xs) rf_ms (900 + 8)) rf_law 18 L1 [] σ1 u v post) : zb_W (rf_SA LL xs) rf_ms (rf_run (rf_SA LL xs) rf_ms (900 + 8)) rf_law 1029 L' [] σ u v post := by
  obtain ⟨a1, a2, a3, a4⟩ := ham
  have b2 := a1.2.1 2 (zb_lo32, zb_hi32) rfl
  have s0 : zc_st ρ σ zc_c0 := ⟨a1, a4⟩
  have hb := zc_bod a1
  have G : ∀ c, zc_gtst 1029 c = true → zc_st ρ σ c → zb_W (rf_SA LL xs) rf_ms (rf_run (rf_SA LL xs) rf_ms (900 + 8)) rf_law 1029 L' [] σ u v post := fun c h s => zc_turnG hLL h s.1 a2 s.2 hs hR hC hu hv hnext
  by_cases h1 : ρ 2 < 0
  · exact G _ zc_g33_low (zc_na_ok s0 b2.1 (by show ρ 2 ≤ (-1 : Int); omega))
  by_cases h2 : 5 < ρ 2
  · exact G _ zc_g33_high (zc_na_ok s0 (by show (6 : Int) ≤ ρ 2; omega) b2.2)
  obtain ⟨d, hd⟩ : ∃ d : Nat, ρ 2 = (d : Int) := ⟨(ρ 2).toNat, by omega⟩
  have hd6 : d < 6 := by omega
  have s1 : zc_st ρ σ (zc_cd d) := zc_na_ok s0 (by show (d : Int) ≤ ρ 2; omega) (by show ρ 2 ≤ (d : Int); omega)
  rcases zc_rs_ok hd6 (zc_kd1 hd6) s1 hb hR with h | h | ⟨-, s, hs5, h⟩
  · exact G _ (zc_g33 d hd6 0 (by decide)) h
  · exact G _ (zc_g33 d hd6 1 (by decide)) h
  · exact G _ (zc_g33 d hd6 (s + 3) (by omega)) h
end
section
variable {LL : Nat} {xs : Nat → Int32} {ρ : Nat → Int} {L' : rf_L} {σ : rf_S} {u v : Nat} {post : rf_P}
theorem zc_turn32 (hLL : LL < 2 ^ 31) (ham : zb_am zb_tL 90 zb_LC 98 ρ L' [] σ) (hs : zb_hs LL xs 98 ρ) (hR : zb_RI ρ) (hC : zc_CS ρ σ) (hu : u ≤ 600000) (hv : v ≤ 7302250)
    (hnext : ∀ ρ1 L1 σ1, zb_am zb_tL 90 zb_LH 98 ρ1 L1 [] σ1 → zb_RI ρ1 → zc_CS ρ1 σ1 → ρ1 0 = ρ 0 → ρ1 7 = ρ 7 + 6 → zb_W (rf_SA LL xs) rf_ms (rf_run (rf_SA LL xs) rf_ms (900 + 8)) rf_law 18 L1 [] σ1 u v post) : zb_W (rf_SA LL xs) rf_ms (rf_run (rf_SA LL xs) rf_ms (900 + 8)) rf_law 986 L' [] σ u v post := by
  obtain ⟨a1, a2, a3, a4⟩ := ham
  have b2 := a1.2.1 2 (zb_lo32, zb_hi32) rfl
  have s0 : zc_st ρ σ zc_c0 := ⟨a1, a4⟩
  have hb := zc_bod a1
  have G : ∀ c, zc_gtst 986 c = true → zc_st ρ σ c → zb_W (rf_SA LL xs) rf_ms (rf_run (rf_SA LL xs) rf_ms (900 + 8)) rf_law 986 L' [] σ u v post := fun c h s => zc_turnG hLL h s.1 a2 s.2 hs hR hC hu hv hnext
  by_cases h1 : ρ 2 < 0
  · exact G _ zc_g32_low (zc_na_ok s0 b2.1 (by show ρ 2 ≤ (-1 : Int); omega))
  by_cases h2 : 5 < ρ 2
  · exact G _ zc_g32_high (zc_na_ok s0 (by show (6 : Int) ≤ ρ 2; omega) b2.2)
  obtain ⟨d, hd⟩ : ∃ d : Nat, ρ 2 = (d : Int) := ⟨(ρ 2).toNat, by omega⟩
  have hd6 : d < 6 := by omega
  have s1 : zc_st ρ σ (zc_cd d) := zc_na_ok s0 (by show (d : Int) ≤ ρ 2; omega) (by show ρ 2 ≤ (d : Int); omega)
  exact G _ (zc_g32 d hd6) s1
end
section
variable {LL : Nat} {xs : Nat → Int32} {ρ : Nat → Int} {L' : rf_L} {σ : rf_S} {u v : Nat} {post : rf_P}
theorem zc_turn2 (hLL : LL < 2 ^ 31) (ham : zb_am zb_tL 90 zb_LC 98 ρ L' [] σ) (hs : zb_hs LL xs 98 ρ) (hR : zb_RI ρ) (hC : zc_CS ρ σ) (hu : u ≤ 600000) (hv : v ≤ 7302250)
    (hnext : ∀ ρ1 L1 σ1, zb_am zb_tL 90 zb_LH 98 ρ1 L1 [] σ1 → zb_RI ρ1 → zc_CS ρ1 σ1 → ρ1 0 = ρ 0 → ρ1 7 = ρ 7 + 6 → zb_W (rf_SA LL xs) rf_ms (rf_run (rf_SA LL xs) rf_ms (900 + 8)) rf_law 18 L1 [] σ1 u v post) : zb_W (rf_SA LL xs) rf_ms (rf_run (rf_SA LL xs) rf_ms (900 + 8)) rf_law 256 L' [] σ u v post := by
  obtain ⟨a1, a2, a3, a4⟩ := ham
  have b2 := a1.2.1 2 (zb_lo32, zb_hi32) rfl
  have s0 : zc_st ρ σ zc_c0 := ⟨a1, a4⟩
  have hb := zc_bod a1
  have G : ∀ c, zc_gtst 256 c = true → zc_st ρ σ c → zb_W (rf_SA LL xs) rf_ms (rf_run (rf_SA LL xs) rf_ms (900 + 8)) rf_law 256 L' [] σ u v post := fun c h s => zc_turnG hLL h s.1 a2 s.2 hs hR hC hu hv hnext
  by_cases h1 : ρ 2 < 0
  · exact G _ zc_g2_low (zc_na_ok s0 b2.1 (by show ρ 2 ≤ (-1 : Int); omega))
  by_cases h2 : 5 < ρ 2
  · exact G _ zc_g2_high (zc_na_ok s0 (by show (6 : Int) ≤ ρ 2; omega) b2.2)
  obtain ⟨d, hd⟩ : ∃ d : Nat, ρ 2 = (d : Int) := ⟨(ρ 2).toNat, by omega⟩
  have hd6 : d < 6 := by omega
  have s1 : zc_st ρ σ (zc_cd d) := zc_na_ok s0 (by show (d : Int) ≤ ρ 2; omega) (by show ρ 2 ≤ (d : Int); omega)
  rcases zc_rs_ok hd6 (zc_kd1 hd6) s1 hb hR with h | h | ⟨-, s, hs5, h⟩
  · exact G _ (zc_g2 d hd6 0 (by decide)) h
  · exact G _ (zc_g2 d hd6 1 (by decide)) h
  · by_cases hs0 : s = 0
    · subst hs0
      have b4 := a1.2.1 4 (zb_lo32, zb_hi32) rfl
      by_cases h3 : ρ 4 < 1
      · exact G _ (zc_g2l d hd6) (zc_na_ok h b4.1 (by show ρ 4 ≤ (0 : Int); omega))
      by_cases h4 : 7 < ρ 4
      · exact G _ (zc_g2h d hd6) (zc_na_ok h (by show (8 : Int) ≤ ρ 4; omega) b4.2)
      have h5 := zc_na_ok (b := (1, 7)) h (by show (1 : Int) ≤ ρ 4; omega) (by show ρ 4 ≤ (7 : Int); omega)
      exact zc_turnP hLL (zc_g2c d hd6) h5.1 a2 h5.2 hs hR hC hu hv hnext
    · exact G _ (zc_g2 d hd6 (s + 3) (by omega)) h
end
section
variable {LL : Nat} {xs : Nat → Int32} {ρ : Nat → Int} {L' : rf_L} {σ : rf_S} {u v : Nat} {post : rf_P}
theorem zc_turn35 (hLL : LL < 2 ^ 31) (ham : zb_am zb_tL 90 zb_LC 98 ρ L' [] σ) (hs : zb_hs LL xs 98 ρ) (hR : zb_RI ρ) (hC : zc_CS ρ σ) (hu : u ≤ 600000) (hv : v ≤ 7302250)
    (hnext : ∀ ρ1 L1 σ1, zb_am zb_tL 90 zb_LH 98 ρ1 L1 [] σ1 → zb_RI ρ1 → zc_CS ρ1 σ1 → ρ1 0 = ρ 0 → ρ1 7 = ρ 7 + 6 → zb_W (rf_SA LL xs) rf_ms (rf_run (rf_SA LL xs) rf_ms (900 + 8)) rf_law 18 L1 [] σ1 u v post) : zb_W (rf_SA LL xs) rf_ms (rf_run (rf_SA LL xs) rf_ms (900 + 8)) rf_law 1135 L' [] σ u v post := by
  obtain ⟨a1, a2, a3, a4⟩ := ham
  have b2 := a1.2.1 2 (zb_lo32, zb_hi32) rfl
  have s0 : zc_st ρ σ zc_c0 := ⟨a1, a4⟩
  have hb := zc_bod a1
  have G : ∀ c, zc_gtst 1135 c = true → zc_st ρ σ c → zb_W (rf_SA LL xs) rf_ms (rf_run (rf_SA LL xs) rf_ms (900 + 8)) rf_law 1135 L' [] σ u v post := fun c h s => zc_turnG hLL h s.1 a2 s.2 hs hR hC hu hv hnext
  by_cases h1 : ρ 2 < 0
  · exact G _ zc_g35_low (zc_na_ok s0 b2.1 (by show ρ 2 ≤ (-1 : Int); omega))
  by_cases h2 : 5 < ρ 2
  · exact G _ zc_g35_high (zc_na_ok s0 (by show (6 : Int) ≤ ρ 2; omega) b2.2)
  obtain ⟨d, hd⟩ : ∃ d : Nat, ρ 2 = (d : Int) := ⟨(ρ 2).toNat, by omega⟩
  have hd6 : d < 6 := by omega
  have s1 : zc_st ρ σ (zc_cd d) := zc_na_ok s0 (by show (d : Int) ≤ ρ 2; omega) (by show ρ 2 ≤ (d : Int); omega)
  have b4 := a1.2.1 4 (zb_lo32, zb_hi32) rfl
  by_cases h3 : ρ 4 < 0
  · exact G _ (zc_g35l d hd6) (zc_na_ok s1 b4.1 (by show ρ 4 ≤ (-1 : Int); omega))
  by_cases h4 : 5 < ρ 4
  · exact G _ (zc_g35h d hd6) (zc_na_ok s1 (by show (6 : Int) ≤ ρ 4; omega) b4.2)
  obtain ⟨f, hf⟩ : ∃ f : Nat, ρ 4 = (f : Int) := ⟨(ρ 4).toNat, by omega⟩
  have hf6 : f < 6 := by omega
  rcases zc_rs_ok hd6 (zc_kd1 hd6) s1 hb hR with h | h | ⟨h, -⟩
  · exact G _ (zc_g35e d hd6) (zc_na_ok h (by show (0 : Int) ≤ ρ 4; omega) (by show ρ 4 ≤ (5 : Int); omega))
  · skip
    by_cases hdf : d = f
    · subst hdf
      exact G _ (zc_g35s d hd6 1 (by decide)) (zc_na_ok h (by show (d : Int) ≤ ρ 4; omega) (by show ρ 4 ≤ (d : Int); omega))
    · have h5 : zc_st ρ σ (zc_na 4 (Int.ofNat f, Int.ofNat f) (zc_rs d 1 (zc_cd d))) := zc_na_ok h (by show (f : Int) ≤ ρ 4; omega) (by show ρ 4 ≤ (f : Int); omega)
      rcases zc_rs_ok hf6 (show zc_kd (zc_na 4 (Int.ofNat f, Int.ofNat f) (zc_rs d 1 (zc_cd d))) f = true from (zc_kd2 hd6 hf6 hdf).1) h5 hb hR with h6 | h6 | ⟨h6, -⟩
      · exact G _ (zc_g35t d hd6 f hf6 hdf 1 (by decide) 0 (by decide)) h6
      · exact G _ (zc_g35t d hd6 f hf6 hdf 1 (by decide) 1 (by decide)) h6
      · exact G _ (zc_g35t d hd6 f hf6 hdf 1 (by decide) 2 (by decide)) h6
  · skip
    by_cases hdf : d = f
    · subst hdf
      exact G _ (zc_g35s d hd6 2 (by decide)) (zc_na_ok h (by show (d : Int) ≤ ρ 4; omega) (by show ρ 4 ≤ (d : Int); omega))
    · have h5 : zc_st ρ σ (zc_na 4 (Int.ofNat f, Int.ofNat f) (zc_rs d 2 (zc_cd d))) := zc_na_ok h (by show (f : Int) ≤ ρ 4; omega) (by show ρ 4 ≤ (f : Int); omega)
      rcases zc_rs_ok hf6 (show zc_kd (zc_na 4 (Int.ofNat f, Int.ofNat f) (zc_rs d 2 (zc_cd d))) f = true from (zc_kd2 hd6 hf6 hdf).2) h5 hb hR with h6 | h6 | ⟨h6, -⟩
      · exact G _ (zc_g35t d hd6 f hf6 hdf 2 (by decide) 0 (by decide)) h6
      · exact G _ (zc_g35t d hd6 f hf6 hdf 2 (by decide) 1 (by decide)) h6
      · exact G _ (zc_g35t d hd6 f hf6 hdf 2 (by decide) 2 (by decide)) h6
end
