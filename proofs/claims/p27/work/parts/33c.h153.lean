theorem zb_gD_line {j : Nat} (h : j < 7) : zb_gD[46 + j]? = some (.inr (0, ((46 + j : Nat) : Int), 0)) := by
  have : j = 0 ∨ j = 1 ∨ j = 2 ∨ j = 3 ∨ j = 4 ∨ j = 5 ∨ j = 6 := by omega
  rcases this with rfl | rfl | rfl | rfl | rfl | rfl | rfl <;> rfl
set_option maxRecDepth 100000 in
theorem zb_h153 {LL : Nat} {xs : Nat → Int32} (d : Nat) : zb_Sum zb_tT 90 (rf_SA LL xs) rf_ms zb_J0 153 zb_p153_0 d := by
  intro ρP As' σ post hd ham hlg hJ hpost
  have hdep : (zb_ev ρP zb_p153_0.2.2.2.1).toNat = 4 + 1 := by
    show (0 * ρP 0 + 5 : Int).toNat = 5
    rw [Int.zero_mul]
    rfl
  rw [hdep]
  obtain ⟨mi, hmi, hml⟩ := hlg
  have hm : rf_ms[153]? = some rf_m153 := rfl
  rw [hm] at hmi
  cases hmi
  obtain ⟨a1, a2, a3, a4⟩ := ham
  obtain ⟨w0, v1, v2⟩ := a2 0 (.inl (.ref 63)) rfl
  obtain ⟨w, w1, w2⟩ := a2 1 (.inr (0, .ofNat 66, .ofNat 0)) rfl
  have v2 : w0 = .ref 63 := v2
  subst v2
  obtain ⟨-, x, rfl, hx⟩ := w2
  have hx : x.toInt = ρP 66 + 0 := hx
  obtain ⟨o63, s1, s2⟩ := a4.2 63 zb_t63 rfl
  obtain ⟨o69, s3, s4⟩ := a4.2 69 zb_t69 rfl
  rcases o63 with o | ⟨ci, fs⟩
  · exact s2.elim
  obtain ⟨t1, -, t2⟩ := s2
  have t1 : 10 = ci := t1
  subst t1
  obtain ⟨f12, t3, t4⟩ := t2 12 (1, 0, .inl (.ref 69)) rfl
  have t4 : f12 = .ref 69 := t4
  subst t4
  obtain ⟨-, f, rfl, hf⟩ := s4
  have hfv : ∀ j, j < 7 → (f j).toInt = ρP (46 + j) := fun j hj => by
    obtain ⟨a, b1, b2⟩ := hf j hj
    have e := zb_gD_line hj
    have b1 : zb_gD[46 + j]? = some a := b1
    rw [e] at b1
    cases b1
    obtain ⟨-, y, hy, hz⟩ := b2
    cases hy
    rw [Int.toNat_natCast] at hz
    omega
  have c1 : ρP 66 ≤ ρP 23 + (-1) := (a1.2.2 (0, 66, 23, .negSucc 0) List.mem_cons_self).2.2
  have c2 : (0 : Int) ≤ ρP 66 := (a1.2.1 66 (.ofNat 0, .ofNat 6) rfl).1
  have c3 : ρP 23 ≤ (7 : Int) := (a1.2.1 23 (.ofNat 0, .ofNat 7) rfl).2
  have hJ : zb_Jv (ρP 23) (fun i => ρP (46 + i)) := (a1.2.2 (3, 23, 46, .ofNat 0) (List.mem_of_getElem? (i := 4) rfl)).2.2
  obtain ⟨p, p7, p1, p2⟩ := hJ (ρP 66) c2 (by omega)
  have p2 : ρP (46 + p) = ρP 66 := p2
  have hk : f p = x := Int32.toInt_inj.mp (by rw [hfv p p7]; omega)
  have hp : ∀ i : Nat, i ≤ p → post (some (.int (Int32.ofNat i))) σ := fun i hi => by
    have i7 : i < 7 := by omega
    have ei : (Int32.ofNat i).toInt = (i : Int) := by
      have : i = 0 ∨ i = 1 ∨ i = 2 ∨ i = 3 ∨ i = 4 ∨ i = 5 ∨ i = 6 := by omega
      rcases this with rfl | rfl | rfl | rfl | rfl | rfl | rfl <;> decide
    refine hpost zb_b153_0_0 List.mem_cons_self _ (zb_ru ρP 67 i) (some (.int (Int32.ofNat i))) σ (Nat.le_succ _) (zb_ru_ag (N := 67) _) ⟨?_, ⟨⟨?_, _, rfl, ?_⟩, trivial⟩, zb_ss_ext (Nat.le_succ 67) (zb_ru_ag _) a4⟩ (fun _ _ => rfl)
    · exact zb_en_app (b := (.ofNat 0, .ofNat 6)) (fs := []) a1 (Int.natCast_nonneg i) (by show (i : Int) ≤ 6; omega) (fun f hf => absurd hf List.not_mem_nil)
    · decide
    · rw [ei]
      show (i : Int) = zb_ru ρP 67 i 67 + 0
      rw [zb_ru_at]
      omega
  have hW : zb_W (rf_SA LL xs) rf_ms (rf_run (rf_SA LL xs) rf_ms 4) rf_m153 0 (lv_args 0 As') [] σ 0 0 post := by
    refine zb_W_step (pc' := 1) (L' := lv_args 0 As') (st' := [.int (Int32.ofInt 0)]) (σ' := σ) rfl (by decide) (by decide) (by decide) rfl ?_
    refine zb_W_step (pc' := 2) (L' := rf_set (lv_args 0 As') 2 (.int (Int32.ofInt 0))) (st' := []) (σ' := σ) rfl (by decide) (by decide) (by decide) rfl ?_
    refine zb_plc s1 t3 s3 p7 hk hp p 0 _ (Nat.zero_add _) (zb_rget_ne (by decide) v1 (fun q => by cases q)) (zb_rget_ne (by decide) w1 (fun q => by cases q)) (zb_rget_set _ _ _)
  obtain ⟨n, hn⟩ := hW
  exact ⟨rf_m153, hm, hml, n, hn⟩
