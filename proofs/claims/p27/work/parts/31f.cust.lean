/-! isCustomerSo (96): one way where it is so, one for each ground why not -/
noncomputable def zc_i1 (env : zb_N) (v : an_V) (lo hi : Int) : Option (List zb_N × Option zb_N) := match zb_pi env v with
  | none => none
  | some q => (match zb_asl env (none, lo, lo) q 0 with
    | none => some ((zb_ol true (zb_asl env q (none, lo, lo) (-1))).map (fun w => w.2), none)
    | some e1 => (match zb_pi e1 v with
      | none => none
      | some q1 => some ((zb_ol true (zb_asl env q (none, lo, lo) (-1))).map (fun w => w.2) ++ (zb_ol true (zb_asl e1 (none, hi, hi) q1 (-1))).map (fun w => w.2), zb_asl e1 q1 (none, hi, hi) 0)))
def zc_i0 (D : zb_D) (G : zc_G) (l : List zb_N) : zc_R := l.map fun e => ((e, some (.inr (1, 0, 0)), D), G)
noncomputable def zc_hI (env : zb_N) (As : List an_V) (D : zb_D) (G : zc_G) : Option zc_R := match As with
  | [c, h, w] => bif zb_isI c && (zb_isI h && zb_isI w) then zb_bnd (zc_i1 env c 0 99) fun r1 => (match r1.2 with
    | none => some (zc_i0 D G r1.1)
    | some e1 => zb_bnd (zc_i1 e1 h 1 2) fun r2 => (match r2.2 with
      | none => some (zc_i0 D G r1.1 ++ zc_i0 D G r2.1)
      | some e2 => zb_bnd (zc_i1 e2 w 0 4) fun r3 => (match r3.2 with
        | none => some (zc_i0 D G r1.1 ++ (zc_i0 D G r2.1 ++ zc_i0 D G r3.1))
        | some e3 => some ([((e3, some (.inr (1, 1, 1)), D), G)] ++ (zc_i0 D G r1.1 ++ (zc_i0 D G r2.1 ++ zc_i0 D G r3.1)))))) else none
  | _ => none
section
variable {N : Nat} {ρ : Nat → Int}
theorem zc_i1_ok {env : zb_N} {v : an_V} {lo hi : Int} {x : Int32} {r : List zb_N × Option zb_N} (hlh : lo ≤ hi) (he : zb_en N ρ env) (hv : zb_g N ρ v (.int x)) (h : zc_i1 env v lo hi = some r) : (¬ (lo ≤ x.toInt ∧ x.toInt ≤ hi) → ∃ e, e ∈ r.1 ∧ zb_en N ρ e) ∧ (lo ≤ x.toInt ∧ x.toInt ≤ hi → ∃ e, r.2 = some e ∧ zb_en N ρ e) := by
  unfold zc_i1 at h
  split at h
  case h_1 => cases h
  case h_2 q hq =>
  obtain ⟨x', hx', gx⟩ := zb_pi_ok he hq hv
  cases hx'
  have low : x.toInt < lo → ∃ e, zb_asl env q (none, lo, lo) (-1) = some e ∧ zb_en N ρ e := fun hx => zb_asl_ok (d := -1) he gx (zb_qk_const lo) (by omega)
  have mem : ∀ (o : Option zb_N) (e : zb_N), o = some e → e ∈ (zb_ol true o).map (fun w => w.2) := fun o e ho => List.mem_map.mpr ⟨(true, e), zb_ol_mem ho, rfl⟩
  split at h
  case h_1 hn =>
    cases h
    have hlt : x.toInt < lo := by
      rcases Int.lt_or_le x.toInt lo with h1 | h1
      · exact h1
      · obtain ⟨e, e1, -⟩ := zb_asl_ok (d := 0) he (zb_qk_const lo) gx (by omega)
        rw [hn] at e1
        cases e1
    obtain ⟨e, e1, e2⟩ := low hlt
    exact ⟨fun _ => ⟨e, mem _ e e1, e2⟩, fun h1 => by omega⟩
  case h_2 e1 hs =>
  split at h
  case h_1 => cases h
  case h_2 q1 hq1 =>
  cases h
  refine ⟨fun hn => ?_, fun h1 => ?_⟩
  · rcases Int.lt_or_le x.toInt lo with h1 | h1
    · obtain ⟨e, e2, e3⟩ := low h1
      exact ⟨e, List.mem_append.mpr (Or.inl (mem _ e e2)), e3⟩
    · obtain ⟨e', k1, k2⟩ := zb_asl_ok (d := 0) he (zb_qk_const lo) gx (by omega)
      rw [hs] at k1
      cases k1
      obtain ⟨x', hx', gx1⟩ := zb_pi_ok k2 hq1 hv
      cases hx'
      obtain ⟨e, e2, e3⟩ := zb_asl_ok (d := -1) k2 (zb_qk_const hi) gx1 (by omega)
      exact ⟨e, List.mem_append.mpr (Or.inr (mem _ e e2)), e3⟩
  · obtain ⟨e', k1, k2⟩ := zb_asl_ok (d := 0) he (zb_qk_const lo) gx (by omega)
    rw [hs] at k1
    cases k1
    obtain ⟨x', hx', gx1⟩ := zb_pi_ok k2 hq1 hv
    cases hx'
    exact zb_asl_ok (d := 0) k2 gx1 (zb_qk_const hi) (by omega)
theorem zc_ics {SA : rf_A} {C : zb_K} {post : rf_P} {σ : rf_S} {xc xh xw : Int32} (h1 : (0 ≤ xc.toInt ∧ xc.toInt ≤ 99) ∧ (1 ≤ xh.toInt ∧ xh.toInt ≤ 2) ∧ (0 ≤ xw.toInt ∧ xw.toInt ≤ 4) → post (some (.int 1)) σ) (h0 : ¬ ((0 ≤ xc.toInt ∧ xc.toInt ≤ 99) ∧ (1 ≤ xh.toInt ∧ xh.toInt ≤ 2) ∧ (0 ≤ xw.toInt ∧ xw.toInt ≤ 4)) → post (some (.int 0)) σ) : zb_W SA rf_ms C rf_m96 0 (lv_args 0 [.int xc, .int xh, .int xw]) [] σ 0 0 post := by
  have lt : ∀ a b : Int32, a.toInt < b.toInt → a < b := fun a b h => Int32.lt_iff_toInt_lt.mpr h
  have nlt : ∀ a b : Int32, ¬ a.toInt < b.toInt → ¬ a < b := fun a b h q => h (Int32.lt_iff_toInt_lt.mp q)
  have c0 : (0 : Int32).toInt = 0 := by decide
  have c99 : (Int32.ofInt 99).toInt = 99 := by decide
  have c1 : (Int32.ofInt 1).toInt = 1 := by decide
  have c2 : (Int32.ofInt 2).toInt = 2 := by decide
  have c4 : (Int32.ofInt 4).toInt = 4 := by decide
  have f33 : ¬ ((0 ≤ xc.toInt ∧ xc.toInt ≤ 99) ∧ (1 ≤ xh.toInt ∧ xh.toInt ≤ 2) ∧ (0 ≤ xw.toInt ∧ xw.toInt ≤ 4)) → zb_W SA rf_ms C rf_m96 33 (lv_args 0 [.int xc, .int xh, .int xw]) [] σ 0 0 post := fun hn => by
    refine zb_W_step (pc' := 34) (L' := lv_args 0 [.int xc, .int xh, .int xw]) (st' := [.int (Int32.ofInt 0)]) (σ' := σ) rfl (by decide) (by decide) (by decide) rfl ?_
    exact zb_W_ret rfl (by decide) (by decide) (by decide) (Nat.zero_le _) (Nat.zero_le _) ⟨zb_narrow (Or.inl rfl), h0 hn⟩
  have s20 : (0 ≤ xc.toInt ∧ xc.toInt ≤ 99) → (1 ≤ xh.toInt ∧ xh.toInt ≤ 2) → zb_W SA rf_ms C rf_m96 20 (lv_args 0 [.int xc, .int xh, .int xw]) [] σ 0 0 post := fun g1 g2 => by
    refine zb_W_step (pc' := 21) (L' := lv_args 0 [.int xc, .int xh, .int xw]) (st' := [.int xw]) (σ' := σ) rfl (by decide) (by decide) (by decide) rfl ?_
    by_cases h : xw.toInt < 0
    · refine zb_W_step (pc' := 33) (L' := lv_args 0 [.int xc, .int xh, .int xw]) (st' := []) (σ' := σ) rfl (by decide) (by decide) (by decide) (by simp only [rf_stp, rf_cmp, lt xw 0 (by omega), decide_true, cond_true]) ?_
      exact f33 (by omega)
    refine zb_W_step (pc' := 24) (L' := lv_args 0 [.int xc, .int xh, .int xw]) (st' := []) (σ' := σ) rfl (by decide) (by decide) (by decide) (by simp only [rf_stp, rf_cmp, nlt xw 0 (by omega), decide_false, cond_false]) ?_
    refine zb_W_step (pc' := 25) (L' := lv_args 0 [.int xc, .int xh, .int xw]) (st' := [.int xw]) (σ' := σ) rfl (by decide) (by decide) (by decide) rfl ?_
    refine zb_W_step (pc' := 26) (L' := lv_args 0 [.int xc, .int xh, .int xw]) (st' := [.int (Int32.ofInt 4), .int xw]) (σ' := σ) rfl (by decide) (by decide) (by decide) rfl ?_
    by_cases h : 4 < xw.toInt
    · refine zb_W_step (pc' := 33) (L' := lv_args 0 [.int xc, .int xh, .int xw]) (st' := []) (σ' := σ) rfl (by decide) (by decide) (by decide) (by simp only [rf_stp, rf_cmp, lt (Int32.ofInt 4) xw (by omega), decide_true, cond_true]) ?_
      exact f33 (by omega)
    refine zb_W_step (pc' := 29) (L' := lv_args 0 [.int xc, .int xh, .int xw]) (st' := []) (σ' := σ) rfl (by decide) (by decide) (by decide) (by simp only [rf_stp, rf_cmp, nlt (Int32.ofInt 4) xw (by omega), decide_false, cond_false]) ?_
    refine zb_W_step (pc' := 30) (L' := lv_args 0 [.int xc, .int xh, .int xw]) (st' := [.int (Int32.ofInt 1)]) (σ' := σ) rfl (by decide) (by decide) (by decide) rfl ?_
    refine zb_W_step (pc' := 34) (L' := lv_args 0 [.int xc, .int xh, .int xw]) (st' := [.int (Int32.ofInt 1)]) (σ' := σ) rfl (by decide) (by decide) (by decide) rfl ?_
    exact zb_W_ret rfl (by decide) (by decide) (by decide) (Nat.zero_le _) (Nat.zero_le _) ⟨zb_narrow (Or.inr rfl), h1 ⟨g1, g2, by omega⟩⟩
  refine zb_W_step (pc' := 1) (L' := lv_args 0 [.int xc, .int xh, .int xw]) (st' := [.int xc]) (σ' := σ) rfl (by decide) (by decide) (by decide) rfl ?_
  by_cases h : xc.toInt < 0
  · refine zb_W_step (pc' := 33) (L' := lv_args 0 [.int xc, .int xh, .int xw]) (st' := []) (σ' := σ) rfl (by decide) (by decide) (by decide) (by simp only [rf_stp, rf_cmp, lt xc 0 (by omega), decide_true, cond_true]) ?_
    exact f33 (by omega)
  refine zb_W_step (pc' := 4) (L' := lv_args 0 [.int xc, .int xh, .int xw]) (st' := []) (σ' := σ) rfl (by decide) (by decide) (by decide) (by simp only [rf_stp, rf_cmp, nlt xc 0 (by omega), decide_false, cond_false]) ?_
  refine zb_W_step (pc' := 5) (L' := lv_args 0 [.int xc, .int xh, .int xw]) (st' := [.int xc]) (σ' := σ) rfl (by decide) (by decide) (by decide) rfl ?_
  refine zb_W_step (pc' := 7) (L' := lv_args 0 [.int xc, .int xh, .int xw]) (st' := [.int (Int32.ofInt 99), .int xc]) (σ' := σ) rfl (by decide) (by decide) (by decide) rfl ?_
  by_cases h2 : 99 < xc.toInt
  · refine zb_W_step (pc' := 33) (L' := lv_args 0 [.int xc, .int xh, .int xw]) (st' := []) (σ' := σ) rfl (by decide) (by decide) (by decide) (by simp only [rf_stp, rf_cmp, lt (Int32.ofInt 99) xc (by omega), decide_true, cond_true]) ?_
    exact f33 (by omega)
  refine zb_W_step (pc' := 10) (L' := lv_args 0 [.int xc, .int xh, .int xw]) (st' := []) (σ' := σ) rfl (by decide) (by decide) (by decide) (by simp only [rf_stp, rf_cmp, nlt (Int32.ofInt 99) xc (by omega), decide_false, cond_false]) ?_
  refine zb_W_step (pc' := 11) (L' := lv_args 0 [.int xc, .int xh, .int xw]) (st' := [.int xh]) (σ' := σ) rfl (by decide) (by decide) (by decide) rfl ?_
  refine zb_W_step (pc' := 12) (L' := lv_args 0 [.int xc, .int xh, .int xw]) (st' := [.int (Int32.ofInt 1), .int xh]) (σ' := σ) rfl (by decide) (by decide) (by decide) rfl ?_
  by_cases h3 : xh.toInt = 1
  · have e : xh = Int32.ofInt 1 := Int32.toInt_inj.mp (by omega)
    refine zb_W_step (pc' := 20) (L' := lv_args 0 [.int xc, .int xh, .int xw]) (st' := []) (σ' := σ) rfl (by decide) (by decide) (by decide) (by simp only [rf_stp, rf_cmp, e, decide_true, cond_true]) ?_
    exact s20 (by omega) (by omega)
  have ne1 : ¬ xh = Int32.ofInt 1 := fun q => h3 (by rw [q, c1])
  refine zb_W_step (pc' := 15) (L' := lv_args 0 [.int xc, .int xh, .int xw]) (st' := []) (σ' := σ) rfl (by decide) (by decide) (by decide) (by simp only [rf_stp, rf_cmp, ne1, decide_false, cond_false]) ?_
  refine zb_W_step (pc' := 16) (L' := lv_args 0 [.int xc, .int xh, .int xw]) (st' := [.int xh]) (σ' := σ) rfl (by decide) (by decide) (by decide) rfl ?_
  refine zb_W_step (pc' := 17) (L' := lv_args 0 [.int xc, .int xh, .int xw]) (st' := [.int (Int32.ofInt 2), .int xh]) (σ' := σ) rfl (by decide) (by decide) (by decide) rfl ?_
  by_cases h4 : xh.toInt = 2
  · have e : xh = Int32.ofInt 2 := Int32.toInt_inj.mp (by omega)
    refine zb_W_step (pc' := 20) (L' := lv_args 0 [.int xc, .int xh, .int xw]) (st' := []) (σ' := σ) rfl (by decide) (by decide) (by decide) (by simp only [rf_stp, rf_cmp, e, decide_true, Bool.not_true, cond_false]) ?_
    exact s20 (by omega) (by omega)
  have ne2 : ¬ xh = Int32.ofInt 2 := fun q => h4 (by rw [q, c2])
  refine zb_W_step (pc' := 33) (L' := lv_args 0 [.int xc, .int xh, .int xw]) (st' := []) (σ' := σ) rfl (by decide) (by decide) (by decide) (by simp only [rf_stp, rf_cmp, ne2, decide_false, Bool.not_false, cond_true]) ?_
  exact f33 (by omega)
end
section
variable {T : zb_T} {len : Nat} {wr : Nat → Bool} {LL : Nat} {xs : Nat → Int32} {n0 : Nat} {ρ0 : Nat → Int} {σ0 : rf_S} {f0 g0 : Nat → Int}
theorem zc_hI_ok {d1 : Nat} : ∀ (env : zb_N) (As : List an_V) (D : zb_D) (G : zc_G) (rs : zc_R) (As' : List Value) (σ : rf_S) (post : rf_P) (N : Nat) (ρ : Nat → Int), zc_hI env As D G = some rs → zb_en N ρ env → zb_gl N ρ As As' → zb_ss T len D N ρ σ → zb_H (zc_wf wr) n0 ρ0 σ0 N ρ σ → zc_GR N ρ f0 g0 G σ →
    (∀ r, r ∈ rs → ∀ M ρ', N ≤ M → zb_ag N ρ ρ' → zb_en M ρ' r.1.1 → ∀ (rv : Option Value) (σ1 : rf_S), zb_gl M ρ' r.1.2.1.toList rv.toList → zb_ss T len r.1.2.2 M ρ' σ1 → (∀ q, zc_wf wr q = false → σ1[q]? = σ[q]?) → zc_GR M ρ' f0 g0 r.2 σ1 → post rv σ1) → rf_run (rf_SA LL xs) rf_ms (d1 + 1) 96 As' σ post := by
  intro env As D G rs As' σ post N ρ h he hA hσ hH hG hpost
  unfold zc_hI at h
  split at h
  case h_2 => cases h
  case h_1 c hh w =>
  obtain ⟨hc, h⟩ := zb_cond h
  have i1 := an_and hc
  have i2 := an_and i1.2
  obtain ⟨r1, e1, h⟩ := zb_bnd_some h
  obtain ⟨v0, l0, rfl, a0, b0⟩ := zb_gl_cons hA
  obtain ⟨v1, l1, rfl, a1, b1⟩ := zb_gl_cons b0
  obtain ⟨v2, l2, rfl, a2, b2⟩ := zb_gl_cons b1
  have hl := zb_gl_nil b2
  subst hl
  obtain ⟨xc, rfl⟩ := zb_g_I a0 i1.1
  obtain ⟨xh, rfl⟩ := zb_g_I a1 i2.1
  obtain ⟨xw, rfl⟩ := zb_g_I a2 i2.2
  have k1 := zc_i1_ok (by decide) he a0 e1
  have bad : ∀ (l : List zb_N), (∀ q, q ∈ zc_i0 D G l → q ∈ rs) → (∃ e, e ∈ l ∧ zb_en N ρ e) → post (some (.int 0)) σ := fun l hl ⟨e, m1, m2⟩ => hpost ((e, some (.inr (1, 0, 0)), D), G) (hl _ (List.mem_map.mpr ⟨e, m1, rfl⟩)) N ρ (Nat.le_refl _) (zb_ag_refl _ _) m2 (some (.int 0)) σ ⟨⟨0, rfl, by decide, by decide⟩, trivial⟩ hσ (fun _ _ => rfl) hG
  suffices hW : ((0 ≤ xc.toInt ∧ xc.toInt ≤ 99) ∧ (1 ≤ xh.toInt ∧ xh.toInt ≤ 2) ∧ (0 ≤ xw.toInt ∧ xw.toInt ≤ 4) → post (some (.int 1)) σ) ∧ (¬ ((0 ≤ xc.toInt ∧ xc.toInt ≤ 99) ∧ (1 ≤ xh.toInt ∧ xh.toInt ≤ 2) ∧ (0 ≤ xw.toInt ∧ xw.toInt ≤ 4)) → post (some (.int 0)) σ) by
    obtain ⟨n, hn⟩ := zc_ics (SA := rf_SA LL xs) (C := rf_run (rf_SA LL xs) rf_ms d1) (post := post) (σ := σ) hW.1 hW.2
    exact ⟨rf_m96, rfl, (by show (3 : Nat) ≤ 3; decide), n, hn⟩
  by_cases hA1 : 0 ≤ xc.toInt ∧ xc.toInt ≤ 99
  case neg =>
    refine ⟨fun q => absurd q.1 hA1, fun _ => bad r1.1 (fun q hq => ?_) (k1.1 hA1)⟩
    split at h
    case h_1 => cases h; exact hq
    case h_2 e2 he2 =>
    obtain ⟨r2, e3, h⟩ := zb_bnd_some h
    split at h
    case h_1 => cases h; exact List.mem_append.mpr (Or.inl hq)
    case h_2 e4 he4 =>
    obtain ⟨r3, e5, h⟩ := zb_bnd_some h
    split at h
    case h_1 => cases h; exact List.mem_append.mpr (Or.inl hq)
    case h_2 => cases h; exact List.mem_append.mpr (Or.inr (List.mem_append.mpr (Or.inl hq)))
  case pos =>
  obtain ⟨ea, ea1, ea2⟩ := k1.2 hA1
  rw [ea1] at h
  obtain ⟨r2, e3, h⟩ := zb_bnd_some h
  have k2 := zc_i1_ok (by decide) ea2 a1 e3
  by_cases hB1 : 1 ≤ xh.toInt ∧ xh.toInt ≤ 2
  case neg =>
    refine ⟨fun q => absurd q.2.1 hB1, fun _ => bad r2.1 (fun q hq => ?_) (k2.1 hB1)⟩
    split at h
    case h_1 => cases h; exact List.mem_append.mpr (Or.inr hq)
    case h_2 e4 he4 =>
    obtain ⟨r3, e5, h⟩ := zb_bnd_some h
    split at h
    case h_1 => cases h; exact List.mem_append.mpr (Or.inr (List.mem_append.mpr (Or.inl hq)))
    case h_2 => cases h; exact List.mem_append.mpr (Or.inr (List.mem_append.mpr (Or.inr (List.mem_append.mpr (Or.inl hq)))))
  case pos =>
  obtain ⟨eb, eb1, eb2⟩ := k2.2 hB1
  rw [eb1] at h
  obtain ⟨r3, e5, h⟩ := zb_bnd_some h
  have k3 := zc_i1_ok (by decide) eb2 a2 e5
  by_cases hC1 : 0 ≤ xw.toInt ∧ xw.toInt ≤ 4
  case neg =>
    refine ⟨fun q => absurd q.2.2 hC1, fun _ => bad r3.1 (fun q hq => ?_) (k3.1 hC1)⟩
    split at h
    case h_1 => cases h; exact List.mem_append.mpr (Or.inr (List.mem_append.mpr (Or.inr hq)))
    case h_2 => cases h; exact List.mem_append.mpr (Or.inr (List.mem_append.mpr (Or.inr (List.mem_append.mpr (Or.inr hq)))))
  case pos =>
  obtain ⟨ec, ec1, ec2⟩ := k3.2 hC1
  rw [ec1] at h
  cases h
  exact ⟨fun _ => hpost ((ec, some (.inr (1, 1, 1)), D), G) (List.mem_append.mpr (Or.inl List.mem_cons_self)) N ρ (Nat.le_refl _) (zb_ag_refl _ _) ec2 (some (.int 1)) σ ⟨⟨1, rfl, by decide, by decide⟩, trivial⟩ hσ (fun _ _ => rfl) hG, fun q => absurd ⟨hA1, hB1, hC1⟩ q⟩
end
