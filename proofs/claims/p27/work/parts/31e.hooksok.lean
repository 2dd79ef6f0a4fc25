/-! what is known of holdRow and of the reference's shift, by hand -/
theorem zc_ss_ex {T : zb_T} {len N : Nat} {ρ : Nat → Int} {D : zb_D} {σ σ' : rf_S} (p : Nat → Prop) (hσ : zb_ss T len D N ρ σ) (hl : σ'.length = σ.length) (h1 : ∀ q, ¬ p q → σ'[q]? = σ[q]?) (h2 : ∀ q, p q → ∃ n f, T q = some (.inl (1, n, zb_topL)) ∧ σ'[q]? = some (.inl (1, n, .inr (.inl f)))) : zb_ss T len D N ρ σ' := by
  refine ⟨by rw [hl]; exact hσ.1, fun r t ht => ?_⟩
  rcases Classical.em (p r) with hp | hp
  · obtain ⟨n, f, e1, e2⟩ := h2 r hp
    rw [e1] at ht
    cases ht
    exact ⟨_, e2, rfl, rfl, rfl, fun j hj => zb_topL_ok _⟩
  · obtain ⟨o, o1, o2⟩ := hσ.2 r t ht
    exact ⟨o, by rw [h1 r hp]; exact o1, o2⟩
theorem zc_cells {T : zb_T} {len N : Nat} {ρ : Nat → Int} {D : zb_D} {σ : rf_S} {r m b : Nat} (h : zb_ss T len D N ρ σ) (ht : T r = some (.inl (0, m, .inr (9, ((b : Nat) : Int), 0)))) : ∃ f, σ[r]? = some (.inl (0, m, .inl f)) ∧ ∀ j, j < m → ∃ a, D[b + j]? = some a ∧ zb_g N ρ a (.int (f j)) := by
  obtain ⟨o, o1, o2⟩ := h.2 _ _ ht
  have o2 : zb_rw D N ρ 0 m (.inr (9, ((b : Nat) : Int), 0)) o := o2
  unfold zb_rw at o2
  obtain ⟨-, f, rfl, o3⟩ := o2
  refine ⟨f, o1, fun j hj => ?_⟩
  obtain ⟨a, a1, a2⟩ := o3 j hj
  rw [Int.toNat_natCast] at a1
  exact ⟨a, a1, a2⟩
noncomputable def zc_hH (so sz : Nat) (env : zb_N) (As : List an_V) (D : zb_D) (G : zc_G) : Option zc_R := match As with
  | [.inl (.ref r0), vd, vs, .inr (0, kn, .ofNat 0)] => (match zb_pi env vd, zb_pi env vs, zb_pi env (.inr (0, kn, .ofNat 0)) with
    | some qd, some qs, some qn => bif Nat.beq r0 57 && (zb_sing qd && (zb_le 0 qd.2.1 && (zb_le qd.2.1 5 && (zb_isI vs && (zb_le 0 qn.2.1 && (zb_le qn.2.2 60 && G.2.1.isEmpty)))))) then
        some [((env, none, zb_upd (zb_upd D (so + qd.2.1.toNat) vs) (sz + qd.2.1.toNat) (.inr (0, kn, .ofNat 0))), (G.1, [(2, kn.toNat, ((60 * qd.2.1.toNat : Nat) : Int), zb_topL)], G.2.2))] else none
    | _, _, _ => none)
  | _ => none
noncomputable def zc_kc (L : zb_L) (env : zb_N) (i : Nat) : Option Nat := match zb_get L i with
  | some v => (match zb_pi env v with
    | some q => bif zb_sing q && (zb_le 0 q.2.1 && zb_le q.2.1 5) then some q.2.1.toNat else none
    | none => none)
  | none => none
noncomputable def zc_kn (L : zb_L) (i k : Nat) : Bool := match zb_get L i with
  | some v => zc_nm v k 0
  | none => false
noncomputable def zc_k0 (L : zb_L) (i r : Nat) : Bool := match zb_get L i with
  | some (.inl (.ref r0)) => Nat.beq r0 r
  | _ => false
noncomputable def zc_hM2 (e : Bool × zc_C) : Option zc_R := bif e.1 then some [((e.2.1.1, e.2.1.2.2.2.1.head?, e.2.1.2.2.2.2), e.2.2)] else (match zc_kc e.2.1.2.2.1 e.2.1.1 1, zc_kc e.2.1.2.2.1 e.2.1.1 3, zc_kc e.2.1.2.2.1 e.2.1.1 6 with
  | some d, some dd, some k => bif Nat.beq k 0 && (e.2.1.2.2.2.1.isEmpty && (zc_k0 e.2.1.2.2.1 0 63 && (zc_kn e.2.1.2.2.1 2 3 && (zc_kn e.2.1.2.2.1 4 5 && (zc_kn e.2.1.2.2.1 5 6 && (zc_lo0 e.2.1.1 3 && (zc_lo0 e.2.1.1 5 && (zc_lo0 e.2.1.1 6 && (zc_hi60 e.2.1.1 (80 + d) && (zc_hi60 e.2.1.1 (80 + dd) && (zc_ls e.2.1.1 3 6 (80 + d) && zc_ls e.2.1.1 5 6 (80 + dd)))))))))))) then
      some [((e.2.1.1, some (.inr (0, 6, 0)), e.2.1.2.2.2.2), (e.2.2.1, e.2.2.2.1, (3, 60 * d, ((60 * dd : Nat) : Int), zb_topL) :: e.2.2.2.2))] else none
  | _, _, _ => none)
noncomputable def zc_hM (T : zb_T) (wr : Nat → Bool) (sl : Bool × List Nat) (ms : List rf_M) (K : zc_Kt) (F : Nat) (env : zb_N) (As : List an_V) (D : zb_D) (G : zc_G) : Option zc_R := match zb_nth ms 225 with
  | none => none
  | some mi => bif Nat.ble (an_lgs As) mi.1.2.2.1 then zb_bnd (zc_body T wr sl ms K mi (fun pc => Nat.beq pc 113) F true ((env, 0, zb_arg As ++ List.replicate mi.1.2.2.1 none, [], D), G)) fun cs => an_all zc_hM2 cs else none
section
variable {T : zb_T} {len : Nat} {wr : Nat → Bool} {sl : Bool × List Nat} {LL : Nat} {xs : Nat → Int32} {loc : Nat → Nat × Nat} {n0 : Nat} {ρ0 : Nat → Int} {σ0 : rf_S} {K : zc_Kt} {f0 g0 : Nat → Int}
theorem zc_hH_ok {so sz d1 : Nat} {ds : List zb_G} (hloc : zb_loc T loc) (hT : zc_T T) (h57 : T 57 = some (.inr (6, ds))) (k0 : ds[0]? = some (1, 0, .inl (.ref 58))) (k2 : ds[2]? = some (1, 0, .inl (.ref 60))) (k3 : ds[3]? = some (1, 0, .inl (.ref 61))) (h58 : T 58 = some (.inl (0, 6, .inr (9, ((so : Nat) : Int), 0)))) (h60 : T 60 = some (.inl (0, 6, .inr (9, ((sz : Nat) : Int), 0)))) (w58 : wr 58 = true) (w60 : wr 60 = true) (hs : 7 ≤ n0) :
    ∀ (env : zb_N) (As : List an_V) (D : zb_D) (G : zc_G) (rs : zc_R) (As' : List Value) (σ : rf_S) (post : rf_P) (N : Nat) (ρ : Nat → Int), zc_hH so sz env As D G = some rs → zb_en N ρ env → zb_gl N ρ As As' → zb_ss T len D N ρ σ → zb_H (zc_wf wr) n0 ρ0 σ0 N ρ σ → zc_GR N ρ f0 g0 G σ →
    (∀ r, r ∈ rs → ∀ M ρ', N ≤ M → zb_ag N ρ ρ' → zb_en M ρ' r.1.1 → ∀ (rv : Option Value) (σ1 : rf_S), zb_gl M ρ' r.1.2.1.toList rv.toList → zb_ss T len r.1.2.2 M ρ' σ1 → (∀ q, zc_wf wr q = false → σ1[q]? = σ[q]?) → zc_GR M ρ' f0 g0 r.2 σ1 → post rv σ1) → rf_run (rf_SA LL xs) rf_ms (d1 + 1) 57 As' σ post := by
  intro env As D G rs As' σ post N ρ h he hA hσ hH hG hpost
  unfold zc_hH at h
  split at h
  case h_2 => cases h
  case h_1 r0 vd vs kn =>
  split at h
  case h_2 => cases h
  case h_1 qd qs qn e1 e2 e3 =>
  obtain ⟨hc, h⟩ := zb_cond h
  cases h
  have c1 := an_and hc
  have c2 := an_and c1.2
  have c3 := an_and c2.2
  have c4 := an_and c3.2
  have c5 := an_and c4.2
  have c6 := an_and c5.2
  have c7 := an_and c6.2
  have er : r0 = 57 := Nat.eq_of_beq_eq_true c1.1
  subst er
  obtain ⟨v0, l0, rfl, a0, b0⟩ := zb_gl_cons hA
  obtain ⟨v1, l1, rfl, a1, b1⟩ := zb_gl_cons b0
  obtain ⟨v2, l2, rfl, a2, b2⟩ := zb_gl_cons b1
  obtain ⟨v3, l3, rfl, a3, b3⟩ := zb_gl_cons b2
  have hl3 := zb_gl_nil b3
  subst hl3
  have a0 : v0 = .ref 57 := a0
  subst a0
  obtain ⟨xd, rfl, gd⟩ := zb_pi_ok he e1 a1
  obtain ⟨xs', rfl⟩ := zb_g_I a2 c5.1
  obtain ⟨xn, rfl, gn⟩ := zb_pi_ok he e3 a3
  have sd := zb_sing_ok c2.1 gd
  have d0 := zb_le_of c3.1
  have d5 := zb_le_of c4.1
  have n0' := zb_le_of c6.1
  have n60 := zb_le_of c7.1
  have gn1 := gn.1
  have gn2 := gn.2.1
  obtain ⟨kn1, xn', hxn, kn2⟩ := zc_nmI a3
  cases hxn
  obtain ⟨d, hd⟩ : ∃ d : Nat, qd.2.1 = (d : Int) := ⟨qd.2.1.toNat, by omega⟩
  obtain ⟨n, hn⟩ : ∃ n : Nat, xn.toInt = (n : Int) := ⟨xn.toInt.toNat, by omega⟩
  have hd6 : d < 6 := by omega
  have hxd : xd.toInt = (d : Int) := by omega
  have edn : qd.2.1.toNat = d := by omega
  obtain ⟨fs, f1, f2⟩ := zc_fref hσ h57
  obtain ⟨fa, p1, p2⟩ := zc_cells hσ h58
  obtain ⟨fb, p3, p4⟩ := zc_cells hσ h60
  obtain ⟨x1, x2⟩ := zc_ixs (i := xd) (n := 6) (by omega) (by omega)
  have exd : xd.toNatClampNeg = d := by omega
  have l58 : 58 < σ.length := (List.getElem?_eq_some_iff.mp p1).1
  have ss1 : zb_ss T len (D.set (so + d) vs) N ρ (σ.set 58 (.inl (0, 6, .inl (upd fa d xs')))) := by
    have g := zb_ss_cell (y := xs') (v := vs) (j := d) hloc hσ h58 p1 (fun j hj => by rw [Int.toNat_natCast]; exact p2 j hj) hd6 a2
    rw [Int.toNat_natCast] at g
    exact g
  obtain ⟨fb', p5, p6⟩ := zc_cells ss1 h60
  have ss2 : zb_ss T len ((D.set (so + d) vs).set (sz + d) (.inr (0, kn, .ofNat 0))) N ρ ((σ.set 58 (.inl (0, 6, .inl (upd fa d xs')))).set 60 (.inl (0, 6, .inl (upd fb' d xn)))) := by
    have g := zb_ss_cell (y := xn) (v := .inr (0, kn, .ofNat 0)) (j := d) hloc ss1 h60 p5 (fun j hj => by rw [Int.toNat_natCast]; exact p6 j hj) hd6 a3
    rw [Int.toNat_natCast] at g
    exact g
  obtain ⟨f, q1, q2⟩ := hG.2.2.2.1
  have eU : G.2.1 = [] := List.isEmpty_iff.mp c7.2
  have hW : zb_W (rf_SA LL xs) rf_ms (rf_run (rf_SA LL xs) rf_ms d1) rf_m57 0 (lv_args 0 [.ref 57, .int xd, .int xs', .int xn]) [] σ 0 0 post := by
    refine zb_W_step (pc' := 1) (L' := lv_args 0 [.ref 57, .int xd, .int xs', .int xn]) (st' := [.ref 57]) (σ' := σ) rfl (by decide) (by decide) (by decide) rfl ?_
    refine zb_W_step (pc' := 4) (L' := lv_args 0 [.ref 57, .int xd, .int xs', .int xn]) (st' := [.ref 58]) (σ' := σ) rfl (by decide) (by decide) (by decide) (by simp only [rf_stp, f1, Nat.beq_refl, cond_true, f2 0 58 k0]) ?_
    refine zb_W_step (pc' := 5) (L' := lv_args 0 [.ref 57, .int xd, .int xs', .int xn]) (st' := [.int xd, .ref 58]) (σ' := σ) rfl (by decide) (by decide) (by decide) rfl ?_
    refine zb_W_step (pc' := 6) (L' := lv_args 0 [.ref 57, .int xd, .int xs', .int xn]) (st' := [.int xs', .int xd, .ref 58]) (σ' := σ) rfl (by decide) (by decide) (by decide) rfl ?_
    refine zb_W_step (pc' := 7) (L' := lv_args 0 [.ref 57, .int xd, .int xs', .int xn]) (st' := []) (σ' := σ.set 58 (.inl (0, 6, .inl (upd fa d xs')))) rfl (by decide) (by decide) (by decide) (by simp only [rf_stp, p1, x1, cond_true, exd]) ?_
    have f3 : (σ.set 58 (.inl (0, 6, .inl (upd fa d xs'))))[57]? = some (.inr (6, fs)) := by rw [List.getElem?_set, if_neg (by decide)]; exact f1
    refine zb_W_step (pc' := 8) (L' := lv_args 0 [.ref 57, .int xd, .int xs', .int xn]) (st' := [.ref 57]) (σ' := σ.set 58 (.inl (0, 6, .inl (upd fa d xs')))) rfl (by decide) (by decide) (by decide) rfl ?_
    refine zb_W_step (pc' := 11) (L' := lv_args 0 [.ref 57, .int xd, .int xs', .int xn]) (st' := [.ref 60]) (σ' := σ.set 58 (.inl (0, 6, .inl (upd fa d xs')))) rfl (by decide) (by decide) (by decide) (by simp only [rf_stp, f3, Nat.beq_refl, cond_true, f2 2 60 k2]) ?_
    refine zb_W_step (pc' := 12) (L' := lv_args 0 [.ref 57, .int xd, .int xs', .int xn]) (st' := [.int xd, .ref 60]) (σ' := σ.set 58 (.inl (0, 6, .inl (upd fa d xs')))) rfl (by decide) (by decide) (by decide) rfl ?_
    refine zb_W_step (pc' := 13) (L' := lv_args 0 [.ref 57, .int xd, .int xs', .int xn]) (st' := [.int xn, .int xd, .ref 60]) (σ' := σ.set 58 (.inl (0, 6, .inl (upd fa d xs')))) rfl (by decide) (by decide) (by decide) rfl ?_
    refine zb_W_step (pc' := 14) (L' := lv_args 0 [.ref 57, .int xd, .int xs', .int xn]) (st' := []) (σ' := (σ.set 58 (.inl (0, 6, .inl (upd fa d xs')))).set 60 (.inl (0, 6, .inl (upd fb' d xn)))) rfl (by decide) (by decide) (by decide) (by simp only [rf_stp, p5, x1, cond_true, exd]) ?_
    refine zb_W_step (pc' := 15) (L' := lv_args 0 [.ref 57, .int xd, .int xs', .int xn]) (st' := [.int (Int32.ofInt 0)]) (σ' := (σ.set 58 (.inl (0, 6, .inl (upd fa d xs')))).set 60 (.inl (0, 6, .inl (upd fb' d xn)))) rfl (by decide) (by decide) (by decide) rfl ?_
    refine zb_W_step (pc' := 17) (L' := rf_set (lv_args 0 [.ref 57, .int xd, .int xs', .int xn]) 4 (.int (Int32.ofInt 0))) (st' := []) (σ' := (σ.set 58 (.inl (0, 6, .inl (upd fa d xs')))).set 60 (.inl (0, 6, .inl (upd fb' d xn)))) rfl (by decide) (by decide) (by decide) rfl ?_
    refine zc_hrl hxd hn hd6 (by omega) n 0 _ _ f fs (Nat.zero_add n) (zb_rget_ne (by decide) rfl (fun q => by cases q)) (zb_rget_ne (by decide) rfl (fun q => by cases q)) (zb_rget_ne (by decide) rfl (fun q => by cases q)) (zb_rget_set _ _ _) (by rw [List.getElem?_set, if_neg (by decide)]; exact f3) (f2 3 61 k3) (by rw [List.getElem?_set, if_neg (by decide), List.getElem?_set, if_neg (by decide)]; exact q1) (fun σ' f' m1 m2 m3 m4 => ?_)
    have m5 : ∀ q, ¬ q = 61 → ¬ q = 58 → ¬ q = 60 → σ'[q]? = σ[q]? := fun q h1 h2 h3 => by rw [m2 q h1, List.getElem?_set, if_neg (fun e => h3 e.symm), List.getElem?_set, if_neg (fun e => h2 e.symm)]
    refine hpost _ List.mem_cons_self N ρ (Nat.le_refl _) (zb_ag_refl _ _) he none σ' trivial ?_ (fun q hq => ?_) ⟨hG.1, fun u hu => ?_, hG.2.2.1, ⟨f', m3, fun x hx => ?_⟩, by show zc_row ρ g0 G.2.2 σ'[88]?; rw [m5 88 (by decide) (by decide) (by decide)]; exact hG.2.2.2.2⟩
    · show zb_ss T len (zb_upd (zb_upd D (so + qd.2.1.toNat) vs) (sz + qd.2.1.toNat) (.inr (0, kn, .ofNat 0))) N ρ σ'
      rw [zb_upd_eq, zb_upd_eq, edn]
      refine zc_ss_ex (fun q => q = 61) ss2 m1 m2 (fun q hq => ?_)
      subst hq
      exact ⟨360, f', hT.1, m3⟩
    · have w := zc_wf_of hq
      exact m5 q w.1 (fun e => by rw [e, w58] at w; cases w.2.2) (fun e => by rw [e, w60] at w; cases w.2.2)
    · rw [List.mem_singleton.mp hu]
      exact kn1
    · rw [m4 x hx, q2 x hx, eU]
      show _ = (if ((60 * qd.2.1.toNat : Nat) : Int) ≤ (x : Int) ∧ (x : Int) < ((60 * qd.2.1.toNat : Nat) : Int) + ρ kn.toNat then 0 else f0 x)
      rw [edn]
      by_cases hx2 : 60 * d + 0 ≤ x ∧ x < 60 * d + n
      · rw [if_pos hx2, if_pos (by omega)]
      · rw [if_neg hx2, if_neg (by omega)]
        rfl
  obtain ⟨m, hm⟩ := hW
  exact ⟨rf_m57, rfl, (by show (4 : Nat) ≤ 5; decide), m, hm⟩
theorem zc_kc_ok {N i d : Nat} {ρ : Nat → Int} {env : zb_N} {L : zb_L} {L' : rf_L} (he : zb_en N ρ env) (hL : zb_gL N ρ L L') (h : zc_kc L env i = some d) : d < 6 ∧ ∃ x : Int32, rf_get L' i = some (.int x) ∧ x.toInt = (d : Int) := by
  unfold zc_kc at h
  split at h
  case h_2 => cases h
  case h_1 v hv =>
  split at h
  case h_2 => cases h
  case h_1 q hq =>
  obtain ⟨hc, h⟩ := zb_cond h
  cases h
  have c1 := an_and hc
  have c2 := an_and c1.2
  obtain ⟨w, w1, w2⟩ := hL i v hv
  obtain ⟨x, rfl, gx⟩ := zb_pi_ok he hq w2
  have sg := zb_sing_ok c1.1 gx
  have a1 := zb_le_of c2.1
  have a2 := zb_le_of c2.2
  exact ⟨by omega, x, w1, by omega⟩
theorem zc_kn_ok {N i k : Nat} {ρ : Nat → Int} {L : zb_L} {L' : rf_L} (hL : zb_gL N ρ L L') (h : zc_kn L i k = true) : k < N ∧ ∃ x : Int32, rf_get L' i = some (.int x) ∧ x.toInt = ρ k := by
  unfold zc_kn at h
  split at h
  case h_2 => cases h
  case h_1 v hv =>
  obtain ⟨w, w1, w2⟩ := hL i v hv
  obtain ⟨h1, x, rfl, h2⟩ := zc_nm_ok h w2
  exact ⟨h1, x, w1, by omega⟩
theorem zc_k0_ok {N i r : Nat} {ρ : Nat → Int} {L : zb_L} {L' : rf_L} (hL : zb_gL N ρ L L') (h : zc_k0 L i r = true) : rf_get L' i = some (.ref r) := by
  unfold zc_k0 at h
  split at h
  case h_2 => cases h
  case h_1 r0 hv =>
  have e : r0 = r := Nat.eq_of_beq_eq_true h
  subst e
  obtain ⟨w, w1, w2⟩ := hL i _ hv
  rw [w1]
  have w2 : w = .ref r0 := w2
  rw [w2]
theorem zc_hM_ok {F d1 : Nat} {ds : List zb_G} (hlen : len ≤ 1000000) (hLL : LL < 2 ^ 31) (hloc : zb_loc T loc) (hsl : sl.1 = true → zb_hs LL xs n0 ρ0) (h86 : 86 ≤ n0) (hT : zc_T T) (hCI : zc_CI ρ0 f0 g0) (h61 : wr 61 = false) (h88 : wr 88 = false) (hK : zc_cov T len wr n0 ρ0 σ0 f0 g0 K (rf_run (rf_SA LL xs) rf_ms d1)) (h63 : T 63 = some (.inr (10, ds))) (k60 : ds[60]? = some (1, 0, .inl (.ref 88))) (k61 : ds[61]? = some (1, 0, .inl (.ref 89))) (h89 : T 89 = some (.inl (1, 60, zb_topL))) (w89 : wr 89 = true) :
    ∀ (env : zb_N) (As : List an_V) (D : zb_D) (G : zc_G) (rs : zc_R) (As' : List Value) (σ : rf_S) (post : rf_P) (N : Nat) (ρ : Nat → Int), zc_hM T wr sl rf_ms K F env As D G = some rs → zb_en N ρ env → zb_gl N ρ As As' → zb_ss T len D N ρ σ → zb_H (zc_wf wr) n0 ρ0 σ0 N ρ σ → zc_GR N ρ f0 g0 G σ →
    (∀ r, r ∈ rs → ∀ M ρ', N ≤ M → zb_ag N ρ ρ' → zb_en M ρ' r.1.1 → ∀ (rv : Option Value) (σ1 : rf_S), zb_gl M ρ' r.1.2.1.toList rv.toList → zb_ss T len r.1.2.2 M ρ' σ1 → (∀ q, zc_wf wr q = false → σ1[q]? = σ[q]?) → zc_GR M ρ' f0 g0 r.2 σ1 → post rv σ1) → rf_run (rf_SA LL xs) rf_ms (d1 + 1) 225 As' σ post := by
  intro env As D G rs As' σ post N ρ h he hA hσ hH hG hpost
  unfold zc_hM at h
  rw [zb_nth_eq] at h
  split at h
  case h_1 => cases h
  case h_2 mi hmi =>
  have hm : rf_ms[225]? = some rf_m225 := rfl
  rw [hm] at hmi
  cases hmi
  obtain ⟨hlg, h⟩ := zb_cond h
  obtain ⟨cs, hcs, h⟩ := zb_bnd_some h
  refine zc_meth hlen hLL hloc hsl h86 hT hCI h61 h88 hK hm hlg hcs he hA hσ hH hG (fun e he2 M ρ' rv σ1 a1 a2 a3 a4 a5 a6 a7 => ?_) (fun e he2 M ρ' L1 st1 σ1 a1 a2 a3 a4 a5 a6 a7 a8 a9 => ?_)
  · obtain ⟨r, r1, r2⟩ := an_all_ok h _ he2
    have r1 : some [((e.1.1, e.1.2.2.2.1.head?, e.1.2.2.2.2), e.2)] = some r := r1
    cases r1
    exact hpost _ (r2 _ List.mem_cons_self) M ρ' a4 a5 a1 rv σ1 a2 a3 a6 a7
  · obtain ⟨r, r1, r2⟩ := an_all_ok h _ he2
    have r1 : (match zc_kc e.1.2.2.1 e.1.1 1, zc_kc e.1.2.2.1 e.1.1 3, zc_kc e.1.2.2.1 e.1.1 6 with
      | some d, some dd, some k => bif Nat.beq k 0 && (e.1.2.2.2.1.isEmpty && (zc_k0 e.1.2.2.1 0 63 && (zc_kn e.1.2.2.1 2 3 && (zc_kn e.1.2.2.1 4 5 && (zc_kn e.1.2.2.1 5 6 && (zc_lo0 e.1.1 3 && (zc_lo0 e.1.1 5 && (zc_lo0 e.1.1 6 && (zc_hi60 e.1.1 (80 + d) && (zc_hi60 e.1.1 (80 + dd) && (zc_ls e.1.1 3 6 (80 + d) && zc_ls e.1.1 5 6 (80 + dd)))))))))))) then
          some [((e.1.1, some (.inr (0, 6, 0)), e.1.2.2.2.2), (e.2.1, e.2.2.1, (3, 60 * d, ((60 * dd : Nat) : Int), zb_topL) :: e.2.2.2))] else none
      | _, _, _ => none) = some r := r1
    split at r1
    case h_2 => cases r1
    case h_1 d dd k e1 e2 e3 =>
    obtain ⟨hc, r1⟩ := zb_cond r1
    cases r1
    have c1 := an_and hc
    have c2 := an_and c1.2
    have c3 := an_and c2.2
    have c4 := an_and c3.2
    have c5 := an_and c4.2
    have c6 := an_and c5.2
    have c7 := an_and c6.2
    have c8 := an_and c7.2
    have c9 := an_and c8.2
    have c10 := an_and c9.2
    have c11 := an_and c10.2
    have c12 := an_and c11.2
    have ek : k = 0 := Nat.eq_of_beq_eq_true c1.1
    subst ek
    have est : e.1.2.2.2.1 = [] := List.isEmpty_iff.mp c2.1
    rw [est] at a3
    have est1 := zb_gl_nil a3
    subst est1
    obtain ⟨d6, xd, g1, hxd⟩ := zc_kc_ok a1 a2 e1
    obtain ⟨dd6, xe, g3, hxe⟩ := zc_kc_ok a1 a2 e2
    obtain ⟨-, xk, g6, hxk⟩ := zc_kc_ok a1 a2 e3
    have g0' := zc_k0_ok a2 c3.1
    obtain ⟨-, xa, g2, hxa⟩ := zc_kn_ok a2 c4.1
    obtain ⟨-, xb, g4, hxb⟩ := zc_kn_ok a2 c5.1
    obtain ⟨k6, xn, g5, hxn⟩ := zc_kn_ok a2 c6.1
    have l3 := zc_lo0_ok a1 c7.1
    have l5 := zc_lo0_ok a1 c8.1
    have l6 := zc_lo0_ok a1 c9.1
    have z1 := zc_hi60_ok a1 c10.1
    have z2 := zc_hi60_ok a1 c11.1
    have s1 := zc_ls_ok a1 c12.1
    have s2 := zc_ls_ok a1 c12.2
    obtain ⟨a, ha⟩ : ∃ a : Nat, ρ' 3 = (a : Int) := ⟨(ρ' 3).toNat, by omega⟩
    obtain ⟨b, hb⟩ : ∃ b : Nat, ρ' 5 = (b : Int) := ⟨(ρ' 5).toNat, by omega⟩
    obtain ⟨n, hn⟩ : ∃ n : Nat, ρ' 6 = (n : Int) := ⟨(ρ' 6).toNat, by omega⟩
    have ek0 : xk = Int32.ofNat 0 := Int32.toInt_inj.mp (by rw [hxk]; decide)
    obtain ⟨fs, f1, f2⟩ := zc_fref a4 h63
    obtain ⟨f, q1, q2⟩ := a8.2.2.2.2
    obtain ⟨o, o1, o2⟩ := a4.2 89 _ h89
    have o2 : zb_rw e.1.2.2.2.2 M ρ' 1 60 zb_topL o := o2
    obtain ⟨c, rfl, -⟩ := zb_ro1 (Eq.mp (zb_rw_nc rfl) o2)
    have e113 : e.1.2.1 = 113 := Nat.eq_of_beq_eq_true a9
    rw [e113]
    refine zc_sl1 hxd (by omega : xa.toInt = (a : Int)) (by omega : xn.toInt = (n : Int)) d6 (by omega) (f2 60 88 k60) (f2 61 89 k61) n 0 L1 σ1 c (Nat.zero_add n) g0' g1 g2 g5 (by rw [g6, ek0]) f1 q1 o1 (fun y hy => absurd hy (Nat.not_lt_zero y)) (fun L2 σ2 c' m0 m1 m2 m3 m4 => ?_)
    refine zb_W_step (pc' := 148) (L' := L2) (st' := [.int (Int32.ofInt 0)]) (σ' := σ2) rfl (by decide) (by decide) (by decide) rfl ?_
    refine zb_W_step (pc' := 150) (L' := rf_set L2 6 (.int (Int32.ofInt 0))) (st' := []) (σ' := σ2) rfl (by decide) (by decide) (by decide) rfl ?_
    refine zc_sl2 hxe (by omega : xb.toInt = (b : Int)) (by omega : xn.toInt = (n : Int)) dd6 (by omega) (f2 60 88 k60) (f2 61 89 k61) n 0 _ σ2 f (Nat.zero_add n) (zb_rget_ne (by decide) (m0 0 _ (by decide) g0' rfl) (fun q => by cases q)) (zb_rget_ne (by decide) (m0 3 _ (by decide) g3 rfl) (fun q => by cases q)) (zb_rget_ne (by decide) (m0 4 _ (by decide) g4 rfl) (fun q => by cases q)) (zb_rget_ne (by decide) (m0 5 _ (by decide) g5 rfl) (fun q => by cases q)) (zb_rget_set _ _ _) (by rw [m2 63 (by decide)]; exact f1) (by rw [m2 88 (by decide)]; exact q1) m3 (fun σ3 f' p1 p2 p3 p4 => ?_)
    have m5 : ∀ q, ¬ q = 88 → ¬ q = 89 → σ3[q]? = σ1[q]? := fun q h1 h2 => by rw [p2 q h1, m2 q h2]
    refine hpost _ (r2 _ List.mem_cons_self) M ρ' a5 a6 a1 (some (.int xn)) σ3 ⟨⟨k6, xn, rfl, ?_⟩, trivial⟩ ?_ (fun q hq => ?_) ⟨a8.1, a8.2.1, fun u hu => ?_, by show zc_row ρ' f0 e.2.2.1 σ3[61]?; rw [m5 61 (by decide) (by decide)]; exact a8.2.2.2.1, ⟨f', p3, fun x hx => ?_⟩⟩
    · show xn.toInt = ρ' 6 + 0
      omega
    · refine zc_ss_ex (fun q => q = 88 ∨ q = 89) a4 (by rw [p1, m1]) (fun q hq => m5 q (fun e => hq (Or.inl e)) (fun e => hq (Or.inr e))) (fun q hq => ?_)
      rcases hq with rfl | rfl
      · exact ⟨360, f', hT.2.1, p3⟩
      · exact ⟨60, c', h89, by rw [p2 89 (by decide)]; exact m3⟩
    · have w := zc_wf_of hq
      rw [m5 q w.2.1 (fun e => by rw [e, w89] at w; cases w.2.2)]
      exact a7 q hq
    · rcases List.mem_cons.mp hu with e' | hu
      · rw [e']; show 7 ≤ M; have := hH.1; omega
      · exact a8.2.2.1 u hu
    · rw [p4 x]
      show _ = (if ρ' 5 + ((60 * dd : Nat) : Int) ≤ (x : Int) ∧ (x : Int) < ρ' 5 + ((60 * dd : Nat) : Int) + ρ' 6 then zc_ap ρ' g0 e.2.2.2 ((x : Int) - (ρ' 5 + ((60 * dd : Nat) : Int)) + (ρ' 3 + ((60 * d : Nat) : Int))).toNat else zc_ap ρ' g0 e.2.2.2 x)
      by_cases hx2 : 60 * dd + b + 0 ≤ x ∧ x < 60 * dd + b + n
      · rw [if_pos hx2, if_pos (by omega), m4 _ (by omega), q2 _ (by omega)]
        congr 1
        omega
      · rw [if_neg hx2, if_neg (by omega)]
        exact q2 x hx
end
