/-! methods by what is known of them, loops by what grows less -/
def zb_bm (T : zb_T) (len : Nat) (B : zb_A) (MB : Nat) (ρB : Nat → Int) (rv : Option Value) (σ1 : rf_S) : Prop := zb_en MB ρB B.1 ∧ zb_gl MB ρB B.2.2.1 rv.toList ∧ zb_ss T len B.2.2.2.1 MB ρB σ1
/-- a call comes to one of the written ends -/
def zb_Sum (T : zb_T) (len : Nat) (SA : rf_A) (ms : List rf_M) (J : (Nat → Int) → rf_S → Prop) (b : Nat) (p : zb_Sp) (dm : Nat) : Prop :=
  ∀ (ρP : Nat → Int) (As' : List Value) (σ : rf_S) (post : rf_P), (zb_ev ρP p.2.2.2.1).toNat ≤ dm → zb_am T len p.1 p.1.1.1.length ρP (lv_args 0 As') [] σ → (∃ mi, ms[b]? = some mi ∧ (lg_sl As').length ≤ mi.1.2.2.1) → J ρP σ →
    (∀ B, B ∈ p.2.1 → ∀ MB ρB rv σ1, p.1.1.1.length ≤ MB → zb_ag p.1.1.1.length ρP ρB → zb_bm T len B MB ρB rv σ1 → (∀ q, zb_has p.2.2.2.2 q = false → σ1[q]? = σ[q]?) → post rv σ1) → rf_run SA ms (zb_ev ρP p.2.2.2.1).toNat b As' σ post
def zb_J0 : (Nat → Int) → rf_S → Prop := fun _ _ => True
def zb_mu (ρ : Nat → Int) (m : zb_M) : Nat × Nat × Nat := ((zb_ev ρ m.1).toNat, (zb_ev ρ m.2.1).toNat, (zb_ev ρ m.2.2).toNat)
def zb_lt : Nat × Nat × Nat → Nat × Nat × Nat → Prop := (Prod.lex Nat.lt_wfRel (Prod.lex Nat.lt_wfRel Nat.lt_wfRel)).rel
theorem zb_wf : WellFounded zb_lt := (Prod.lex Nat.lt_wfRel (Prod.lex Nat.lt_wfRel Nat.lt_wfRel)).wf
section
variable {T : zb_T} {len ns : Nat} {sl : Bool × List Nat} {LL : Nat} {xs : Nat → Int32} {loc : Nat → Nat × Nat} {ms : List rf_M} {n0 : Nat} {ρ0 : Nat → Int} {σ0 : rf_S} {wl : List Nat}
theorem zb_use_ok {SA : rf_A} {p : zb_Sp} {b T0 d1 N : Nat} {dc : zb_E} {mi : rf_M} {env : zb_N} {As : List an_V} {D : zb_D} {rs : zb_R} {As' : List Value} {σ : rf_S} {post : rf_P} {ρ : Nat → Int} (hloc : zb_loc T loc) (hlc : zb_lc2 T loc ns) (hns : p.1.2.2.2.1.length = ns) (hS : zb_Sum T len SA ms zb_J0 b p (d1 + 1)) (hmi : ms[b]? = some mi) (hd1 : (d1 : Int) + 1 + (T0 : Int) = zb_ev ρ0 dc) (he : zb_en N ρ env) (hA : zb_gl N ρ As As') (hσ : zb_ss T len D N ρ σ) (h0 : n0 ≤ N) (hag : zb_ag n0 ρ0 ρ) (h : zb_use n0 wl dc (T0 : Int) mi.1.2.2.1 p env As D = some rs)
    (hpost : ∀ r, r ∈ rs → ∀ M ρ', N ≤ M → zb_ag N ρ ρ' → zb_en M ρ' r.1 → ∀ (rv : Option Value) (σ1 : rf_S), zb_gl M ρ' r.2.1.toList rv.toList → zb_ss T len r.2.2 M ρ' σ1 → (∀ q, zb_has wl q = false → σ1[q]? = σ[q]?) → post rv σ1) : rf_run SA ms (d1 + 1) b As' σ post := by
  obtain ⟨ds, f1, f2⟩ := zb_bnd_some h
  obtain ⟨k1, k2⟩ := zb_cond f2
  have k3 := an_and k1
  have k4 := an_and k3.2
  have gL : zb_gL N ρ (zb_arg As) (lv_args 0 As') := fun i v hv => by
    obtain ⟨w, w1, w2⟩ := zb_arg_ok 0 i v hA hv
    rw [Nat.zero_add] at w1
    exact ⟨w, w1, w2⟩
  obtain ⟨hd, ham, hlenA⟩ := zb_fitA_ok (c := (env, 0, zb_arg As, [], D)) (st' := []) hloc hlc hns (Nat.zero_le N) he gL trivial hσ f1
  have hdep : zb_ev (zb_rA loc 0 ρ p.1.2.2.2.2 (lv_args 0 As') [] σ) p.2.2.2.1 + (T0 : Int) ≤ zb_ev ρ0 dc := by
    have g := k4.1
    unfold zb_dpc at g
    split at g
    case h_2 => cases g
    case h_1 q p' hq hp =>
    obtain ⟨z, z1, z2⟩ := zb_eq_ok he hd hq
    obtain ⟨w, w1, w2⟩ := zb_eq_ok0 he h0 hag hp
    rw [← z2, ← w2]
    exact zb_els_ok he g z1 w1
  have hdd : (zb_ev (zb_rA loc 0 ρ p.1.2.2.2.2 (lv_args 0 As') [] σ) p.2.2.2.1).toNat ≤ d1 + 1 := by omega
  refine rf_run_le hdd (hS _ As' σ post hdd ham ⟨mi, hmi, by rw [zb_lgs_ok hA]; exact Nat.le_of_ble_eq_true k3.1⟩ trivial (fun B hB MB ρB rv σ1 h1 h2 h3 h4 => ?_))
  rw [Nat.zero_add] at hlenA
  rw [hlenA] at h1 h2
  obtain ⟨r, r1, r2⟩ := zb_map_ok k2 B hB
  obtain ⟨g1, g2, g3⟩ := zb_pst_ok he hd h2 h1 r2 h3.1 h3.2.1 h3.2.2
  refine hpost r r1 _ _ (Nat.le_add_right _ _) zb_r2_ag g1 rv σ1 g2 g3 (fun q hq => h4 q ?_)
  cases hc : zb_has p.2.2.2.2 q with
  | false => rfl
  | true => rw [zb_every_ok k4.2 q (zb_has_ok hc)] at hq; cases hq
theorem zb_S_ok {SA : rf_A} {SP : Nat → List zb_Sp} {X : zb_St} {d1 T0 : Nat} {dc : zb_E} (hloc : zb_loc T loc) (hlc : zb_lc2 T loc ns) (hX : zb_sok T len (zb_has wl) n0 ρ0 σ0 X (rf_run SA ms (d1 + 1))) (hSP : ∀ b p, p ∈ SP b → p.1.2.2.2.1.length = ns ∧ zb_Sum T len SA ms zb_J0 b p (d1 + 1)) (hd1 : (d1 : Int) + 1 + (T0 : Int) = zb_ev ρ0 dc) : zb_sok T len (zb_has wl) n0 ρ0 σ0 (zb_S ms SP X n0 wl dc T0) (rf_run SA ms (d1 + 1)) := by
  intro b env As D rs As' σ post N ρ h he hA hσ hH hpost
  dsimp only at h
  unfold zb_S at h
  cases hb : X b with
  | some f =>
    rw [hb] at h
    exact hX b env As D rs As' σ post N ρ (by dsimp only; rw [hb]; exact h) he hA hσ hH hpost
  | none =>
    rw [hb] at h
    dsimp only at h
    cases hp : SP b with
    | nil => rw [hp] at h; cases h
    | cons p0 ps0 =>
      rw [hp, zb_nth_eq] at h
      cases hm : ms[b]? with
      | none => rw [hm] at h; cases h
      | some mi =>
        rw [hm] at h
        have h : zb_uses n0 wl dc (T0 : Int) mi.1.2.2.1 (p0 :: ps0) env As D = some rs := h
        rw [← hp] at h
        have key : ∀ ps : List zb_Sp, (∀ p, p ∈ ps → p ∈ SP b) → zb_uses n0 wl dc (T0 : Int) mi.1.2.2.1 ps env As D = some rs → rf_run SA ms (d1 + 1) b As' σ post := by
          intro ps
          induction ps with
          | nil => intro _ h; cases h
          | cons p ps ih =>
            intro hm2 h
            have h : (match zb_use n0 wl dc (T0 : Int) mi.1.2.2.1 p env As D with
              | some r => some r
              | none => zb_uses n0 wl dc (T0 : Int) mi.1.2.2.1 ps env As D) = some rs := h
            cases hu : zb_use n0 wl dc (T0 : Int) mi.1.2.2.1 p env As D with
            | none => rw [hu] at h; exact ih (fun q hq => hm2 q (List.mem_cons_of_mem _ hq)) h
            | some r =>
              rw [hu] at h
              cases h
              obtain ⟨g1, g2⟩ := hSP b p (hm2 p List.mem_cons_self)
              exact zb_use_ok hloc hlc g1 g2 hm hd1 he hA hσ hH.1 hH.2.1 hu hpost
        exact key (SP b) (fun p hp => hp) h
theorem zb_le2_ok {env : zb_N} {NS N : Nat} {ds : List an_V} {srcs : List (Nat × Nat)} {s : Int} {e2 e1 : zb_E} {ρ ρS : Nat → Int} {L' : rf_L} {st' : List Value} {σ : rf_S} (he : zb_en N ρ env) (hd : zb_dok loc n0 ds srcs N ρ L' st' σ) (hNS : NS ≤ N) (hag : zb_ag NS ρS ρ) (h : zb_le2 env n0 NS ds s e2 e1 = true) : zb_ev (zb_rA loc n0 ρ srcs L' st' σ) e2 + s ≤ zb_ev ρS e1 ∧ (s ≤ 0 ∨ 0 ≤ zb_ev (zb_rA loc n0 ρ srcs L' st' σ) e2) := by
  unfold zb_le2 at h
  split at h
  case h_2 => cases h
  case h_1 q p hq hp =>
  obtain ⟨z, z1, z2⟩ := zb_eq_ok he hd hq
  obtain ⟨w, w1, w2⟩ := zb_eq_ok0 he hNS hag hp
  have h := an_and h
  have g := zb_els_ok he h.1 z1 w1
  rw [← z2, ← w2]
  refine ⟨g, ?_⟩
  have h2 := h.2
  rw [Bool.or_eq_true] at h2
  rcases h2 with h2 | h2
  · exact Or.inl (zb_le_of h2)
  · have h2 := zb_le_of h2
    have h3 := zb_eb_ok (a := e2.1) (c := e2.2.2) z1
    exact Or.inr (by omega)
theorem zb_lex_ok {env : zb_N} {NS N : Nat} {ds : List an_V} {srcs : List (Nat × Nat)} {m2 m1 : zb_M} {ρ ρS : Nat → Int} {L' : rf_L} {st' : List Value} {σ : rf_S} (he : zb_en N ρ env) (hd : zb_dok loc n0 ds srcs N ρ L' st' σ) (hNS : NS ≤ N) (hag : zb_ag NS ρS ρ) (h : zb_lex env n0 NS ds m2 m1 = true) : zb_lt (zb_mu (zb_rA loc n0 ρ srcs L' st' σ) m2) (zb_mu ρS m1) := by
  have st : ∀ e2 e1, zb_le2 env n0 NS ds 1 e2 e1 = true → (zb_ev (zb_rA loc n0 ρ srcs L' st' σ) e2).toNat < (zb_ev ρS e1).toNat := fun e2 e1 h => by
    have := zb_le2_ok he hd hNS hag h
    omega
  have le : ∀ e2 e1, zb_le2 env n0 NS ds 0 e2 e1 = true → (zb_ev (zb_rA loc n0 ρ srcs L' st' σ) e2).toNat ≤ (zb_ev ρS e1).toNat := fun e2 e1 h => by
    have := zb_le2_ok he hd hNS hag h
    omega
  have fst : ∀ {a b : Nat} {x y : Nat × Nat}, a < b → zb_lt (a, x) (b, y) := fun h => Prod.Lex.left _ _ h
  have snd : ∀ {a b : Nat} {x y : Nat × Nat}, a ≤ b → Prod.Lex (fun a b => a < b) (fun a b => a < b) x y → zb_lt (a, x) (b, y) := fun {a b x y} h q => by
    rcases Nat.lt_or_eq_of_le h with h | h
    · exact Prod.Lex.left _ _ h
    · subst h; exact Prod.Lex.right _ q
  unfold zb_lex at h
  rw [Bool.or_eq_true] at h
  rcases h with h | h
  · exact fst (st _ _ h)
  · have h := an_and h
    have h2 := h.2
    rw [Bool.or_eq_true] at h2
    refine snd (le _ _ h.1) ?_
    rcases h2 with h2 | h2
    · exact Prod.Lex.left _ _ (st _ _ h2)
    · have h2 := an_and h2
      have l2 := le _ _ h2.1
      have s3 := st _ _ h2.2
      rcases Nat.lt_or_eq_of_le l2 with h3 | h3
      · exact Prod.Lex.left _ _ h3
      · show Prod.Lex _ _ ((zb_ev _ m2.2.1).toNat, (zb_ev _ m2.2.2).toNat) ((zb_ev _ m1.2.1).toNat, (zb_ev _ m1.2.2).toNat)
        rw [h3]
        exact Prod.Lex.right _ s3
theorem zb_dn_ok {p : zb_Sp} (h : zb_dn ns p = true) : p.1.2.2.2.1.length = ns ∧ (∀ B, B ∈ p.2.1 → B.2.2.2.1.length = ns) ∧ ∀ q, q ∈ p.2.2.1 → q.2.1.2.2.2.1.length = ns := by
  have h := an_and h
  have h2 := an_and h.2
  exact ⟨Nat.eq_of_beq_eq_true h.1, fun B hB => Nat.eq_of_beq_eq_true (zb_every_ok h2.1 B hB), fun q hq => Nat.eq_of_beq_eq_true (zb_every_ok h2.2 q hq)⟩
theorem zb_seg_ok {S : zb_St} {F T0 d1 : Nat} {mi : rf_M} {p : zb_Sp} {pc : Nat} {A : zb_A} {m : Option zb_M} {u v : Nat} {post : rf_P} {ρ : Nat → Int} {L' : rf_L} {st' : List Value} {σ : rf_S} (hlen : len ≤ 1000000) (hLL : LL < 2 ^ 31) (hloc : zb_loc T loc) (hlc : zb_lc2 T loc ns) (hsl : sl.1 = true → zb_hs LL xs p.1.1.1.length ρ0) (hdn : zb_dn ns p = true) (hS : zb_sok T len (zb_has p.2.2.2.2) p.1.1.1.length ρ0 σ0 S (rf_run (rf_SA LL xs) ms (d1 + 1))) (hu : u ≤ mi.2.1.2.2.1) (hv : v ≤ mi.2.1.2.2.2.1)
    (hpost : ∀ B, B ∈ p.2.1 → ∀ MB ρB rv σ1, p.1.1.1.length ≤ MB → zb_ag p.1.1.1.length ρ0 ρB → zb_bm T len B MB ρB rv σ1 → (∀ q, zb_has p.2.2.2.2 q = false → σ1[q]? = σ0[q]?) → post rv σ1)
    (h : zb_seg T sl ms S F T0 mi p pc A m = true) (ham : zb_am T len A A.1.1.length ρ L' st' σ) (hH : zb_H (zb_has p.2.2.2.2) p.1.1.1.length ρ0 σ0 A.1.1.length ρ σ)
    (hnext : ∀ q, q ∈ p.2.2.1 → ∀ ρ1 L1 st1 σ1, zb_am T len q.2.1 q.2.1.1.1.length ρ1 L1 st1 σ1 → zb_H (zb_has p.2.2.2.2) p.1.1.1.length ρ0 σ0 q.2.1.1.1.length ρ1 σ1 → (∀ m0, m = some m0 → zb_lt (zb_mu ρ1 q.2.2) (zb_mu ρ m0)) → zb_W (rf_SA LL xs) ms (rf_run (rf_SA LL xs) ms (d1 + T0)) mi q.1 L1 st1 σ1 u v post) :
    zb_W (rf_SA LL xs) ms (rf_run (rf_SA LL xs) ms (d1 + T0)) mi pc L' st' σ u v post := by
  obtain ⟨dn1, dn2, dn3⟩ := zb_dn_ok hdn
  unfold zb_seg at h
  split at h
  case h_2 => cases h
  case h_1 cs hcs =>
  obtain ⟨a1, a2, a3, a4⟩ := ham
  refine zb_body_ok (n0 := p.1.1.1.length) (ρ0 := ρ0) (σ0 := σ0) hlen hLL hloc hsl (fun b As σ p q => rf_run_post _ _ _ b As σ p q) (rf_run_det _ _ _) (zb_run_ok hlen hLL hloc hsl hS T0) hu hv F true (A.1, pc, A.2.1, A.2.2.1, A.2.2.2.1) cs A.1.1.length ρ L' st' σ hcs a1 a2 a3 a4 hH (fun e he M ρ' rv σ1 b1 b2 b3 b4 b5 b6 => ?_) (fun e he M ρ' L1 st1 σ1 b1 b2 b3 b4 b5 b6 b7 b8 => ?_)
  · have g := List.all_eq_true.mp h _ he
    obtain ⟨B, B1, B2⟩ := zb_any_ok (show zb_any (fun B => match zb_fitA p.1.1.1.length (e.1, 0, [], e.2.2.2.1, e.2.2.2.2) B with
      | some _ => true
      | none => false) p.2.1 = true from g)
    split at B2
    case h_2 => cases B2
    case h_1 ds hds =>
    have hH1 := zb_H_next hH b4 b5 b6
    obtain ⟨hd, hm, hl⟩ := zb_fitA_ok (c := (e.1, 0, [], e.2.2.2.1, e.2.2.2.2)) (L' := []) (st' := rv.toList) hloc hlc (dn2 B B1) hH1.1 b1 (fun i v hv => by
      unfold zb_get at hv
      rw [zb_nth_eq] at hv
      simp at hv) b2 b3 hds
    exact hpost B B1 _ _ rv σ1 (by omega) (fun k hk => (zb_rA_lt hk).trans (hH1.2.1 k hk)) ⟨hm.1, hm.2.2.1, hm.2.2.2⟩ hH1.2.2
  · have g := List.all_eq_true.mp h _ he
    obtain ⟨q, q1, q2⟩ := zb_any_ok (show zb_any (fun q => Nat.beq q.1 e.2.1 && (match zb_fitA p.1.1.1.length e q.2.1 with
      | some ds => (match m with
        | some m => zb_lex e.1 p.1.1.1.length A.1.1.length ds q.2.2 m
        | none => true)
      | none => false)) p.2.2.1 = true from g)
    have q3 := an_and q2
    have epc : q.1 = e.2.1 := Nat.eq_of_beq_eq_true q3.1
    have q4 := q3.2
    split at q4
    case h_2 => cases q4
    case h_1 ds hds =>
    have hH1 := zb_H_next hH b5 b6 b7
    obtain ⟨hd, hm, hl⟩ := zb_fitA_ok hloc hlc (dn3 q q1) hH1.1 b1 b2 b3 b4 hds
    rw [← epc]
    refine hnext q q1 _ L1 st1 σ1 hm ⟨by omega, fun k hk => (zb_rA_lt hk).trans (hH1.2.1 k hk), hH1.2.2⟩ (fun m0 hm0 => ?_)
    subst hm0
    exact zb_lex_ok b1 hd b5 b6 q4
/-- from each place in a loop -/
theorem zb_core {SP : Nat → List zb_Sp} {X : zb_St} {F T0 d1 : Nat} {mi : rf_M} {p : zb_Sp} {u v : Nat} {post : rf_P} (hlen : len ≤ 1000000) (hLL : LL < 2 ^ 31) (hloc : zb_loc T loc) (hlc : zb_lc2 T loc ns) (hsl : sl.1 = true → zb_hs LL xs p.1.1.1.length ρ0) (hdn : zb_dn ns p = true) (hS : zb_sok T len (zb_has p.2.2.2.2) p.1.1.1.length ρ0 σ0 (zb_S ms SP X p.1.1.1.length p.2.2.2.2 p.2.2.2.1 T0) (rf_run (rf_SA LL xs) ms (d1 + 1))) (hu : u ≤ mi.2.1.2.2.1) (hv : v ≤ mi.2.1.2.2.2.1)
    (hpost : ∀ B, B ∈ p.2.1 → ∀ MB ρB rv σ1, p.1.1.1.length ≤ MB → zb_ag p.1.1.1.length ρ0 ρB → zb_bm T len B MB ρB rv σ1 → (∀ q, zb_has p.2.2.2.2 q = false → σ1[q]? = σ0[q]?) → post rv σ1)
    (hc : zb_chkc T sl ms SP X F T0 mi p = true) : ∀ (t : Nat × Nat × Nat) (q : Nat × zb_A × zb_M), q ∈ p.2.2.1 → ∀ ρ L' st' σ, zb_mu ρ q.2.2 = t → zb_am T len q.2.1 q.2.1.1.1.length ρ L' st' σ → zb_H (zb_has p.2.2.2.2) p.1.1.1.length ρ0 σ0 q.2.1.1.1.length ρ σ → zb_W (rf_SA LL xs) ms (rf_run (rf_SA LL xs) ms (d1 + T0)) mi q.1 L' st' σ u v post := by
  intro t
  induction t using zb_wf.induction with
  | _ t ih =>
    intro q hq ρ L' st' σ ht ham hH
    refine zb_seg_ok hlen hLL hloc hlc hsl hdn hS hu hv hpost (zb_every_ok hc q hq) ham hH (fun q1 hq1 ρ1 L1 st1 σ1 c1 c2 c3 => ?_)
    have := c3 _ rfl
    rw [ht] at this
    exact ih _ this q1 hq1 ρ1 L1 st1 σ1 rfl c1 c2
/-- a method that the tests pass -/
theorem zb_meth {SP : Nat → List zb_Sp} {X : zb_St} {sp : List Nat} {F T0 b : Nat} {mi : rf_M} {p : zb_Sp} {J : (Nat → Int) → rf_S → Prop} (hlen : len ≤ 1000000) (hLL : LL < 2 ^ 31) (hloc : zb_loc T loc) (hlc : zb_lc2 T loc ns) (hmi : ms[b]? = some mi) (hc : zb_chk T (false, sp) ms SP X F T0 ns mi p = true) (hX : ∀ ρ0 σ0 d, J ρ0 σ0 → zb_sok T len (zb_has p.2.2.2.2) p.1.1.1.length ρ0 σ0 X (rf_run (rf_SA LL xs) ms d)) (dm : Nat) (hSP : ∀ b p, p ∈ SP b → p.1.2.2.2.1.length = ns ∧ ∀ d, d < dm → zb_Sum T len (rf_SA LL xs) ms zb_J0 b p d) (hT0 : 0 < T0) : zb_Sum T len (rf_SA LL xs) ms J b p dm := by
  intro ρP As' σ post hdm ham hlg hJ hpost
  have h1 := an_and hc
  have h2 := an_and h1.2
  have h3 := an_and h2.2
  have hdq : (T0 : Int) + 1 ≤ zb_ev ρP p.2.2.2.1 := by
    have g := h2.1
    unfold zb_dq at g
    split at g
    case h_2 => cases g
    case h_1 q hq =>
    obtain ⟨z, z1, z2⟩ := zb_eq_ok0 (ρ0 := ρP) ham.1 (Nat.le_refl _) (zb_ag_refl _ _) hq
    have g := zb_le_of g
    have g2 := zb_eb_ok (a := p.2.2.2.1.1) (c := p.2.2.2.1.2.2) z1
    omega
  obtain ⟨d1, hd1⟩ : ∃ d1 : Nat, (d1 : Int) + 1 + (T0 : Int) = zb_ev ρP p.2.2.2.1 := ⟨(zb_ev ρP p.2.2.2.1 - 1 - T0).toNat, by omega⟩
  have hd2 : (zb_ev ρP p.2.2.2.1).toNat = (d1 + T0) + 1 := by omega
  obtain ⟨mi', hmi', hml⟩ := hlg
  rw [hmi] at hmi'
  cases hmi'
  have hS := zb_S_ok (T := T) (len := len) (ns := ns) (n0 := p.1.1.1.length) (σ0 := σ) (wl := p.2.2.2.2) hloc hlc (hX ρP σ (d1 + 1) hJ) (fun b p hp => ⟨(hSP b p hp).1, (hSP b p hp).2 (d1 + 1) (by omega)⟩) hd1
  have hH : zb_H (zb_has p.2.2.2.2) p.1.1.1.length ρP σ p.1.1.1.length ρP σ := ⟨Nat.le_refl _, zb_ag_refl _ _, fun _ _ => rfl⟩
  have hW := zb_seg_ok (sl := (false, sp)) (u := 0) (v := 0) hlen hLL hloc hlc (fun h => by cases h) h1.1 hS (Nat.zero_le _) (Nat.zero_le _) hpost h3.1 ham hH (fun q hq ρ1 L1 st1 σ1 c1 c2 _ => zb_core hlen hLL hloc hlc (fun h => by cases h) h1.1 hS (Nat.zero_le _) (Nat.zero_le _) hpost h3.2 _ q hq ρ1 L1 st1 σ1 rfl c1 c2)
  obtain ⟨n, hn⟩ := hW
  rw [hd2]
  exact ⟨mi, hmi, hml, n, hn⟩
/-- a method of a table: of less depth all is known -/
def zb_Ind (T : zb_T) (len ns : Nat) (SA : rf_A) (ms : List rf_M) (SP : Nat → List zb_Sp) (b : Nat) (p : zb_Sp) : Prop := ∀ dm, (∀ b p, p ∈ SP b → p.1.2.2.2.1.length = ns ∧ ∀ d, d < dm → zb_Sum T len SA ms zb_J0 b p d) → zb_Sum T len SA ms zb_J0 b p dm
theorem zb_ind_t {SP : Nat → List zb_Sp} {mi : rf_M} {F t0 b : Nat} {sp : List Nat} {p : zb_Sp} (hlen : len ≤ 1000000) (hLL : LL < 2 ^ 31) (hloc : zb_loc T loc) (hlc : zb_lc2 T loc ns) (ht : 0 < t0) (hmi : ms[b]? = some mi) (hc : zb_chk T (false, sp) ms SP (fun _ => none) F t0 ns mi p = true) : zb_Ind T len ns (rf_SA LL xs) ms SP b p := by
  intro dm h
  refine zb_meth hlen hLL hloc hlc hmi hc (fun ρ0 σ0 d _ => ?_) dm h ht
  intro b env As D rs As' σ post N ρ h
  cases h
theorem zb_ind_h {SP : Nat → List zb_Sp} {b : Nat} {p : zb_Sp} (h : ∀ d, zb_Sum T len (rf_SA LL xs) ms zb_J0 b p d) : zb_Ind T len ns (rf_SA LL xs) ms SP b p := fun dm _ => h dm
/-- all methods of a table -/
theorem zb_all {SP : Nat → List zb_Sp} (hSP : ∀ b p, p ∈ SP b → p.1.2.2.2.1.length = ns ∧ zb_Ind T len ns (rf_SA LL xs) ms SP b p) : ∀ d b p, p ∈ SP b → zb_Sum T len (rf_SA LL xs) ms zb_J0 b p d := by
  intro d
  induction d using Nat.strongRecOn with
  | ind d ih =>
    intro b p hp
    exact (hSP b p hp).2 d (fun b p hp => ⟨(hSP b p hp).1, fun e he => ih e he b p hp⟩)
end
