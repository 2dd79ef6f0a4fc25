/-! calls of methods of which something is known where the row holds each customer -/
section
variable {T : zb_T} {len ns : Nat} {sl : Bool × List Nat} {LL : Nat} {xs : Nat → Int32} {loc : Nat → Nat × Nat} {ms : List rf_M} {n0 : Nat} {ρ0 : Nat → Int} {σ0 : rf_S} {wl : List Nat}
theorem zb_use_okJ {J : (Nat → Int) → rf_S → Prop} {SA : rf_A} {p : zb_Sp} {b T0 d1 N : Nat} {dc : zb_E} {mi : rf_M} {env : zb_N} {As : List an_V} {D : zb_D} {rs : zb_R} {As' : List Value} {σ : rf_S} {post : rf_P} {ρ : Nat → Int} (hloc : zb_loc T loc) (hlc : zb_lc2 T loc ns) (hns : p.1.2.2.2.1.length = ns) (hS : zb_Sum T len SA ms J b p (d1 + 1)) (hJ : J (zb_rA loc 0 ρ p.1.2.2.2.2 (lv_args 0 As') [] σ) σ) (hmi : ms[b]? = some mi) (hd1 : (d1 : Int) + 1 + (T0 : Int) = zb_ev ρ0 dc) (he : zb_en N ρ env) (hA : zb_gl N ρ As As') (hσ : zb_ss T len D N ρ σ) (h0 : n0 ≤ N) (hag : zb_ag n0 ρ0 ρ) (h : zb_use n0 wl dc (T0 : Int) mi.1.2.2.1 p env As D = some rs)
    (hpost : ∀ r, r ∈ rs → ∀ M ρ', N ≤ M → zb_ag N ρ ρ' → zb_en M ρ' r.1 → ∀ (rv : Option Value) (σ1 : rf_S), zb_gl M ρ' r.2.1.toList rv.toList → zb_ss T len r.2.2 M ρ' σ1 → (∀ q, zb_has wl q = false → σ1[q]? = σ[q]?) → post rv σ1) : rf_run SA ms (d1 + 1) b As' σ post := by
  obtain ⟨ds, f1, f2⟩ := zb_bnd_some h
  obtain ⟨k1, k2⟩ := zb_cond f2
  have k3 := an_and k1
  have k4 := an_and k3.2
  have gL : zb_gL N ρ (zb_arg As) (lv_args 0 As') := fun i v hv => by
    obtain ⟨w, w1, w2⟩ := zb_arg_ok 0 i v hA hv
    rw [Nat.zero_add] at w1
    exact ⟨w, w1, w2⟩
  obtain ⟨hd, ham, hlenA⟩ := zb_fitA_ok (c := (env, 0, zb_arg As, [], D)) (st' := []) hloc hlc hns (Nat.zero_le N) he gL trivial hσ f1
  have hdep : zb_ev (zb_rA loc 0 ρ p.1.2.2.2.2 (lv_args 0 As') [] σ) p.2.2.2.1 + (T0 : Int) ≤ zb_ev ρ0 dc := by
    have g := k4.1
    unfold zb_dpc at g
    split at g
    case h_2 => cases g
    case h_1 q p' hq hp =>
    obtain ⟨z, z1, z2⟩ := zb_eq_ok he hd hq
    obtain ⟨w, w1, w2⟩ := zb_eq_ok0 he h0 hag hp
    rw [← z2, ← w2]
    exact zb_els_ok he g z1 w1
  have hdd : (zb_ev (zb_rA loc 0 ρ p.1.2.2.2.2 (lv_args 0 As') [] σ) p.2.2.2.1).toNat ≤ d1 + 1 := by omega
  refine rf_run_le hdd (hS _ As' σ post hdd ham ⟨mi, hmi, by rw [zb_lgs_ok hA]; exact Nat.le_of_ble_eq_true k3.1⟩ hJ (fun B hB MB ρB rv σ1 h1 h2 h3 h4 => ?_))
  rw [Nat.zero_add] at hlenA
  rw [hlenA] at h1 h2
  obtain ⟨r, r1, r2⟩ := zb_map_ok k2 B hB
  obtain ⟨g1, g2, g3⟩ := zb_pst_ok he hd h2 h1 r2 h3.1 h3.2.1 h3.2.2
  refine hpost r r1 _ _ (Nat.le_add_right _ _) zb_r2_ag g1 rv σ1 g2 g3 (fun q hq => h4 q ?_)
  cases hc : zb_has p.2.2.2.2 q with
  | false => rfl
  | true => rw [zb_every_ok k4.2 q (zb_has_ok hc)] at hq; cases hq
/-- scalars that have the names they had -/
noncomputable def zb_kp (ns o : Nat) (D : zb_D) (l : List Nat) : Bool := Nat.beq D.length ns && zb_every (fun s => match zb_nth D s with
  | some (.inr (0, k, c)) => zb_ieq k ((s + o : Nat) : Int) && zb_ieq c 0
  | _ => false) l
theorem zb_kp_ok {N o s : Nat} {ρ : Nat → Int} {D : zb_D} {l : List Nat} {L' : rf_L} {st' : List Value} {σ : rf_S} {srcs : List (Nat × Nat)} (hlc : zb_lc2 T loc ns) (hσ : zb_ss T len D N ρ σ) (h : zb_kp ns o D l = true) (hs : s ∈ l) (hsr : srcs[s]? = some (1, s)) : zb_rA loc 0 ρ srcs L' st' σ s = ρ (s + o) := by
  have h1 := an_and h
  have hD : D.length = ns := Nat.eq_of_beq_eq_true h1.1
  have h2 := zb_every_ok h1.2 s hs
  rw [zb_nth_eq] at h2
  split at h2
  case h_2 => cases h2
  case h_1 k c hk =>
  have h3 := an_and h2
  have e1 := zb_ieq_of h3.1
  have e2 := zb_ieq_of h3.2
  obtain ⟨w, w1, w2⟩ := zb_scal (L' := L') (st' := st') hlc hD hσ hk
  obtain ⟨-, x, rfl, hx⟩ := w2
  unfold zb_rA
  rw [if_neg (Nat.not_lt_zero _), Nat.sub_zero, hsr]
  show zb_int (zb_cw loc L' st' σ (1, s)) = _
  rw [w1]
  show x.toInt = _
  rw [hx, e1, e2, Int.toNat_natCast]
  omega
/-- known where the scalars of l have the names they had: number, locals, what is known -/
noncomputable def zb_XJ (ns o : Nat) (l : List Nat) (n0 : Nat) (wl : List Nat) (dc : zb_E) (T0 : Nat) (q : List (Nat × Nat × zb_Sp)) : zb_St :=
  List.rec (motive := fun _ => zb_St) (fun _ => none) (fun x _ ih b => bif Nat.beq b x.1 then some (fun env As D => bif zb_kp ns o D l then zb_use n0 wl dc (T0 : Int) x.2.1 x.2.2 env As D else none) else ih b) q
theorem zb_XJ_ok {SA : rf_A} {o d1 T0 : Nat} {dc : zb_E} {l : List Nat} {J : (Nat → Int) → rf_S → Prop} (hloc : zb_loc T loc) (hlc : zb_lc2 T loc ns) (hd1 : (d1 : Int) + 1 + (T0 : Int) = zb_ev ρ0 dc) : ∀ (q : List (Nat × Nat × zb_Sp)), (∀ x, x ∈ q → x.2.2.1.2.2.2.1.length = ns ∧ zb_Sum T len SA ms J x.1 x.2.2 (d1 + 1) ∧ (∃ mi, ms[x.1]? = some mi ∧ mi.1.2.2.1 = x.2.1) ∧ ∀ ρ1 σ1, (∀ s, s ∈ l → ρ1 s = ρ0 (s + o)) → J ρ1 σ1) → (∀ x, x ∈ q → ∀ s, s ∈ l → x.2.2.1.2.2.2.2[s]? = some (1, s)) → (∀ s, s ∈ l → s + o < n0) → zb_sok T len (zb_has wl) n0 ρ0 σ0 (zb_XJ ns o l n0 wl dc T0 q) (rf_run SA ms (d1 + 1)) := by
  intro q
  induction q with
  | nil => intro _ _ _ b env As D rs As' σ post N ρ h; cases h
  | cons x q ih =>
    intro hq hsr hn b env As D rs As' σ post N ρ h he hA hσ hH hpost
    have h : (match (bif Nat.beq b x.1 then some (fun env As D => bif zb_kp ns o D l then zb_use n0 wl dc (T0 : Int) x.2.1 x.2.2 env As D else none) else zb_XJ ns o l n0 wl dc T0 q b) with
      | some f => f env As D
      | none => none) = some rs := h
    cases hb : Nat.beq b x.1 with
    | false =>
      rw [hb, cond_false] at h
      exact ih (fun y hy => hq y (List.mem_cons_of_mem _ hy)) (fun y hy => hsr y (List.mem_cons_of_mem _ hy)) hn b env As D rs As' σ post N ρ h he hA hσ hH hpost
    | true =>
      have eb : b = x.1 := Nat.eq_of_beq_eq_true hb
      subst eb
      rw [hb, cond_true] at h
      obtain ⟨k1, k2⟩ := zb_cond h
      obtain ⟨q1, q2, ⟨mi, q3, q4⟩, q5⟩ := hq x List.mem_cons_self
      rw [← q4] at k2
      exact zb_use_okJ hloc hlc q1 q2 (q5 _ _ (fun s hs => (zb_kp_ok hlc hσ k1 hs (hsr x List.mem_cons_self s hs)).trans (hH.2.1 _ (hn s hs)))) q3 hd1 he hA hσ hH.1 hH.2.1 k2 hpost
/-- a method that the tests pass, with more known of some calls -/
theorem zb_methX {SP : Nat → List zb_Sp} {X : zb_St} {sp : List Nat} {F T0 b : Nat} {mi : rf_M} {p : zb_Sp} {J : (Nat → Int) → rf_S → Prop} (hlen : len ≤ 1000000) (hLL : LL < 2 ^ 31) (hloc : zb_loc T loc) (hlc : zb_lc2 T loc ns) (hmi : ms[b]? = some mi) (hc : zb_chk T (false, sp) ms SP X F T0 ns mi p = true) (hX : ∀ ρ0 σ0 (d : Nat), J ρ0 σ0 → (d : Int) + 1 + (T0 : Int) = zb_ev ρ0 p.2.2.2.1 → zb_sok T len (zb_has p.2.2.2.2) p.1.1.1.length ρ0 σ0 X (rf_run (rf_SA LL xs) ms (d + 1))) (dm : Nat) (hSP : ∀ b p, p ∈ SP b → p.1.2.2.2.1.length = ns ∧ ∀ d, d < dm → zb_Sum T len (rf_SA LL xs) ms zb_J0 b p d) (hT0 : 0 < T0) : zb_Sum T len (rf_SA LL xs) ms J b p dm := by
  intro ρP As' σ post hdm ham hlg hJ hpost
  have h1 := an_and hc
  have h2 := an_and h1.2
  have h3 := an_and h2.2
  have hdq : (T0 : Int) + 1 ≤ zb_ev ρP p.2.2.2.1 := by
    have g := h2.1
    unfold zb_dq at g
    split at g
    case h_2 => cases g
    case h_1 q hq =>
    obtain ⟨z, z1, z2⟩ := zb_eq_ok0 (ρ0 := ρP) ham.1 (Nat.le_refl _) (zb_ag_refl _ _) hq
    have g := zb_le_of g
    have g2 := zb_eb_ok (a := p.2.2.2.1.1) (c := p.2.2.2.1.2.2) z1
    omega
  obtain ⟨d1, hd1⟩ : ∃ d1 : Nat, (d1 : Int) + 1 + (T0 : Int) = zb_ev ρP p.2.2.2.1 := ⟨(zb_ev ρP p.2.2.2.1 - 1 - T0).toNat, by omega⟩
  have hd2 : (zb_ev ρP p.2.2.2.1).toNat = (d1 + T0) + 1 := by omega
  obtain ⟨mi', hmi', hml⟩ := hlg
  rw [hmi] at hmi'
  cases hmi'
  have hS := zb_S_ok (T := T) (len := len) (ns := ns) (n0 := p.1.1.1.length) (σ0 := σ) (wl := p.2.2.2.2) hloc hlc (hX ρP σ d1 hJ hd1) (fun b p hp => ⟨(hSP b p hp).1, (hSP b p hp).2 (d1 + 1) (by omega)⟩) hd1
  have hH : zb_H (zb_has p.2.2.2.2) p.1.1.1.length ρP σ p.1.1.1.length ρP σ := ⟨Nat.le_refl _, zb_ag_refl _ _, fun _ _ => rfl⟩
  have hW := zb_seg_ok (sl := (false, sp)) (u := 0) (v := 0) hlen hLL hloc hlc (fun h => by cases h) h1.1 hS (Nat.zero_le _) (Nat.zero_le _) hpost h3.1 ham hH (fun q hq ρ1 L1 st1 σ1 c1 c2 _ => zb_core hlen hLL hloc hlc (fun h => by cases h) h1.1 hS (Nat.zero_le _) (Nat.zero_le _) hpost h3.2 _ q hq ρ1 L1 st1 σ1 rfl c1 c2)
  obtain ⟨n, hn⟩ := hW
  rw [hd2]
  exact ⟨mi, hmi, hml, n, hn⟩
end
