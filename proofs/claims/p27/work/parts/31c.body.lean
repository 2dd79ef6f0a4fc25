/-! the outer engine: bodies, calls gone into -/
section
variable {N : Nat} {ρ : Nat → Int}
theorem zc_cmpL_ok {env : zb_N} {qx qy : zb_q} {x y : Int64} (b : Nat) (he : zb_en N ρ env) (hx : zb_qk N ρ qx x.toInt) (hy : zb_qk N ρ qy y.toInt) : ∃ w, w ∈ zb_cmp b env qx qy ∧ w.1 = rf_cmp b (lg_cmp x y) 0 ∧ zb_en N ρ w.2 := by
  have key : x.toInt < y.toInt ∨ x.toInt = y.toInt ∨ y.toInt < x.toInt := by omega
  have hl := an_lcmp (z := x) (y := y)
  rcases key with h | h | h
  · rw [hl.2.2 h]
    obtain ⟨e, h1, h2⟩ := zb_asl_ok (d := -1) he hx hy (by omega)
    obtain ⟨e', h3, h4⟩ := zb_asl_ok (d := 0) he hx hy (by omega)
    match b with
    | 0 => exact ⟨(false, e), List.mem_append.mpr (Or.inr (List.mem_append.mpr (Or.inl (zb_ol_mem h1)))), by show false = rf_cmp 0 (-1 : Int32) 0; decide, h2⟩
    | 1 => exact ⟨(true, e), List.mem_append.mpr (Or.inr (List.mem_append.mpr (Or.inl (zb_ol_mem h1)))), by show true = rf_cmp 1 (-1 : Int32) 0; decide, h2⟩
    | 2 => exact ⟨(true, e), List.mem_append.mpr (Or.inl (zb_ol_mem h1)), by show true = rf_cmp 2 (-1 : Int32) 0; decide, h2⟩
    | 3 => exact ⟨(false, e), List.mem_append.mpr (Or.inr (zb_ol_mem h1)), by show false = rf_cmp 3 (-1 : Int32) 0; decide, h2⟩
    | 4 => exact ⟨(false, e'), List.mem_append.mpr (Or.inr (zb_ol_mem h3)), by show false = rf_cmp 4 (-1 : Int32) 0; decide, h4⟩
    | b + 5 => exact ⟨(true, e'), List.mem_append.mpr (Or.inl (zb_ol_mem h3)), by show true = decide ((-1 : Int32) ≤ 0); decide, h4⟩
  · rw [hl.2.1 h]
    obtain ⟨e, h1, h2⟩ := zb_aeq_ok he hx hy h
    obtain ⟨e', h3, h4⟩ := zb_asl_ok (d := 0) he hx hy (by omega)
    obtain ⟨e2, h5, h6⟩ := zb_asl_ok (d := 0) he hy hx (by omega)
    match b with
    | 0 => exact ⟨(true, e), List.mem_append.mpr (Or.inl (zb_ol_mem h1)), by show true = rf_cmp 0 (0 : Int32) 0; decide, h2⟩
    | 1 => exact ⟨(false, e), List.mem_append.mpr (Or.inl (zb_ol_mem h1)), by show false = rf_cmp 1 (0 : Int32) 0; decide, h2⟩
    | 2 => exact ⟨(false, e2), List.mem_append.mpr (Or.inr (zb_ol_mem h5)), by show false = rf_cmp 2 (0 : Int32) 0; decide, h6⟩
    | 3 => exact ⟨(true, e2), List.mem_append.mpr (Or.inl (zb_ol_mem h5)), by show true = rf_cmp 3 (0 : Int32) 0; decide, h6⟩
    | 4 => exact ⟨(false, e'), List.mem_append.mpr (Or.inr (zb_ol_mem h3)), by show false = rf_cmp 4 (0 : Int32) 0; decide, h4⟩
    | b + 5 => exact ⟨(true, e'), List.mem_append.mpr (Or.inl (zb_ol_mem h3)), by show true = decide ((0 : Int32) ≤ 0); decide, h4⟩
  · rw [hl.1 h]
    obtain ⟨e, h1, h2⟩ := zb_asl_ok (d := -1) he hy hx (by omega)
    obtain ⟨e', h3, h4⟩ := zb_asl_ok (d := 0) he hy hx (by omega)
    match b with
    | 0 => exact ⟨(false, e), List.mem_append.mpr (Or.inr (List.mem_append.mpr (Or.inr (zb_ol_mem h1)))), by show false = rf_cmp 0 (1 : Int32) 0; decide, h2⟩
    | 1 => exact ⟨(true, e), List.mem_append.mpr (Or.inr (List.mem_append.mpr (Or.inr (zb_ol_mem h1)))), by show true = rf_cmp 1 (1 : Int32) 0; decide, h2⟩
    | 2 => exact ⟨(false, e'), List.mem_append.mpr (Or.inr (zb_ol_mem h3)), by show false = rf_cmp 2 (1 : Int32) 0; decide, h4⟩
    | 3 => exact ⟨(true, e'), List.mem_append.mpr (Or.inl (zb_ol_mem h3)), by show true = rf_cmp 3 (1 : Int32) 0; decide, h4⟩
    | 4 => exact ⟨(true, e), List.mem_append.mpr (Or.inl (zb_ol_mem h1)), by show true = rf_cmp 4 (1 : Int32) 0; decide, h2⟩
    | b + 5 => exact ⟨(false, e), List.mem_append.mpr (Or.inr (zb_ol_mem h1)), by show false = decide ((1 : Int32) ≤ 0); decide, h2⟩
end
abbrev zc_R : Type := List ((zb_N × Option an_V × zb_D) × zc_G)
abbrev zc_Kt : Type := Nat → zb_N → List an_V → zb_D → zc_G → Option zc_R
abbrev zc_B : Type := Option (List (Bool × zc_C))
/-- two longs compared, and the way told by that -/
noncomputable def zc_lc (E2 : rf_E) (env : zb_N) (L : zb_L) (st : List an_V) (D : zb_D) (G : zc_G) : zc_Rs := match st with
  | y :: z :: r => zb_bnd (zb_pl env z) fun qz => zb_bnd (zb_pl env y) fun qy => some ((zb_cmp E2.2.2.1 env qz qy).map fun w => ((w.2, (bif w.1 then E2.2.2.2.1 else E2.2.2.2.2.2.1), L, r, D), G))
  | _ => none
noncomputable def zc_go (T : zb_T) (wr : Nat → Bool) (sl : Bool × List Nat) (ms : List rf_M) (K : zc_Kt) (mi : rf_M) (k : zc_C → zc_B) (env : zb_N) (pc : Nat) (L : zb_L) (st : List an_V) (D : zb_D) (G : zc_G) : zc_B :=
  match mi.2.2 pc with
  | none => none
  | some E => bif Nat.beq E.1 46 then
      (match zb_nth ms E.2.2.1 with
      | none => none
      | some mj => bif Nat.ble E.2.2.2.1 st.length && (Nat.ble (an_cat (st.drop E.2.2.2.1)) 8 && (zb_recv T mj.2.1.1 mj.2.1.2.2.2.2.1 (st.take E.2.2.2.1).reverse && (Nat.beq mj.2.1.2.2.1 0 && Nat.beq mj.2.1.2.2.2.1 0))) then
          zb_bnd (K E.2.2.1 env (st.take E.2.2.2.1).reverse D G) fun rs => an_all (fun r => k ((r.1.1, E.2.2.2.2.2.1, L, r.1.2.1.toList ++ st.drop E.2.2.2.1, r.1.2.2), r.2)) rs
        else none)
    else bif Nat.ble 47 E.1 then (bif zb_rok env E.1 mi.1.2.2.2.1 st then some [(true, ((env, pc, L, st, D), G))] else none)
    else bif Nat.beq E.1 2 || Nat.beq E.1 8 then zb_bnd (zc_stp T wr sl E (zb_nml env L E.2.2.1).1 (zb_nml env L E.2.2.1).2 st D G) fun ws => an_all k ws
    else bif Nat.beq E.1 5 || (Nat.beq E.1 30 || Nat.beq E.1 33) then zb_bnd (zc_stp T wr sl E (zb_nm env st).1 L (zb_nm env st).2 D G) fun ws => an_all k ws
    else bif Nat.beq E.1 19 then (match mi.2.2 E.2.2.2.2.2.1 with
      | some E2 => bif Nat.beq E2.1 25 then zb_bnd (zc_lc E2 env L st D G) fun ws => an_all k ws else zb_bnd (zc_stp T wr sl E env L st D G) fun ws => an_all k ws
      | none => none)
    else zb_bnd (zc_stp T wr sl E env L st D G) fun ws => an_all k ws
noncomputable def zc_body (T : zb_T) (wr : Nat → Bool) (sl : Bool × List Nat) (ms : List rf_M) (K : zc_Kt) (mi : rf_M) (stop : Nat → Bool) (n : Nat) : Bool → zc_C → zc_B :=
  Nat.rec (motive := fun _ => Bool → zc_C → zc_B) (fun _ _ => none) (fun _ ih go c => bif go then zc_go T wr sl ms K mi (ih false) c.1.1 c.1.2.1 c.1.2.2.1 c.1.2.2.2.1 c.1.2.2.2.2 c.2 else bif stop c.1.2.1 then some [(false, c)] else zc_go T wr sl ms K mi (ih false) c.1.1 c.1.2.1 c.1.2.2.1 c.1.2.2.2.1 c.1.2.2.2.2 c.2) n
abbrev zc_St : Type := Nat → Option (zb_N → List an_V → zb_D → zc_G → Option zc_R)
/-- the ends of a method gone into: its returns -/
noncomputable def zc_rets (cs : List (Bool × zc_C)) : Option zc_R := bif cs.all (fun c => c.1) then some (cs.map fun c => ((c.2.1.1, c.2.1.2.2.2.1.head?, c.2.1.2.2.2.2), c.2.2)) else none
noncomputable def zc_run (T : zb_T) (wr : Nat → Bool) (sl : Bool × List Nat) (ms : List rf_M) (S : zc_St) (F : Nat) (t : Nat) : zc_Kt :=
  Nat.rec (motive := fun _ => zc_Kt) (fun _ _ _ _ _ => none) (fun _ ih b env As D G => match S b with
    | some f => f env As D G
    | none => (match zb_nth ms b with
      | none => none
      | some mi => bif Nat.ble (an_lgs As) mi.1.2.2.1 then
          zb_bnd (zc_body T wr sl ms ih mi (fun _ => false) F true ((env, 0, zb_arg As ++ List.replicate mi.1.2.2.1 none, [], D), G)) zc_rets
        else none)) t
/-- what is known of calls covers a relation of calls -/
def zc_cov (T : zb_T) (len : Nat) (wr : Nat → Bool) (n0 : Nat) (ρ0 : Nat → Int) (σ0 : rf_S) (f0 g0 : Nat → Int) (K : zc_Kt) (C : zb_K) : Prop :=
  ∀ (b : Nat) (env : zb_N) (As : List an_V) (D : zb_D) (G : zc_G) (rs : zc_R) (As' : List Value) (σ : rf_S) (post : rf_P) (N : Nat) (ρ : Nat → Int), K b env As D G = some rs → zb_en N ρ env → zb_gl N ρ As As' → zb_ss T len D N ρ σ → zb_H (zc_wf wr) n0 ρ0 σ0 N ρ σ → zc_GR N ρ f0 g0 G σ →
    (∀ r, r ∈ rs → ∀ M ρ', N ≤ M → zb_ag N ρ ρ' → zb_en M ρ' r.1.1 → ∀ (rv : Option Value) (σ1 : rf_S), zb_gl M ρ' r.1.2.1.toList rv.toList → zb_ss T len r.1.2.2 M ρ' σ1 → (∀ q, zc_wf wr q = false → σ1[q]? = σ[q]?) → zc_GR M ρ' f0 g0 r.2 σ1 → post rv σ1) → C b As' σ post
section
variable {T : zb_T} {len : Nat} {wr : Nat → Bool} {sl : Bool × List Nat} {LL : Nat} {xs : Nat → Int32} {loc : Nat → Nat × Nat} {n0 : Nat} {ρ0 : Nat → Int} {σ0 : rf_S} {ms : List rf_M} {C : zb_K} {K : zc_Kt} {f0 g0 : Nat → Int}
theorem zc_body_ok {mi : rf_M} {stop : Nat → Bool} {u v : Nat} {post : rf_P} (hlen : len ≤ 1000000) (hLL : LL < 2 ^ 31) (hloc : zb_loc T loc) (hsl : sl.1 = true → zb_hs LL xs n0 ρ0) (h86 : 86 ≤ n0) (hT : zc_T T) (hCI : zc_CI ρ0 f0 g0) (h61 : wr 61 = false) (h88 : wr 88 = false) (hC : zb_mon C) (hD : zb_det C) (hK : zc_cov T len wr n0 ρ0 σ0 f0 g0 K C) (hu : u ≤ mi.2.1.2.2.1) (hv : v ≤ mi.2.1.2.2.2.1) :
    ∀ (n : Nat) (go : Bool) (c : zc_C) (cs : List (Bool × zc_C)) (N : Nat) (ρ : Nat → Int) (L' : rf_L) (st' : List Value) (σ : rf_S), zc_body T wr sl ms K mi stop n go c = some cs → zb_en N ρ c.1.1 → zb_gL N ρ c.1.2.2.1 L' → zb_gl N ρ c.1.2.2.2.1 st' → zb_ss T len c.1.2.2.2.2 N ρ σ → zb_H (zc_wf wr) n0 ρ0 σ0 N ρ σ → zc_GR N ρ f0 g0 c.2 σ →
      (∀ e, (true, e) ∈ cs → ∀ M ρ' (rv : Option Value) (σ1 : rf_S), zb_en M ρ' e.1.1 → zb_gl M ρ' e.1.2.2.2.1 rv.toList → zb_ss T len e.1.2.2.2.2 M ρ' σ1 → N ≤ M → zb_ag N ρ ρ' → (∀ q, zc_wf wr q = false → σ1[q]? = σ[q]?) → zc_GR M ρ' f0 g0 e.2 σ1 → post rv σ1) →
      (∀ e, (false, e) ∈ cs → ∀ M ρ' L1 st1 σ1, zb_en M ρ' e.1.1 → zb_gL M ρ' e.1.2.2.1 L1 → zb_gl M ρ' e.1.2.2.2.1 st1 → zb_ss T len e.1.2.2.2.2 M ρ' σ1 → N ≤ M → zb_ag N ρ ρ' → (∀ q, zc_wf wr q = false → σ1[q]? = σ[q]?) → zc_GR M ρ' f0 g0 e.2 σ1 → stop e.1.2.1 = true → zb_W (rf_SA LL xs) ms C mi e.1.2.1 L1 st1 σ1 u v post) →
      zb_W (rf_SA LL xs) ms C mi c.1.2.1 L' st' σ u v post := by
  intro n
  induction n with
  | zero => intro go c cs N ρ L' st' σ h; cases h
  | succ n ih =>
    intro go c cs N ρ L' st' σ h he hL hst hσ hH hG hret hstop
    obtain ⟨⟨env, pc, L, st, D⟩, G⟩ := c
    have h : (bif go then zc_go T wr sl ms K mi (zc_body T wr sl ms K mi stop n false) env pc L st D G else bif stop pc then some [(false, ((env, pc, L, st, D), G))] else zc_go T wr sl ms K mi (zc_body T wr sl ms K mi stop n false) env pc L st D G) = some cs := h
    have main : zc_go T wr sl ms K mi (zc_body T wr sl ms K mi stop n false) env pc L st D G = some cs → zb_W (rf_SA LL xs) ms C mi pc L' st' σ u v post := by
      clear h
      intro h
      unfold zc_go at h
      cases hE : mi.2.2 pc with
      | none => rw [hE] at h; cases h
      | some E =>
      rw [hE] at h
      dsimp only at h
      have next : ∀ (ws : List zc_C) (N1 : Nat) (ρ1 : Nat → Int) (st2 : List Value), an_all (zc_body T wr sl ms K mi stop n false) ws = some cs → N ≤ N1 → zb_ag N ρ ρ1 → zc_In T len wr N1 ρ1 f0 g0 (rf_SA LL xs) E ws L' st2 σ → ¬ E.1 = 46 → ¬ (39 ≤ E.1 ∧ E.1 ≤ 41) → ¬ 47 ≤ E.1 → zb_W (rf_SA LL xs) ms C mi pc L' st2 σ u v post := by
        intro ws N1 ρ1 st2 hws hN1 hr1 hin h46 hal h47
        obtain ⟨w, w1, M, ρ', hM, hag, g1, r, g2, g3, g4, g5, g6, g7, g8⟩ := hin
        obtain ⟨cs1, k1, k2⟩ := an_all_ok hws w w1
        obtain ⟨pc1, L1, st1, σ1⟩ := r
        dsimp only at g3 g4 g5 g6 g7 g8
        subst g3
        refine zb_W_step hE h46 hal h47 g2 ?_
        have hag2 := zb_ag_trans hN1 hr1 hag
        refine ih false w cs1 M ρ' L1 st1 σ1 k1 g1 g4 g5 g6 (zb_H_next hH (Nat.le_trans hN1 hM) hag2 g7) g8 (fun e he2 M2 ρ2 rv σ2 a1 a2 a3 a4 a5 a6 a7 => ?_) (fun e he2 M2 ρ2 L2 st2 σ2 a1 a2 a3 a4 a5 a6 a7 a8 a9 => ?_)
        · exact hret e (k2 _ he2) M2 ρ2 rv σ2 a1 a2 a3 (by omega) (zb_ag_trans (Nat.le_trans hN1 hM) hag2 a5) (fun q hq => (a6 q hq).trans (g7 q hq)) a7
        · exact hstop e (k2 _ he2) M2 ρ2 L2 st2 σ2 a1 a2 a3 a4 (by omega) (zb_ag_trans (Nat.le_trans hN1 hM) hag2 a6) (fun q hq => (a7 q hq).trans (g7 q hq)) a8 a9
      have hslN : ∀ N1 ρ1, N ≤ N1 → zb_ag N ρ ρ1 → sl.1 = true → zb_hs LL xs N1 ρ1 := fun N1 ρ1 hN1 hr1 hs => zb_hs_ext hN1 hr1 (zb_hs_ext hH.1 hH.2.1 (hsl hs))
      have hn0N : n0 ≤ N := hH.1
      have hCIN : ∀ N1 ρ1, N ≤ N1 → zb_ag N ρ ρ1 → zc_CI ρ1 f0 g0 := fun N1 ρ1 hN1 hr1 => zc_CI_ext hr1 (by omega) (zc_CI_ext hH.2.1 h86 hCI)
      have hGN : ∀ N1 ρ1, N ≤ N1 → zb_ag N ρ ρ1 → zc_GR N1 ρ1 f0 g0 G σ := fun N1 ρ1 hN1 hr1 => zc_GR_ext hN1 hr1 rfl rfl hG
      cases c46 : Nat.beq E.1 46 with
      | true =>
        have h46 : E.1 = 46 := Nat.eq_of_beq_eq_true c46
        rw [c46, cond_true] at h
        rw [zb_nth_eq] at h
        split at h
        case h_1 => cases h
        case h_2 mj hmj =>
        obtain ⟨hc, h⟩ := zb_cond h
        have c1 := an_and hc
        have c2 := an_and c1.2
        have c3 := an_and c2.2
        have c4 := an_and c3.2
        have z1 : mj.2.1.2.2.1 = 0 := Nat.eq_of_beq_eq_true c4.1
        have z2 : mj.2.1.2.2.2.1 = 0 := Nat.eq_of_beq_eq_true c4.2
        have g1 := zb_gl_take (k := E.2.2.2.1) hst
        have g2 := zb_gl_drop (k := E.2.2.2.1) hst
        obtain ⟨rs, hk, h⟩ := zb_bnd_some h
        refine zb_W_call hD hC hE h46 hmj ?_ ?_ (zb_recv_ok (zb_gl_rev g1) hσ c3.1) (by rw [z1]; exact hu) (by rw [z2]; exact hv) ?_
        · rw [← zb_gl_len hst]; exact Nat.le_of_ble_eq_true c1.1
        · rw [← zb_gl_cat g2]; exact Nat.le_of_ble_eq_true c2.1
        · refine hK _ _ _ _ _ rs _ _ _ N ρ hk he (zb_gl_rev g1) hσ hH hG (fun r hr M ρ' hM hag her rv σ1 hrv hσ1 hfr hG1 => ?_)
          obtain ⟨cs1, k1, k2⟩ := an_all_ok h r hr
          rw [z1, z2]
          refine ⟨by rw [hσ1.1, hσ.1], ?_⟩
          refine ih false ((r.1.1, E.2.2.2.2.2.1, L, r.1.2.1.toList ++ st.drop E.2.2.2.1, r.1.2.2), r.2) cs1 M ρ' L' (rv.toList ++ st'.drop E.2.2.2.1) σ1 k1 her (zb_gL_ext hM hag hL) (zb_gl_app hrv (zb_gl_ext hM hag g2)) hσ1 (zb_H_next hH hM hag hfr) hG1 (fun e he2 M2 ρ2 rv σ2 a1 a2 a3 a4 a5 a6 a7 => ?_) (fun e he2 M2 ρ2 L2 st2 σ2 a1 a2 a3 a4 a5 a6 a7 a8 a9 => ?_)
          · exact hret e (k2 _ he2) M2 ρ2 rv σ2 a1 a2 a3 (by omega) (zb_ag_trans hM hag a5) (fun q hq => (a6 q hq).trans (hfr q hq)) a7
          · exact hstop e (k2 _ he2) M2 ρ2 L2 st2 σ2 a1 a2 a3 a4 (by omega) (zb_ag_trans hM hag a6) (fun q hq => (a7 q hq).trans (hfr q hq)) a8 a9
      | false =>
        have h46 : ¬ E.1 = 46 := fun q => by rw [q] at c46; cases c46
        rw [c46, cond_false] at h
        cases c47 : Nat.ble 47 E.1 with
        | true =>
          have h47 : 47 ≤ E.1 := Nat.le_of_ble_eq_true c47
          have hal : ¬ (39 ≤ E.1 ∧ E.1 ≤ 41) := fun q => by omega
          rw [c47, cond_true] at h
          obtain ⟨hr, h⟩ := zb_cond h
          cases h
          refine zb_W_ret hE h46 hal h47 hu hv ?_
          have hpost := fun rv (g : zb_gl N ρ st rv.toList) => hret ((env, pc, L, st, D), G) List.mem_cons_self N ρ rv σ he g hσ (Nat.le_refl _) (zb_ag_refl _ _) (fun _ _ => rfl) hG
          rcases zb_rok_inv hr with ⟨e1, e2⟩ | ⟨a, e1, e2, h2⟩ | ⟨a, e1, e2, h2⟩ | ⟨a, e1, e2, h2⟩
          · subst e2
            have := zb_gl_nil hst
            subst this
            rw [e1]
            exact hpost none trivial
          · subst e2
            obtain ⟨w, r1, rfl, k1, k2⟩ := zb_gl_cons hst
            have := zb_gl_nil k2
            subst this
            rw [e1]
            unfold zb_rok1 at h2
            split at h2
            case h_1 e2 =>
              obtain ⟨z, rfl⟩ := zb_g_I k1 h2
              rw [e2]
              exact ⟨rfl, hpost (some (.int z)) ⟨k1, trivial⟩⟩
            case h_2 e2 =>
              split at h2
              case h_2 => cases h2
              case h_1 q hq =>
              obtain ⟨z, rfl, gz⟩ := zb_pi_ok he hq k1
              have h2 := an_and h2
              have p1 := zb_le_of h2.1
              have p2 := zb_le_of h2.2
              have q1 := gz.1
              have q2 := gz.2.1
              rw [e2]
              exact ⟨zb_narrow (by omega), hpost (some (.int z)) ⟨k1, trivial⟩⟩
            case h_3 => cases h2
          · subst e2
            obtain ⟨w, r1, rfl, k1, k2⟩ := zb_gl_cons hst
            have := zb_gl_nil k2
            subst this
            rw [e1]
            obtain ⟨z, rfl⟩ := zb_g_Lo k1 h2
            exact hpost (some (.long z)) ⟨k1, trivial⟩
          · subst e2
            obtain ⟨w, r1, rfl, k1, k2⟩ := zb_gl_cons hst
            have := zb_gl_nil k2
            subst this
            rw [e1]
            obtain ⟨z, -, rfl⟩ := zb_g_R k1 h2
            exact hpost (some (.ref z)) ⟨k1, trivial⟩
        | false =>
          have h47 : ¬ 47 ≤ E.1 := fun q => by rw [Nat.ble_eq_true_of_le q] at c47; cases c47
          rw [c47, cond_false] at h
          have hal : ∀ (e : zb_N) (L1 : zb_L) (s : List an_V) (ws : List zc_C), zc_stp T wr sl E e L1 s D G = some ws → ¬ (39 ≤ E.1 ∧ E.1 ≤ 41) := by
            intro e L1 s ws hs q
            obtain ⟨op, a, b, cc, x, nxt, sw⟩ := E
            have q : 39 ≤ op ∧ op ≤ 41 := q
            have : op = 39 ∨ op = 40 ∨ op = 41 := by omega
            rcases this with rfl | rfl | rfl <;> cases hs
          cases c2 : (Nat.beq E.1 2 || Nat.beq E.1 8) with
          | true =>
            rw [c2, cond_true] at h
            obtain ⟨ws, h1, h2⟩ := zb_bnd_some h
            obtain ⟨N1, ρ1, m1, m2, m3, m4⟩ := zb_nml_ok E.2.2.1 he hL
            exact next ws N1 ρ1 st' h2 m1 m2 (zc_stp_ok hlen hLL hloc (hslN N1 ρ1 m1 m2) (by omega) hT (hCIN N1 ρ1 m1 m2) h61 h88 m3 m4 (zb_gl_ext m1 m2 hst) (zb_ss_ext m1 m2 hσ) (hGN N1 ρ1 m1 m2) h1) h46 (hal _ _ _ _ h1) h47
          | false =>
          rw [c2, cond_false] at h
          cases c5 : (Nat.beq E.1 5 || (Nat.beq E.1 30 || Nat.beq E.1 33)) with
          | true =>
            rw [c5, cond_true] at h
            obtain ⟨ws, h1, h2⟩ := zb_bnd_some h
            obtain ⟨N1, ρ1, m1, m2, m3, m4⟩ := zb_nm_ok he hst
            exact next ws N1 ρ1 st' h2 m1 m2 (zc_stp_ok hlen hLL hloc (hslN N1 ρ1 m1 m2) (by omega) hT (hCIN N1 ρ1 m1 m2) h61 h88 m3 (zb_gL_ext m1 m2 hL) m4 (zb_ss_ext m1 m2 hσ) (hGN N1 ρ1 m1 m2) h1) h46 (hal _ _ _ _ h1) h47
          | false =>
            rw [c5, cond_false] at h
            have plain : ∀ ws, zc_stp T wr sl E env L st D G = some ws → an_all (zc_body T wr sl ms K mi stop n false) ws = some cs → zb_W (rf_SA LL xs) ms C mi pc L' st' σ u v post := fun ws h1 h2 =>
              next ws N ρ st' h2 (Nat.le_refl _) (zb_ag_refl _ _) (zc_stp_ok hlen hLL hloc (hslN N ρ (Nat.le_refl _) (zb_ag_refl _ _)) (by omega) hT (hCIN N ρ (Nat.le_refl _) (zb_ag_refl _ _)) h61 h88 he hL hst hσ hG h1) h46 (hal _ _ _ _ h1) h47
            cases c19 : Nat.beq E.1 19 with
            | false =>
              rw [c19, cond_false] at h
              obtain ⟨ws, h1, h2⟩ := zb_bnd_some h
              exact plain ws h1 h2
            | true =>
              rw [c19, cond_true] at h
              split at h
              case h_2 => cases h
              case h_1 E2 hE2 =>
              cases c25 : Nat.beq E2.1 25 with
              | false =>
                rw [c25, cond_false] at h
                obtain ⟨ws, h1, h2⟩ := zb_bnd_some h
                exact plain ws h1 h2
              | true =>
                rw [c25, cond_true] at h
                obtain ⟨ws, h1, h2⟩ := zb_bnd_some h
                have e19 : E.1 = 19 := Nat.eq_of_beq_eq_true c19
                have e25 : E2.1 = 25 := Nat.eq_of_beq_eq_true c25
                unfold zc_lc at h1
                split at h1
                case h_2 => cases h1
                case h_1 y z r hx1 =>
                obtain ⟨qz, z1, h1⟩ := zb_bnd_some h1
                obtain ⟨qy, y1, h1⟩ := zb_bnd_some h1
                cases h1
                obtain ⟨w1, r1, rfl, g1, g2⟩ := zb_gl_cons hst
                obtain ⟨w2, r2, rfl, g3, g4⟩ := zb_gl_cons g2
                obtain ⟨y0, rfl, gy⟩ := zb_pl_ok he y1 g1
                obtain ⟨z0, rfl, gz⟩ := zb_pl_ok he z1 g3
                obtain ⟨w, k1, k2, k3⟩ := zc_cmpL_ok E2.2.2.1 he gz gy
                obtain ⟨cs1, j1, j2⟩ := an_all_ok h2 _ (List.mem_map.mpr ⟨w, k1, rfl⟩)
                obtain ⟨op, ea, eb, ec, ex, nxt, sw⟩ := E
                obtain ⟨op2, ea2, eb2, ec2, ex2, nxt2, sw2⟩ := E2
                have e19 : op = 19 := e19
                have e25 : op2 = 25 := e25
                subst e19
                subst e25
                refine zb_W_step (pc' := nxt) (L' := L') (st' := .int (lg_cmp z0 y0) :: r2) (σ' := σ) hE h46 (by show ¬ (39 ≤ (19 : Nat) ∧ (19 : Nat) ≤ 41); decide) h47 rfl ?_
                refine zb_W_step (pc' := bif w.1 then ec2 else nxt2) (L' := L') (st' := r2) (σ' := σ) hE2 (by show ¬ (25 : Nat) = 46; decide) (by show ¬ (39 ≤ (25 : Nat) ∧ (25 : Nat) ≤ 41); decide) (by show ¬ 47 ≤ (25 : Nat); decide) (by simp only [rf_stp, k2]) ?_
                refine ih false ((w.2, (bif w.1 then ec2 else nxt2), L, r, D), G) cs1 N ρ L' r2 σ j1 k3 hL g4 hσ hH hG (fun e he2 M2 ρ2 rv σ2 a1 a2 a3 a4 a5 a6 a7 => ?_) (fun e he2 M2 ρ2 L2 st2 σ2 a1 a2 a3 a4 a5 a6 a7 a8 a9 => ?_)
                · exact hret e (j2 _ he2) M2 ρ2 rv σ2 a1 a2 a3 a4 a5 a6 a7
                · exact hstop e (j2 _ he2) M2 ρ2 L2 st2 σ2 a1 a2 a3 a4 a5 a6 a7 a8 a9
    cases go with
    | true => exact main h
    | false =>
      cases hs : stop pc with
      | true =>
        rw [cond_false, hs, cond_true] at h
        cases h
        exact hstop _ List.mem_cons_self N ρ L' st' σ he hL hst hσ (Nat.le_refl _) (zb_ag_refl _ _) (fun _ _ => rfl) hG hs
      | false =>
        rw [cond_false, hs, cond_false] at h
        exact main h
/-- a method gone into, its ends returns or stops; u = v = 0 -/
theorem zc_meth {F b d : Nat} {mi : rf_M} {stop : Nat → Bool} {env : zb_N} {As : List an_V} {D : zb_D} {G : zc_G} {cs : List (Bool × zc_C)} {As' : List Value} {σ : rf_S} {post : rf_P} {N : Nat} {ρ : Nat → Int} (hlen : len ≤ 1000000) (hLL : LL < 2 ^ 31) (hloc : zb_loc T loc) (hsl : sl.1 = true → zb_hs LL xs n0 ρ0) (h86 : 86 ≤ n0) (hT : zc_T T) (hCI : zc_CI ρ0 f0 g0) (h61 : wr 61 = false) (h88 : wr 88 = false) (hK : zc_cov T len wr n0 ρ0 σ0 f0 g0 K (rf_run (rf_SA LL xs) ms d)) (hmi : ms[b]? = some mi) (hlg : Nat.ble (an_lgs As) mi.1.2.2.1 = true)
    (h : zc_body T wr sl ms K mi stop F true ((env, 0, zb_arg As ++ List.replicate mi.1.2.2.1 none, [], D), G) = some cs) (he : zb_en N ρ env) (hA : zb_gl N ρ As As') (hσ : zb_ss T len D N ρ σ) (hH : zb_H (zc_wf wr) n0 ρ0 σ0 N ρ σ) (hG : zc_GR N ρ f0 g0 G σ)
    (hret : ∀ e, (true, e) ∈ cs → ∀ M ρ' (rv : Option Value) (σ1 : rf_S), zb_en M ρ' e.1.1 → zb_gl M ρ' e.1.2.2.2.1.head?.toList rv.toList → zb_ss T len e.1.2.2.2.2 M ρ' σ1 → N ≤ M → zb_ag N ρ ρ' → (∀ q, zc_wf wr q = false → σ1[q]? = σ[q]?) → zc_GR M ρ' f0 g0 e.2 σ1 → post rv σ1)
    (hstop : ∀ e, (false, e) ∈ cs → ∀ M ρ' L1 st1 σ1, zb_en M ρ' e.1.1 → zb_gL M ρ' e.1.2.2.1 L1 → zb_gl M ρ' e.1.2.2.2.1 st1 → zb_ss T len e.1.2.2.2.2 M ρ' σ1 → N ≤ M → zb_ag N ρ ρ' → (∀ q, zc_wf wr q = false → σ1[q]? = σ[q]?) → zc_GR M ρ' f0 g0 e.2 σ1 → stop e.1.2.1 = true → zb_W (rf_SA LL xs) ms (rf_run (rf_SA LL xs) ms d) mi e.1.2.1 L1 st1 σ1 0 0 post) : rf_run (rf_SA LL xs) ms (d + 1) b As' σ post := by
  have hW := zc_body_ok (xs := xs) (post := post) (u := 0) (v := 0) hlen hLL hloc hsl h86 hT hCI h61 h88 (fun b As σ p q => rf_run_post _ _ _ b As σ p q) (rf_run_det _ _ _) hK (Nat.zero_le _) (Nat.zero_le _) F true ((env, 0, zb_arg As ++ List.replicate mi.1.2.2.1 none, [], D), G) cs N ρ (lv_args 0 As') [] σ h he (fun i v hv => by
      obtain ⟨w, w1, w2⟩ := zb_arg_ok 0 i v hA (zb_get_pad hv)
      rw [Nat.zero_add] at w1
      exact ⟨w, w1, w2⟩) trivial hσ hH hG (fun e he2 M ρ' rv σ1 a1 a2 a3 a4 a5 a6 a7 => by
      refine hret e he2 M ρ' rv σ1 a1 ?_ a3 a4 a5 a6 a7
      cases hst : e.1.2.2.2.1 with
      | nil => rw [hst] at a2; exact a2
      | cons x r =>
        rw [hst] at a2
        cases rv with
        | none => exact a2.elim
        | some y => exact ⟨a2.1, trivial⟩) hstop
  obtain ⟨m, hm⟩ := hW
  exact ⟨mi, hmi, by rw [zb_lgs_ok hA]; exact Nat.le_of_ble_eq_true hlg, m, hm⟩
def zc_sok (T : zb_T) (len : Nat) (wr : Nat → Bool) (n0 : Nat) (ρ0 : Nat → Int) (σ0 : rf_S) (f0 g0 : Nat → Int) (S : zc_St) (C : zb_K) : Prop := zc_cov T len wr n0 ρ0 σ0 f0 g0 (fun b env As D G => match S b with
  | some f => f env As D G
  | none => none) C
theorem zc_run_ok {S : zc_St} {F d1 : Nat} (hlen : len ≤ 1000000) (hLL : LL < 2 ^ 31) (hloc : zb_loc T loc) (hsl : sl.1 = true → zb_hs LL xs n0 ρ0) (h86 : 86 ≤ n0) (hT : zc_T T) (hCI : zc_CI ρ0 f0 g0) (h61 : wr 61 = false) (h88 : wr 88 = false) (hS : zc_sok T len wr n0 ρ0 σ0 f0 g0 S (rf_run (rf_SA LL xs) ms (d1 + 1))) : ∀ t : Nat, zc_cov T len wr n0 ρ0 σ0 f0 g0 (zc_run T wr sl ms S F t) (rf_run (rf_SA LL xs) ms (d1 + t)) := by
  intro t
  induction t with
  | zero => intro b env As D G rs As' σ post N ρ h; cases h
  | succ t ih =>
    intro b env As D G rs As' σ post N ρ h he hA hσ hH hG hpost
    have h : (match S b with
      | some f => f env As D G
      | none => (match zb_nth ms b with
        | none => none
        | some mi => bif Nat.ble (an_lgs As) mi.1.2.2.1 then
            zb_bnd (zc_body T wr sl ms (zc_run T wr sl ms S F t) mi (fun _ => false) F true ((env, 0, zb_arg As ++ List.replicate mi.1.2.2.1 none, [], D), G)) zc_rets
          else none)) = some rs := h
    cases hb : S b with
    | some f =>
      rw [hb] at h
      have h2 := hS b env As D G rs As' σ post N ρ (by dsimp only; rw [hb]; exact h) he hA hσ hH hG hpost
      exact rf_run_le (by omega) h2
    | none =>
      rw [hb] at h
      dsimp only at h
      rw [zb_nth_eq] at h
      split at h
      case h_1 => cases h
      case h_2 mi hmi =>
      obtain ⟨hc, h⟩ := zb_cond h
      obtain ⟨cs, hcs, h⟩ := zb_bnd_some h
      obtain ⟨hall, h⟩ := zb_cond h
      cases h
      rw [show d1 + (t + 1) = (d1 + t) + 1 by omega]
      exact zc_meth hlen hLL hloc hsl h86 hT hCI h61 h88 ih hmi hc hcs he hA hσ hH hG (fun e he2 M ρ' rv σ1 a1 a2 a3 a4 a5 a6 a7 => hpost ((e.1.1, e.1.2.2.2.1.head?, e.1.2.2.2.2), e.2) (List.mem_map.mpr ⟨(true, e), he2, rfl⟩) M ρ' a4 a5 a1 rv σ1 a2 a3 a6 a7) (fun e he2 => absurd (List.all_eq_true.mp hall _ he2) Bool.false_ne_true)
end
