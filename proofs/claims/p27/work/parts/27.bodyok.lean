/-! a body that comes to its ends in boxes comes to them on the abstract machine -/
/-- what was at the entry: its numbers by name, its store where nothing may be written -/
def zb_H (wr : Nat → Bool) (n0 : Nat) (ρ0 : Nat → Int) (σ0 : rf_S) (N : Nat) (ρ : Nat → Int) (σ : rf_S) : Prop := n0 ≤ N ∧ zb_ag n0 ρ0 ρ ∧ ∀ q, wr q = false → σ[q]? = σ0[q]?
theorem zb_H_next {wr : Nat → Bool} {n0 : Nat} {ρ0 : Nat → Int} {σ0 : rf_S} {N M : Nat} {ρ ρ' : Nat → Int} {σ σ1 : rf_S} (h : zb_H wr n0 ρ0 σ0 N ρ σ) (hN : N ≤ M) (hr : zb_ag N ρ ρ') (hf : ∀ q, wr q = false → σ1[q]? = σ[q]?) : zb_H wr n0 ρ0 σ0 M ρ' σ1 := ⟨Nat.le_trans h.1 hN, zb_ag_trans h.1 h.2.1 hr, fun q hq => (hf q hq).trans (h.2.2 q hq)⟩
/-- what is known of calls covers a relation of calls -/
def zb_cov (T : zb_T) (len : Nat) (wr : Nat → Bool) (n0 : Nat) (ρ0 : Nat → Int) (σ0 : rf_S) (K : zb_Kt) (C : zb_K) : Prop :=
  ∀ (b : Nat) (env : zb_N) (As : List an_V) (D : zb_D) (rs : zb_R) (As' : List Value) (σ : rf_S) (post : rf_P) (N : Nat) (ρ : Nat → Int), K b env As D = some rs → zb_en N ρ env → zb_gl N ρ As As' → zb_ss T len D N ρ σ → zb_H wr n0 ρ0 σ0 N ρ σ →
    (∀ r, r ∈ rs → ∀ M ρ', N ≤ M → zb_ag N ρ ρ' → zb_en M ρ' r.1 → ∀ (rv : Option Value) (σ1 : rf_S), zb_gl M ρ' r.2.1.toList rv.toList → zb_ss T len r.2.2 M ρ' σ1 → (∀ q, wr q = false → σ1[q]? = σ[q]?) → post rv σ1) → C b As' σ post
section
variable {T : zb_T} {len : Nat} {wr : Nat → Bool} {sl : Bool × List Nat} {LL : Nat} {xs : Nat → Int32} {loc : Nat → Nat × Nat} {n0 : Nat} {ρ0 : Nat → Int} {σ0 : rf_S} {ms : List rf_M} {C : zb_K} {K : zb_Kt}
theorem zb_nm_ok {N : Nat} {ρ : Nat → Int} {env : zb_N} {st : List an_V} {st' : List Value} (he : zb_en N ρ env) (hst : zb_gl N ρ st st') : ∃ M ρ', N ≤ M ∧ zb_ag N ρ ρ' ∧ zb_en M ρ' (zb_nm env st).1 ∧ zb_gl M ρ' (zb_nm env st).2 st' := by
  have triv : ∃ M ρ', N ≤ M ∧ zb_ag N ρ ρ' ∧ zb_en M ρ' env ∧ zb_gl M ρ' st st' := ⟨N, ρ, Nat.le_refl _, zb_ag_refl _ _, he, hst⟩
  unfold zb_nm
  split
  case h_2 => exact triv
  case h_1 lo hi r =>
    cases hc : zb_le hi lo with
    | true => exact triv
    | false =>
      obtain ⟨w, r1, rfl, ⟨x, rfl, x1, x2⟩, w2⟩ := zb_gl_cons hst
      have hag : zb_ag N ρ (zb_ru ρ N x.toInt) := zb_ru_ag _
      refine ⟨N + 1, zb_ru ρ N x.toInt, Nat.le_succ _, hag, zb_en_app (fs := []) he x1 x2 (fun f hf => absurd hf List.not_mem_nil), ⟨?_, x, rfl, ?_⟩, zb_gl_ext (Nat.le_succ _) hag w2⟩
      · rw [he.1]; show N < N + 1; omega
      · rw [he.1]
        show _ = zb_ru ρ N x.toInt N + 0
        rw [zb_ru_at]
        omega
theorem zb_nml_ok {N : Nat} {ρ : Nat → Int} {env : zb_N} {L : zb_L} {L' : rf_L} (b : Nat) (he : zb_en N ρ env) (hL : zb_gL N ρ L L') : ∃ M ρ', N ≤ M ∧ zb_ag N ρ ρ' ∧ zb_en M ρ' (zb_nml env L b).1 ∧ zb_gL M ρ' (zb_nml env L b).2 L' := by
  have triv : ∃ M ρ', N ≤ M ∧ zb_ag N ρ ρ' ∧ zb_en M ρ' env ∧ zb_gL M ρ' L L' := ⟨N, ρ, Nat.le_refl _, zb_ag_refl _ _, he, hL⟩
  unfold zb_nml
  split
  case h_2 => exact triv
  case h_1 lo hi hg =>
    cases hc : zb_le hi lo with
    | true => exact triv
    | false =>
      obtain ⟨w, w0, x, rfl, x1, x2⟩ := hL b _ hg
      have hag : zb_ag N ρ (zb_ru ρ N x.toInt) := zb_ru_ag _
      refine ⟨N + 1, zb_ru ρ N x.toInt, Nat.le_succ _, hag, zb_en_app (fs := []) he x1 x2 (fun f hf => absurd hf List.not_mem_nil), fun i v hv => ?_⟩
      rcases zb_get_upd hv with ⟨rfl, rfl⟩ | ⟨h1, h2⟩
      · refine ⟨_, w0, ?_, x, rfl, ?_⟩
        · rw [he.1]; show N < N + 1; omega
        · rw [he.1]
          show _ = zb_ru ρ N x.toInt N + 0
          rw [zb_ru_at]
          omega
      · obtain ⟨y, y1, y2⟩ := hL i v h2
        exact ⟨y, y1, zb_g_ext (Nat.le_succ _) hag y2⟩
theorem zb_recv_ok {N : Nat} {ρ : Nat → Int} {kind ci : Nat} {As : List an_V} {As' : List Value} {D : zb_D} {σ : rf_S} (hA : zb_gl N ρ As As') (hσ : zb_ss T len D N ρ σ) (h : zb_recv T kind ci As = true) : rf_recv kind ci As' σ = true := by
  match kind, h with
  | 0, _ => rfl
  | 1, h =>
    rcases As with _ | ⟨a, As0⟩
    · cases h
    · obtain ⟨v1, r1, rfl, h2, h3⟩ := zb_gl_cons hA
      have h := an_and h
      obtain ⟨r, m1, rfl⟩ := zb_g_R h2 h.1
      have h4 := List.all_eq_true.mp h.2 r m1
      split at h4
      case h_2 => cases h4
      case h_1 cj ds ht =>
      obtain ⟨fs, f1, -⟩ := zb_ss_obj hσ ht
      simp only [rf_recv, f1]
      exact h4
  | k + 2, h => cases h
theorem zb_narrow {z : Int32} (h : z.toInt = 0 ∨ z.toInt = 1) : narrow .boolean (.int z) = .int z := by
  rcases h with h | h
  · have e : z = 0 := Int32.toInt_inj.mp h
    subst e
    decide
  · have e : z = 1 := Int32.toInt_inj.mp h
    subst e
    decide
theorem zb_rok_inv {env : zb_N} {op : Nat} {ret : Option FieldType} {st : List an_V} (h : zb_rok env op ret st = true) : (op = 47 ∧ st = []) ∨ (∃ v, op = 48 ∧ st = [v] ∧ zb_rok1 env ret v = true) ∨ (∃ v, op = 49 ∧ st = [v] ∧ zb_isL v = true) ∨ (∃ v, op = 50 ∧ st = [v] ∧ zb_isR v = true) := by
  unfold zb_rok at h
  split at h
  · exact Or.inl ⟨rfl, rfl⟩
  · exact Or.inr (Or.inl ⟨_, rfl, rfl, h⟩)
  · exact Or.inr (Or.inr (Or.inl ⟨_, rfl, rfl, h⟩))
  · exact Or.inr (Or.inr (Or.inr ⟨_, rfl, rfl, h⟩))
  · cases h
theorem zb_body_ok {mi : rf_M} {stop : Nat → Bool} {u v : Nat} {post : rf_P} (hlen : len ≤ 1000000) (hLL : LL < 2 ^ 31) (hloc : zb_loc T loc) (hsl : sl.1 = true → zb_hs LL xs n0 ρ0) (hC : zb_mon C) (hD : zb_det C) (hK : zb_cov T len wr n0 ρ0 σ0 K C) (hu : u ≤ mi.2.1.2.2.1) (hv : v ≤ mi.2.1.2.2.2.1) :
    ∀ (n : Nat) (go : Bool) (c : zb_C) (cs : List (Bool × zb_C)) (N : Nat) (ρ : Nat → Int) (L' : rf_L) (st' : List Value) (σ : rf_S), zb_body T wr sl ms K mi stop n go c = some cs → zb_en N ρ c.1 → zb_gL N ρ c.2.2.1 L' → zb_gl N ρ c.2.2.2.1 st' → zb_ss T len c.2.2.2.2 N ρ σ → zb_H wr n0 ρ0 σ0 N ρ σ →
      (∀ e, (true, e) ∈ cs → ∀ M ρ' (rv : Option Value) (σ1 : rf_S), zb_en M ρ' e.1 → zb_gl M ρ' e.2.2.2.1 rv.toList → zb_ss T len e.2.2.2.2 M ρ' σ1 → N ≤ M → zb_ag N ρ ρ' → (∀ q, wr q = false → σ1[q]? = σ[q]?) → post rv σ1) →
      (∀ e, (false, e) ∈ cs → ∀ M ρ' L1 st1 σ1, zb_en M ρ' e.1 → zb_gL M ρ' e.2.2.1 L1 → zb_gl M ρ' e.2.2.2.1 st1 → zb_ss T len e.2.2.2.2 M ρ' σ1 → N ≤ M → zb_ag N ρ ρ' → (∀ q, wr q = false → σ1[q]? = σ[q]?) → stop e.2.1 = true → zb_W (rf_SA LL xs) ms C mi e.2.1 L1 st1 σ1 u v post) →
      zb_W (rf_SA LL xs) ms C mi c.2.1 L' st' σ u v post := by
  intro n
  induction n with
  | zero => intro go c cs N ρ L' st' σ h; cases h
  | succ n ih =>
    intro go c cs N ρ L' st' σ h he hL hst hσ hH hret hstop
    obtain ⟨env, pc, L, st, D⟩ := c
    have h : (bif go then zb_go T wr sl ms K mi (zb_body T wr sl ms K mi stop n false) env pc L st D else bif stop pc then some [(false, (env, pc, L, st, D))] else zb_go T wr sl ms K mi (zb_body T wr sl ms K mi stop n false) env pc L st D) = some cs := h
    have main : zb_go T wr sl ms K mi (zb_body T wr sl ms K mi stop n false) env pc L st D = some cs → zb_W (rf_SA LL xs) ms C mi pc L' st' σ u v post := by
      clear h
      intro h
      unfold zb_go at h
      cases hE : mi.2.2 pc with
      | none => rw [hE] at h; cases h
      | some E =>
      rw [hE] at h
      dsimp only at h
      -- the ways on, once they are known
      have next : ∀ (ws : List zb_C) (N1 : Nat) (ρ1 : Nat → Int) (st2 : List Value), an_all (zb_body T wr sl ms K mi stop n false) ws = some cs → N ≤ N1 → zb_ag N ρ ρ1 → zb_In T len wr N1 ρ1 (rf_SA LL xs) E ws L' st2 σ → ¬ E.1 = 46 → ¬ (39 ≤ E.1 ∧ E.1 ≤ 41) → ¬ 47 ≤ E.1 → zb_W (rf_SA LL xs) ms C mi pc L' st2 σ u v post := by
        intro ws N1 ρ1 st2 hws hN1 hr1 hin h46 hal h47
        obtain ⟨w, w1, M, ρ', hM, hag, g1, r, g2, g3, g4, g5, g6, g7⟩ := hin
        obtain ⟨cs1, k1, k2⟩ := an_all_ok hws w w1
        obtain ⟨pc1, L1, st1, σ1⟩ := r
        dsimp only at g3 g4 g5 g6 g7
        subst g3
        refine zb_W_step hE h46 hal h47 g2 ?_
        have hag2 := zb_ag_trans hN1 hr1 hag
        refine ih false w cs1 M ρ' L1 st1 σ1 k1 g1 g4 g5 g6 (zb_H_next hH (Nat.le_trans hN1 hM) hag2 g7) (fun e he2 M2 ρ2 rv σ2 a1 a2 a3 a4 a5 a6 => ?_) (fun e he2 M2 ρ2 L2 st2 σ2 a1 a2 a3 a4 a5 a6 a7 a8 => ?_)
        · exact hret e (k2 _ he2) M2 ρ2 rv σ2 a1 a2 a3 (by omega) (zb_ag_trans (Nat.le_trans hN1 hM) hag2 a5) (fun q hq => (a6 q hq).trans (g7 q hq))
        · exact hstop e (k2 _ he2) M2 ρ2 L2 st2 σ2 a1 a2 a3 a4 (by omega) (zb_ag_trans (Nat.le_trans hN1 hM) hag2 a6) (fun q hq => (a7 q hq).trans (g7 q hq)) a8
      have hslN : ∀ N1 ρ1, N ≤ N1 → zb_ag N ρ ρ1 → sl.1 = true → zb_hs LL xs N1 ρ1 := fun N1 ρ1 hN1 hr1 hs => zb_hs_ext hN1 hr1 (zb_hs_ext hH.1 hH.2.1 (hsl hs))
      cases c46 : Nat.beq E.1 46 with
      | true =>
        have h46 : E.1 = 46 := Nat.eq_of_beq_eq_true c46
        rw [c46, cond_true] at h
        rw [zb_nth_eq] at h
        split at h
        case h_1 => cases h
        case h_2 mj hmj =>
        obtain ⟨hc, h⟩ := zb_cond h
        have c1 := an_and hc
        have c2 := an_and c1.2
        have c3 := an_and c2.2
        have c4 := an_and c3.2
        have z1 : mj.2.1.2.2.1 = 0 := Nat.eq_of_beq_eq_true c4.1
        have z2 : mj.2.1.2.2.2.1 = 0 := Nat.eq_of_beq_eq_true c4.2
        have g1 := zb_gl_take (k := E.2.2.2.1) hst
        have g2 := zb_gl_drop (k := E.2.2.2.1) hst
        obtain ⟨rs, hk, h⟩ := zb_bnd_some h
        refine zb_W_call hD hC hE h46 hmj ?_ ?_ (zb_recv_ok (zb_gl_rev g1) hσ c3.1) (by rw [z1]; exact hu) (by rw [z2]; exact hv) ?_
        · rw [← zb_gl_len hst]; exact Nat.le_of_ble_eq_true c1.1
        · rw [← zb_gl_cat g2]; exact Nat.le_of_ble_eq_true c2.1
        · refine hK _ _ _ _ rs _ _ _ N ρ hk he (zb_gl_rev g1) hσ hH (fun r hr M ρ' hM hag her rv σ1 hrv hσ1 hfr => ?_)
          obtain ⟨cs1, k1, k2⟩ := an_all_ok h r hr
          rw [z1, z2]
          refine ⟨by rw [hσ1.1, hσ.1], ?_⟩
          refine ih false (r.1, E.2.2.2.2.2.1, L, r.2.1.toList ++ st.drop E.2.2.2.1, r.2.2) cs1 M ρ' L' (rv.toList ++ st'.drop E.2.2.2.1) σ1 k1 her (zb_gL_ext hM hag hL) (zb_gl_app hrv (zb_gl_ext hM hag g2)) hσ1 (zb_H_next hH hM hag hfr) (fun e he2 M2 ρ2 rv σ2 a1 a2 a3 a4 a5 a6 => ?_) (fun e he2 M2 ρ2 L2 st2 σ2 a1 a2 a3 a4 a5 a6 a7 a8 => ?_)
          · exact hret e (k2 _ he2) M2 ρ2 rv σ2 a1 a2 a3 (by omega) (zb_ag_trans hM hag a5) (fun q hq => (a6 q hq).trans (hfr q hq))
          · exact hstop e (k2 _ he2) M2 ρ2 L2 st2 σ2 a1 a2 a3 a4 (by omega) (zb_ag_trans hM hag a6) (fun q hq => (a7 q hq).trans (hfr q hq)) a8
      | false =>
        have h46 : ¬ E.1 = 46 := fun q => by rw [q] at c46; cases c46
        rw [c46, cond_false] at h
        cases c47 : Nat.ble 47 E.1 with
        | true =>
          have h47 : 47 ≤ E.1 := Nat.le_of_ble_eq_true c47
          have hal : ¬ (39 ≤ E.1 ∧ E.1 ≤ 41) := fun q => by omega
          rw [c47, cond_true] at h
          obtain ⟨hr, h⟩ := zb_cond h
          cases h
          refine zb_W_ret hE h46 hal h47 hu hv ?_
          have hpost := fun rv => hret (env, pc, L, st, D) List.mem_cons_self N ρ rv σ he
          rcases zb_rok_inv hr with ⟨e1, e2⟩ | ⟨a, e1, e2, h2⟩ | ⟨a, e1, e2, h2⟩ | ⟨a, e1, e2, h2⟩
          · subst e2
            have := zb_gl_nil hst
            subst this
            rw [e1]
            exact hpost none trivial hσ (Nat.le_refl _) (zb_ag_refl _ _) (fun _ _ => rfl)
          · subst e2
            obtain ⟨w, r1, rfl, k1, k2⟩ := zb_gl_cons hst
            have := zb_gl_nil k2
            subst this
            rw [e1]
            unfold zb_rok1 at h2
            split at h2
            case h_1 e2 =>
              obtain ⟨z, rfl⟩ := zb_g_I k1 h2
              rw [e2]
              exact ⟨rfl, hpost (some (.int z)) ⟨k1, trivial⟩ hσ (Nat.le_refl _) (zb_ag_refl _ _) (fun _ _ => rfl)⟩
            case h_2 e2 =>
              split at h2
              case h_2 => cases h2
              case h_1 q hq =>
              obtain ⟨z, rfl, gz⟩ := zb_pi_ok he hq k1
              have h2 := an_and h2
              have p1 := zb_le_of h2.1
              have p2 := zb_le_of h2.2
              have q1 := gz.1
              have q2 := gz.2.1
              rw [e2]
              exact ⟨zb_narrow (by omega), hpost (some (.int z)) ⟨k1, trivial⟩ hσ (Nat.le_refl _) (zb_ag_refl _ _) (fun _ _ => rfl)⟩
            case h_3 => cases h2
          · subst e2
            obtain ⟨w, r1, rfl, k1, k2⟩ := zb_gl_cons hst
            have := zb_gl_nil k2
            subst this
            rw [e1]
            obtain ⟨z, rfl⟩ := zb_g_Lo k1 h2
            exact hpost (some (.long z)) ⟨k1, trivial⟩ hσ (Nat.le_refl _) (zb_ag_refl _ _) (fun _ _ => rfl)
          · subst e2
            obtain ⟨w, r1, rfl, k1, k2⟩ := zb_gl_cons hst
            have := zb_gl_nil k2
            subst this
            rw [e1]
            obtain ⟨z, -, rfl⟩ := zb_g_R k1 h2
            exact hpost (some (.ref z)) ⟨k1, trivial⟩ hσ (Nat.le_refl _) (zb_ag_refl _ _) (fun _ _ => rfl)
        | false =>
          have h47 : ¬ 47 ≤ E.1 := fun q => by rw [Nat.ble_eq_true_of_le q] at c47; cases c47
          rw [c47, cond_false] at h
          have hal : ∀ (e : zb_N) (L1 : zb_L) (s : List an_V) (ws : List zb_C), zb_stp T wr sl E e L1 s D = some ws → ¬ (39 ≤ E.1 ∧ E.1 ≤ 41) := by
            intro e L1 s ws hs q
            obtain ⟨op, a, b, cc, x, nxt, sw⟩ := E
            have q : 39 ≤ op ∧ op ≤ 41 := q
            have : op = 39 ∨ op = 40 ∨ op = 41 := by omega
            rcases this with rfl | rfl | rfl <;> cases hs
          cases c2 : (Nat.beq E.1 2 || Nat.beq E.1 8) with
          | true =>
            rw [c2, cond_true] at h
            obtain ⟨ws, h1, h2⟩ := zb_bnd_some h
            obtain ⟨N1, ρ1, m1, m2, m3, m4⟩ := zb_nml_ok E.2.2.1 he hL
            exact next ws N1 ρ1 st' h2 m1 m2 (zb_stp_ok hlen hLL hloc (hslN N1 ρ1 m1 m2) m3 m4 (zb_gl_ext m1 m2 hst) (zb_ss_ext m1 m2 hσ) h1) h46 (hal _ _ _ _ h1) h47
          | false =>
          rw [c2, cond_false] at h
          cases c5 : (Nat.beq E.1 5 || (Nat.beq E.1 30 || Nat.beq E.1 33)) with
          | true =>
            rw [c5, cond_true] at h
            obtain ⟨ws, h1, h2⟩ := zb_bnd_some h
            obtain ⟨N1, ρ1, m1, m2, m3, m4⟩ := zb_nm_ok he hst
            exact next ws N1 ρ1 st' h2 m1 m2 (zb_stp_ok hlen hLL hloc (hslN N1 ρ1 m1 m2) m3 (zb_gL_ext m1 m2 hL) m4 (zb_ss_ext m1 m2 hσ) h1) h46 (hal _ _ _ _ h1) h47
          | false =>
            rw [c5, cond_false] at h
            obtain ⟨ws, h1, h2⟩ := zb_bnd_some h
            exact next ws N ρ st' h2 (Nat.le_refl _) (zb_ag_refl _ _) (zb_stp_ok hlen hLL hloc (hslN N ρ (Nat.le_refl _) (zb_ag_refl _ _)) he hL hst hσ h1) h46 (hal _ _ _ _ h1) h47
    cases go with
    | true => exact main h
    | false =>
      cases hs : stop pc with
      | true =>
        rw [cond_false, hs, cond_true] at h
        cases h
        exact hstop _ List.mem_cons_self N ρ L' st' σ he hL hst hσ (Nat.le_refl _) (zb_ag_refl _ _) (fun _ _ => rfl) hs
      | false =>
        rw [cond_false, hs, cond_false] at h
        exact main h
/-! calls gone into -/
theorem zb_arg_ok {N : Nat} {ρ : Nat → Int} : ∀ {As : List an_V} {As' : List Value} (i j : Nat) (v : an_V), zb_gl N ρ As As' → zb_get (zb_arg As) j = some v → ∃ w, rf_get (lv_args i As') (i + j) = some w ∧ zb_g N ρ v w
  | [], _, i, j, v, _, h => by
    unfold zb_get at h
    rw [zb_nth_eq] at h
    simp [zb_arg] at h
  | _ :: _, [], _, _, _, h, _ => h.elim
  | a :: as, x :: xs, i, j, v, hg, h => by
    have hct := zb_g_ct hg.1
    have hle : ∀ k, 1 ≤ k → rf_get (lv_args i (x :: xs)) (i + k) = rf_get (lv_args (i + x.category) xs) (i + k) := fun k hk => by
      have e1 : lv_args i (x :: xs) = (i, x) :: lv_args (i + x.category) xs := by
        rcases lv_cat x with hc | hc
        · show (i, x) :: lv_args (if x.category = 2 then i + 2 else i + 1) xs = _
          rw [if_neg (by omega), hc]
        · show (i, x) :: lv_args (if x.category = 2 then i + 2 else i + 1) xs = _
          rw [if_pos hc, hc]
      rw [e1]
      unfold rf_get
      rw [List.find?_cons]
      have : ((i, x).1 == i + k) = false := by
        show (i == i + k) = false
        rw [beq_eq_false_iff_ne]
        omega
      rw [this]
    unfold zb_get at h
    rw [zb_nth_eq] at h
    cases hc : Nat.beq (an_ct a) 2 with
    | true =>
      have h2 : an_ct a = 2 := Nat.eq_of_beq_eq_true hc
      rw [show zb_arg (a :: as) = some a :: none :: zb_arg as by show (bif Nat.beq (an_ct a) 2 then some a :: none :: zb_arg as else some a :: zb_arg as) = _; rw [hc]; rfl] at h
      match j, h with
      | 0, h =>
        cases h
        exact ⟨x, by show rf_get ((i, x) :: _) (i + 0) = some x; unfold rf_get; rw [List.find?_cons]; simp, hg.1⟩
      | 1, h => cases h
      | j + 2, h =>
        obtain ⟨w, w1, w2⟩ := zb_arg_ok (i + 2) j v hg.2 (by unfold zb_get; rw [zb_nth_eq]; exact h)
        refine ⟨w, ?_, w2⟩
        rw [hle (j + 2) (by omega), ← hct, h2, show i + (j + 2) = i + 2 + j by omega]
        exact w1
    | false =>
      have h2 : x.category = 1 := by
        rcases lv_cat x with hq | hq
        · exact hq
        · rw [hct, hq] at hc; cases hc
      rw [show zb_arg (a :: as) = some a :: zb_arg as by show (bif Nat.beq (an_ct a) 2 then some a :: none :: zb_arg as else some a :: zb_arg as) = _; rw [hc]; rfl] at h
      match j, h with
      | 0, h =>
        cases h
        exact ⟨x, by show rf_get ((i, x) :: _) (i + 0) = some x; unfold rf_get; rw [List.find?_cons]; simp, hg.1⟩
      | j + 1, h =>
        obtain ⟨w, w1, w2⟩ := zb_arg_ok (i + 1) j v hg.2 (by unfold zb_get; rw [zb_nth_eq]; exact h)
        refine ⟨w, ?_, w2⟩
        rw [hle (j + 1) (by omega), h2, show i + (j + 1) = i + 1 + j by omega]
        exact w1
theorem zb_get_pad {L : zb_L} {n i : Nat} {v : an_V} (h : zb_get (L ++ List.replicate n none) i = some v) : zb_get L i = some v := by
  unfold zb_get at h ⊢
  rw [zb_nth_eq] at h ⊢
  by_cases hi : i < L.length
  · rw [List.getElem?_append_left hi] at h
    exact h
  · rw [List.getElem?_append_right (by omega), List.getElem?_replicate] at h
    split at h
    case h_1 o ho =>
      split at ho
      case isTrue => cases ho; cases h
      case isFalse => cases ho
    case h_2 => cases h
theorem zb_lgs_ok {N : Nat} {ρ : Nat → Int} : ∀ {As : List an_V} {As' : List Value}, zb_gl N ρ As As' → (lg_sl As').length = an_lgs As
  | [], [], _ => rfl
  | _ :: _, [], h => h.elim
  | [], _ :: _, h => h.elim
  | a :: as, v :: vs, h => by
    have ih := zb_lgs_ok h.2
    unfold lg_sl an_lgs at *
    rw [List.flatMap_cons, List.length_append, ih, List.map_cons, List.sum_cons, zb_g_ct h.1]
    rcases lv_cat v with hc | hc
    · rw [if_neg (by omega), hc]; rfl
    · rw [if_pos hc, hc]; rfl
abbrev zb_St : Type := Nat → Option (zb_N → List an_V → zb_D → Option zb_R)
/-- what is known of one method holds of calls -/
def zb_sok (T : zb_T) (len : Nat) (wr : Nat → Bool) (n0 : Nat) (ρ0 : Nat → Int) (σ0 : rf_S) (S : zb_St) (C : zb_K) : Prop := zb_cov T len wr n0 ρ0 σ0 (fun b env As D => match S b with
  | some f => f env As D
  | none => none) C
theorem zb_run_ok {S : zb_St} {F d1 : Nat} (hlen : len ≤ 1000000) (hLL : LL < 2 ^ 31) (hloc : zb_loc T loc) (hsl : sl.1 = true → zb_hs LL xs n0 ρ0) (hS : zb_sok T len wr n0 ρ0 σ0 S (rf_run (rf_SA LL xs) ms (d1 + 1))) : ∀ t : Nat, zb_cov T len wr n0 ρ0 σ0 (zb_run T wr sl ms S F t) (rf_run (rf_SA LL xs) ms (d1 + t)) := by
  intro t
  induction t with
  | zero => intro b env As D rs As' σ post N ρ h; cases h
  | succ t ih =>
    intro b env As D rs As' σ post N ρ h he hA hσ hH hpost
    have h : (match S b with
      | some f => f env As D
      | none => (match zb_nth ms b with
        | none => none
        | some mi => bif Nat.ble (an_lgs As) mi.1.2.2.1 then
            zb_bnd (zb_body T wr sl ms (zb_run T wr sl ms S F t) mi (fun _ => false) F true (env, 0, zb_arg As ++ List.replicate mi.1.2.2.1 none, [], D)) fun cs => bif cs.all (fun c => c.1) then some (cs.map fun c => (c.2.1, c.2.2.2.2.1.head?, c.2.2.2.2.2)) else none
          else none)) = some rs := h
    cases hb : S b with
    | some f =>
      rw [hb] at h
      have h2 := hS b env As D rs As' σ post N ρ (by dsimp only; rw [hb]; exact h) he hA hσ hH hpost
      exact rf_run_le (by omega) h2
    | none =>
      rw [hb] at h
      dsimp only at h
      rw [zb_nth_eq] at h
      split at h
      case h_1 => cases h
      case h_2 mi hmi =>
      obtain ⟨hc, h⟩ := zb_cond h
      obtain ⟨cs, hcs, h⟩ := zb_bnd_some h
      obtain ⟨hall, h⟩ := zb_cond h
      cases h
      have hW := zb_body_ok (xs := xs) (post := post) (u := 0) (v := 0) hlen hLL hloc hsl (fun b As σ p q => rf_run_post _ _ _ b As σ p q) (rf_run_det _ _ _) ih (Nat.zero_le _) (Nat.zero_le _) F true (env, 0, zb_arg As ++ List.replicate mi.1.2.2.1 none, [], D) cs N ρ (lv_args 0 As') [] σ hcs he (fun i v hv => by
          obtain ⟨w, w1, w2⟩ := zb_arg_ok 0 i v hA (zb_get_pad hv)
          rw [Nat.zero_add] at w1
          exact ⟨w, w1, w2⟩) trivial hσ hH (fun e he2 M ρ' rv σ1 a1 a2 a3 a4 a5 a6 => by
          refine hpost (e.1, e.2.2.2.1.head?, e.2.2.2.2) (List.mem_map.mpr ⟨(true, e), he2, rfl⟩) M ρ' a4 a5 a1 rv σ1 ?_ a3 a6
          cases hst : e.2.2.2.1 with
          | nil => rw [hst] at a2; exact a2
          | cons x r =>
            rw [hst] at a2
            cases rv with
            | none => exact a2.elim
            | some y => exact ⟨a2.1, trivial⟩) (fun e he2 => by
          exact absurd (List.all_eq_true.mp hall _ he2) Bool.false_ne_true)
      obtain ⟨m, hm⟩ := hW
      rw [show d1 + (t + 1) = (d1 + t) + 1 by omega]
      exact ⟨mi, hmi, by rw [zb_lgs_ok hA]; exact Nat.le_of_ble_eq_true hc, m, hm⟩
end
