/-! the constructors: a body in p1's boxes, without a count of steps -/
section
variable {SA : rf_A} {ms : List rf_M} {C : zb_K} {mi : rf_M} {pc : Nat} {L : rf_L} {st : List Value} {σ : rf_S} {u v : Nat} {post : rf_P} {E : rf_E}
theorem zb_W_callA {mj : rf_M} (hD : zb_det C) (hC : zb_mon C) (hE : mi.2.2 pc = some E) (h46 : E.1 = 46) (hm : ms[E.2.2.1]? = some mj) (h1 : E.2.2.2.1 ≤ st.length) (h2 : rf_cat (st.drop E.2.2.2.1) ≤ 8) (h3 : rf_recv mj.2.1.1 mj.2.1.2.2.2.2.1 (st.take E.2.2.2.1).reverse σ = true) (h4 : u + mj.2.1.2.2.1 ≤ mi.2.1.2.2.1) (h5 : v + mj.2.1.2.2.2.1 ≤ mi.2.1.2.2.2.1)
    (h6 : C E.2.2.1 (st.take E.2.2.2.1).reverse σ (fun rv σ1 => (σ1.length = σ.length ∨ rf_wfl σ.length L (st.drop E.2.2.2.1) = true) ∧ zb_W SA ms C mi E.2.2.2.2.2.1 L (rv.toList ++ st.drop E.2.2.2.1) σ1 (u + mj.2.1.2.2.1) (v + mj.2.1.2.2.2.1) post)) : zb_W SA ms C mi pc L st σ u v post := by
  obtain ⟨rv, σ1, ⟨hl, n, hn⟩, q⟩ := hD _ _ _ _ h6
  refine ⟨n + 1, ?_⟩
  unfold rf_wp
  rw [hE]
  dsimp only
  rw [if_pos h46, hm]
  refine ⟨h1, h2, h3, h4, h5, hC _ _ _ _ _ (fun r s hr => ?_) q⟩
  obtain ⟨e1, e2⟩ := hr
  subst e1
  subst e2
  exact ⟨hl, hn⟩
theorem zb_W_alc {r : List Value} {o : va_E} {w : Nat} (hE : mi.2.2 pc = some E) (h46 : ¬ E.1 = 46) (hal : 39 ≤ E.1 ∧ E.1 ≤ 41) (ha : rf_alc E st = some (r, o, w)) (h1 : σ.length < 1000000) (h2 : rf_wfs σ) (h3 : rf_wfl σ.length L r = true) (h4 : u + 1 ≤ mi.2.1.2.2.1) (h5 : v + w ≤ mi.2.1.2.2.2.1) (h6 : zb_W SA ms C mi E.2.2.2.2.2.1 L (.ref σ.length :: r) (σ ++ [o]) (u + 1) (v + w) post) : zb_W SA ms C mi pc L st σ u v post := by
  obtain ⟨n, hn⟩ := h6
  refine ⟨n + 1, ?_⟩
  unfold rf_wp
  rw [hE]
  dsimp only
  rw [if_neg h46, if_pos hal, ha]
  exact ⟨h1, h2, h3, h4, h5, hn⟩
end
section
variable {ρ : Nat → Int32} {LL LC : Nat} {xs : Nat → Int32}
theorem an_body_W {ms : List rf_M} {K : Nat → an_N → List an_V → an_S → Option an_R} {C : Nat → List Value → rf_S → rf_P → Prop} {mi : rf_M} {stop : Nat → Bool} (hρ : ∀ k, k < LL → ρ k = xs k) (hC : zb_mon C) (hD : zb_det C) (hK : an_cov ρ K C) {post : rf_P} :
    ∀ (n : Nat) (c : an_C) (cs : List (Bool × an_C)) (L' : rf_L) (st' : List Value) (σ' : rf_S), an_body LL ms K mi stop n c = some cs → an_gc ρ c L' st' σ' →
      (∀ e, (true, e) ∈ cs → ∀ rv σ1, an_ret ρ e rv σ1 → post rv σ1) →
      (∀ e, (false, e) ∈ cs → ∀ L1 st1 σ1, an_gc ρ e L1 st1 σ1 → zb_W (rf_SA LC xs) ms C mi e.2.1 L1 st1 σ1 e.2.2.2.2.2.1 e.2.2.2.2.2.2 post) →
      zb_W (rf_SA LC xs) ms C mi c.2.1 L' st' σ' c.2.2.2.2.2.1 c.2.2.2.2.2.2 post := by
  intro n
  induction n with
  | zero => intro c cs L' st' σ' h; cases h
  | succ n ih =>
    intro c cs L' st' σ' h hg hret hstop
    obtain ⟨env, pc, L, st, σ, u, v⟩ := c
    obtain ⟨he, hL, hst, hσ⟩ := id hg
    unfold an_body at h
    cases hs : stop pc with
    | true =>
      rw [hs, cond_true] at h
      cases h
      exact hstop _ List.mem_cons_self L' st' σ' hg
    | false =>
    rw [hs, cond_false] at h
    cases hE : mi.2.2 pc with
    | none => rw [hE] at h; cases h
    | some E =>
    rw [hE] at h
    dsimp only at h
    by_cases h46 : E.1 = 46
    · rw [show Nat.beq E.1 46 = true by rw [h46]; rfl, cond_true] at h
      cases hmj : ms[E.2.2.1]? with
      | none => rw [hmj] at h; cases h
      | some mj =>
      rw [hmj] at h
      dsimp only at h
      rw [cond_eq_ite] at h
      split at h
      case isFalse => cases h
      case isTrue hc =>
      obtain ⟨hc, h5⟩ := an_and hc
      obtain ⟨hc, h4⟩ := an_and hc
      obtain ⟨hc, h3⟩ := an_and hc
      obtain ⟨hc, -⟩ := an_and hc
      obtain ⟨h1, h2⟩ := an_and hc
      have g1 := an_gl_take (k := E.2.2.2.1) hst
      have g2 := an_gl_drop (k := E.2.2.2.1) hst
      cases hk : K E.2.2.1 env (st.take E.2.2.2.1).reverse σ with
      | none => rw [hk] at h; cases h
      | some rs =>
      rw [hk] at h
      dsimp only at h
      refine zb_W_callA hD hC hE h46 hmj ?_ ?_ (an_recv_ok (an_gl_rev g1) hσ h3) (Nat.le_of_ble_eq_true h4) (Nat.le_of_ble_eq_true h5) ?_
      · rw [← an_gl_len hst]; exact Nat.le_of_ble_eq_true h1
      · rw [← an_gl_cat g2]; exact Nat.le_of_ble_eq_true h2
      · refine hK _ _ _ _ rs _ _ _ hk he (an_gl_rev g1) hσ (fun r hr her rv σ1 hrv hσ1 => ?_)
        obtain ⟨cs1, k1, k2⟩ := an_all_ok h r hr
        rw [cond_eq_ite] at k1
        split at k1
        case isFalse => cases k1
        case isTrue hlen =>
        refine ⟨?_, ?_⟩
        · rw [Bool.or_eq_true] at hlen
          rcases hlen with hlen | hlen
          · left
            rw [← an_gs_len hσ1, ← an_gs_len hσ]
            exact Nat.eq_of_beq_eq_true hlen
          · right
            rw [← an_gs_len hσ]
            exact an_wl_ok hL g2 hlen
        · exact ih (r.1, E.2.2.2.2.2.1, L, r.2.1.toList ++ st.drop E.2.2.2.1, r.2.2, u + mj.2.1.2.2.1, v + mj.2.1.2.2.2.1) cs1 L' (rv.toList ++ st'.drop E.2.2.2.1) σ1 k1 ⟨her, hL, an_gl_app hrv g2, hσ1⟩ (fun e he2 => hret e (k2 _ he2)) (fun e he2 => hstop e (k2 _ he2))
    · rw [show Nat.beq E.1 46 = false by
        cases hb : Nat.beq E.1 46 with
        | false => rfl
        | true => exact absurd (Nat.eq_of_beq_eq_true hb) h46, cond_false] at h
      by_cases hal : 39 ≤ E.1 ∧ E.1 ≤ 41
      · rw [show (Nat.ble 39 E.1 && Nat.ble E.1 41) = true by rw [Bool.and_eq_true]; exact ⟨Nat.ble_eq_true_of_le hal.1, Nat.ble_eq_true_of_le hal.2⟩, cond_true] at h
        cases ha : an_alc E st with
        | none => rw [ha] at h; cases h
        | some q =>
        obtain ⟨r, o, w⟩ := q
        rw [ha] at h
        dsimp only at h
        rw [cond_eq_ite] at h
        split at h
        case isFalse => cases h
        case isTrue hc =>
        obtain ⟨hc, h5⟩ := an_and hc
        obtain ⟨hc, h4⟩ := an_and hc
        obtain ⟨hc, h3⟩ := an_and hc
        obtain ⟨h1, h2⟩ := an_and hc
        obtain ⟨r', o', g1, g2, g3⟩ := an_alc_ok hst ha
        have elen : σ.length = σ'.length := an_gs_len hσ
        rw [elen] at h1 h3
        refine zb_W_alc hE h46 hal g1 (Nat.le_of_ble_eq_true h1) (an_ws_ok hσ h2) (an_wl_ok hL g2 h3) (Nat.le_of_ble_eq_true h4) (Nat.le_of_ble_eq_true h5) ?_
        exact ih _ cs L' (.ref σ'.length :: r') (σ' ++ [o']) h ⟨he, hL, ⟨by show Value.ref σ'.length = Value.ref σ.length; rw [elen], g2⟩, an_gs_app hσ ⟨g3, trivial⟩⟩ hret hstop
      · rw [show (Nat.ble 39 E.1 && Nat.ble E.1 41) = false by
          cases hb : (Nat.ble 39 E.1 && Nat.ble E.1 41) with
          | false => rfl
          | true => exact absurd ⟨Nat.le_of_ble_eq_true (an_and hb).1, Nat.le_of_ble_eq_true (an_and hb).2⟩ hal, cond_false] at h
        by_cases h47 : 47 ≤ E.1
        · rw [show Nat.ble 47 E.1 = true from Nat.ble_eq_true_of_le h47, cond_true] at h
          rw [cond_eq_ite] at h
          split at h
          case isFalse => cases h
          case isTrue hc =>
          obtain ⟨h1, h2⟩ := an_and hc
          refine zb_W_ret hE h46 hal h47 (Nat.le_of_ble_eq_true h1) (Nat.le_of_ble_eq_true h2) ?_
          cases hr : an_rok E.1 mi.1.2.2.2.1 st with
          | none => rw [hr] at h; cases h
          | some rr =>
          rw [hr] at h
          cases h
          have hpost := hret (env, pc, L, st, σ, u, v) List.mem_cons_self
          unfold an_rok at hr
          split at hr
          case h_1 e1 =>
            have := an_gl_nil hst
            subst this
            rw [e1]
            exact hpost none σ' ⟨he, hσ, trivial⟩
          case h_2 a e1 =>
            obtain ⟨w, r1, rfl, k1, k2⟩ := an_gl_cons hst
            have := an_gl_nil k2
            subst this
            rw [e1]
            rw [cond_eq_ite] at hr
            split at hr
            case isFalse => cases hr
            case isTrue hi =>
            obtain ⟨z, rfl⟩ := an_g_I k1 hi
            refine ⟨?_, hpost (some (.int z)) σ' ⟨he, hσ, k1⟩⟩
            split at hr
            case h_1 e2 => rw [e2]; rfl
            case h_2 e2 =>
              rw [e2]
              split at hr
              case h_2 => cases hr
              case h_1 z0 =>
              cases k1
              cases hz : decide (narrow .boolean (.int z) = .int z) with
              | false => rw [hz] at hr; cases hr
              | true => exact of_decide_eq_true hz
            case h_3 => cases hr
          case h_3 a e1 =>
            obtain ⟨w, r1, rfl, k1, k2⟩ := an_gl_cons hst
            have := an_gl_nil k2
            subst this
            rw [e1]
            rw [cond_eq_ite] at hr
            split at hr
            case isFalse => cases hr
            case isTrue hi =>
            obtain ⟨z, rfl⟩ := an_g_Lo k1 hi
            exact hpost (some (.long z)) σ' ⟨he, hσ, k1⟩
          case h_4 z e1 =>
            obtain ⟨w, r1, rfl, k1, k2⟩ := an_gl_cons hst
            have := an_gl_nil k2
            subst this
            cases k1
            rw [e1]
            exact hpost (some (.ref z)) σ' ⟨he, hσ, rfl⟩
          case h_5 => cases hr
        · rw [show Nat.ble 47 E.1 = false by
            cases hb : Nat.ble 47 E.1 with
            | false => rfl
            | true => exact absurd (Nat.le_of_ble_eq_true hb) h47, cond_false] at h
          cases hw : an_stp LL E env L st σ with
          | none => rw [hw] at h; cases h
          | some ws =>
          rw [hw] at h
          dsimp only at h
          obtain ⟨w, w1, w2, r, w3, w4, w5, w6, w7⟩ := an_stp_ok hρ he hL hst hσ hw
          obtain ⟨cs1, k1, k2⟩ := an_all_ok h w w1
          obtain ⟨pc1, L1, st1, σ1⟩ := r
          dsimp only at w4 w5 w6 w7
          subst w4
          refine zb_W_step hE h46 hal h47 w3 ?_
          exact ih (w.1, w.2.1, w.2.2.1, w.2.2.2.1, w.2.2.2.2, u, v) cs1 L1 st1 σ1 k1 ⟨w2, w5, w6, w7⟩ (fun e he2 => hret e (k2 _ he2)) (fun e he2 => hstop e (k2 _ he2))
end
