/-! more steps allowed do no harm -/
theorem rf_wp_mono1 {SA : rf_A} {ms : List rf_M} {C : Nat → List Value → rf_S → rf_P → Prop} {mi : rf_M} (hC : ∀ b As σ (p q : rf_P), (∀ rv σ1, p rv σ1 → q rv σ1) → C b As σ p → C b As σ q) : ∀ (n pc : Nat) (L : rf_L) (st : List Value) (σ : rf_S) (u v : Nat) (post : rf_P), rf_wp SA ms C mi n pc L st σ u v post → rf_wp SA ms C mi (n + 1) pc L st σ u v post := by
  intro n
  induction n with
  | zero => intro pc L st σ u v post h; exact h.elim
  | succ n ih =>
    intro pc L st σ u v post h
    unfold rf_wp at h ⊢
    split
    case h_1 hE => rw [hE] at h; exact h
    case h_2 E hE =>
    rw [hE] at h
    dsimp only at h
    split
    case isTrue h46 =>
      rw [if_pos h46] at h
      split
      case h_1 hm => rw [hm] at h; exact h
      case h_2 mj hm =>
      rw [hm] at h
      obtain ⟨h1, h2, h3, h4, h5, h6⟩ := h
      exact ⟨h1, h2, h3, h4, h5, hC _ _ _ _ _ (fun rv σ1 hp => ⟨hp.1, ih _ _ _ _ _ _ _ hp.2⟩) h6⟩
    case isFalse h46 =>
    rw [if_neg h46] at h
    split
    case isTrue hal =>
      rw [if_pos hal] at h
      split
      case h_1 hm => rw [hm] at h; exact h
      case h_2 r o w hm =>
      rw [hm] at h
      obtain ⟨h1, h2, h3, h4, h5, h6⟩ := h
      exact ⟨h1, h2, h3, h4, h5, ih _ _ _ _ _ _ _ h6⟩
    case isFalse hal =>
    rw [if_neg hal] at h
    split
    case isTrue h47 =>
      rw [if_pos h47] at h
      exact h
    case isFalse h47 =>
    rw [if_neg h47] at h
    split
    case h_1 hm => rw [hm] at h; exact h
    case h_2 pc' L' st' σ' hm =>
    rw [hm] at h
    exact ih _ _ _ _ _ _ _ h
theorem rf_wp_mono {SA : rf_A} {ms : List rf_M} {C : Nat → List Value → rf_S → rf_P → Prop} {mi : rf_M} (hC : ∀ b As σ (p q : rf_P), (∀ rv σ1, p rv σ1 → q rv σ1) → C b As σ p → C b As σ q) (k : Nat) {n pc : Nat} {L : rf_L} {st : List Value} {σ : rf_S} {u v : Nat} {post : rf_P} (h : rf_wp SA ms C mi n pc L st σ u v post) : rf_wp SA ms C mi (n + k) pc L st σ u v post := by
  induction k with
  | zero => exact h
  | succ k ih => exact rf_wp_mono1 hC _ _ _ _ _ _ _ _ ih
theorem rf_wp_post {SA : rf_A} {ms : List rf_M} {C : Nat → List Value → rf_S → rf_P → Prop} {mi : rf_M} (hC : ∀ b As σ (p q : rf_P), (∀ rv σ1, p rv σ1 → q rv σ1) → C b As σ p → C b As σ q) : ∀ (n pc : Nat) (L : rf_L) (st : List Value) (σ : rf_S) (u v : Nat) (post post' : rf_P), (∀ rv σ1, post rv σ1 → post' rv σ1) → rf_wp SA ms C mi n pc L st σ u v post → rf_wp SA ms C mi n pc L st σ u v post' := by
  intro n
  induction n with
  | zero => intro pc L st σ u v post post' _ h; exact h.elim
  | succ n ih =>
    intro pc L st σ u v post post' hpp h
    unfold rf_wp at h ⊢
    split
    case h_1 hE => rw [hE] at h; exact h
    case h_2 E hE =>
    rw [hE] at h
    dsimp only at h
    split
    case isTrue h46 =>
      rw [if_pos h46] at h
      split
      case h_1 hm => rw [hm] at h; exact h
      case h_2 mj hm =>
      rw [hm] at h
      obtain ⟨h1, h2, h3, h4, h5, h6⟩ := h
      exact ⟨h1, h2, h3, h4, h5, hC _ _ _ _ _ (fun rv σ1 hp => ⟨hp.1, ih _ _ _ _ _ _ _ _ hpp hp.2⟩) h6⟩
    case isFalse h46 =>
    rw [if_neg h46] at h
    split
    case isTrue hal =>
      rw [if_pos hal] at h
      split
      case h_1 hm => rw [hm] at h; exact h
      case h_2 r o w hm =>
      rw [hm] at h
      obtain ⟨h1, h2, h3, h4, h5, h6⟩ := h
      exact ⟨h1, h2, h3, h4, h5, ih _ _ _ _ _ _ _ _ hpp h6⟩
    case isFalse hal =>
    rw [if_neg hal] at h
    split
    case isTrue h47 =>
      rw [if_pos h47] at h
      obtain ⟨h1, h2, h3⟩ := h
      refine ⟨h1, h2, ?_⟩
      split
      case h_1 e1 => rw [e1] at h3; exact hpp _ _ h3
      case h_2 z e1 => rw [e1] at h3; exact ⟨h3.1, hpp _ _ h3.2⟩
      case h_3 z e1 => rw [e1] at h3; exact hpp _ _ h3
      case h_4 z e1 => rw [e1] at h3; exact hpp _ _ h3
      case h_5 n1 n2 n3 n4 =>
        split at h3
        case h_1 e1 => exact n1 e1 rfl
        case h_2 z e1 => exact n2 z e1 rfl
        case h_3 z e1 => exact n3 z e1 rfl
        case h_4 z e1 => exact n4 z e1 rfl
        case h_5 => exact h3
    case isFalse h47 =>
    rw [if_neg h47] at h
    split
    case h_1 hm => rw [hm] at h; exact h
    case h_2 pc' L' st' σ' hm =>
    rw [hm] at h
    exact ih _ _ _ _ _ _ _ _ hpp h
theorem rf_run_post (SA : rf_A) (ms : List rf_M) : ∀ (d b : Nat) (As : List Value) (σ : rf_S) (p q : rf_P), (∀ rv σ1, p rv σ1 → q rv σ1) → rf_run SA ms d b As σ p → rf_run SA ms d b As σ q := by
  intro d
  induction d with
  | zero => intro b As σ p q _ h; exact h.elim
  | succ d ih =>
    intro b As σ p q hpq h
    obtain ⟨mi, h1, h2, n, h3⟩ := h
    exact ⟨mi, h1, h2, n, rf_wp_post (fun b As σ p q => ih b As σ p q) n _ _ _ _ _ _ p q hpq h3⟩
/-! a body that comes to its ends in boxes comes to them on the abstract machine -/
section
variable {ρ : Nat → Int32} {LL LC : Nat} {xs : Nat → Int32}
theorem an_wv_ok {n : Nat} {a : an_V} {v : Value} (h : an_g ρ a v) (hw : an_wv n a = true) : rf_wfv n v = true := by
  unfold an_wv at hw
  split at hw
  · rw [h]; exact hw
  · unfold an_g at h
    split at h
    case h_1 e1 => cases e1
    · rw [h]; rfl
    · obtain ⟨x, rfl, -⟩ := h; rfl
    · obtain ⟨x, rfl, -⟩ := h; rfl
    · rw [h]; rfl
    · exact h.elim
theorem an_wvs_ok {n : Nat} : ∀ {as : List an_V} {vs : List Value}, an_gl ρ as vs → as.all (an_wv n) = true → vs.all (rf_wfv n) = true
  | [], [], _, _ => rfl
  | _ :: _, [], h, _ => h.elim
  | [], _ :: _, h, _ => h.elim
  | a :: as, v :: vs, h, hw => by
    rw [List.all_cons, Bool.and_eq_true] at hw ⊢
    exact ⟨an_wv_ok h.1 hw.1, an_wvs_ok h.2 hw.2⟩
theorem an_wL_ok {n : Nat} : ∀ {L : an_L} {L' : rf_L}, an_gL ρ L L' → L.all (fun q => an_wv n q.2) = true → L'.all (fun q => rf_wfv n q.2) = true
  | [], [], _, _ => rfl
  | _ :: _, [], h, _ => h.elim
  | [], _ :: _, h, _ => h.elim
  | a :: as, v :: vs, h, hw => by
    rw [List.all_cons, Bool.and_eq_true] at hw ⊢
    exact ⟨an_wv_ok h.1.2 hw.1, an_wL_ok h.2 hw.2⟩
theorem an_wl_ok {n : Nat} {L : an_L} {L' : rf_L} {st : List an_V} {st' : List Value} (hL : an_gL ρ L L') (hst : an_gl ρ st st') (h : an_wl n L st = true) : rf_wfl n L' st' = true := by
  unfold an_wl at h
  unfold rf_wfl
  rw [Bool.and_eq_true] at h ⊢
  exact ⟨an_wL_ok hL h.1, an_wvs_ok hst h.2⟩
theorem an_at_mem {d : an_V} {ups : List (Nat × an_V)} (j : Nat) {P : an_V → Prop} (hd : P d) (hu : ∀ q, q ∈ ups → P q.2) : P (an_at d ups j) := by
  unfold an_at
  split
  case h_1 q hq => exact hu q (List.mem_of_find?_eq_some hq)
  case h_2 => exact hd
theorem an_wo_ok {n : Nat} {a : an_O} {o : va_E} (h : an_go ρ a o) (hw : an_wo n a = true) : rf_wfo n o := by
  rcases a with ⟨k, m, d, ups⟩ | ⟨ci, fs⟩
  · match k, h, hw with
    | 0, h, hw => obtain ⟨f, rfl, -⟩ := an_ari h; exact trivial
    | 1, h, hw => obtain ⟨f, rfl, -⟩ := an_arl h; exact trivial
    | 2, h, hw =>
      obtain ⟨f, rfl, hf⟩ := an_arq h
      show ∀ j i, f j = some i → i < n
      intro j i hj
      have hw := an_and hw
      have h1 := hf j
      rw [hj] at h1
      have h2 : an_wr n (an_at d ups j) = true := an_at_mem j (P := fun v => an_wr n v = true) hw.1 (fun q hq => List.all_eq_true.mp hw.2 q hq)
      have h1 : an_g ρ (an_at d ups j) (.ref i) := h1
      generalize an_at d ups j = v at h1 h2
      unfold an_wr at h2
      split at h2
      · cases h1
        exact Nat.le_of_ble_eq_true h2
      · cases h1
      · cases h2
    | k + 3, h, hw => rcases o with ⟨k', m', f | f | f | f | f⟩ | ⟨cj, gs⟩ <;> exact h.elim
  · obtain ⟨gs, rfl, hg⟩ := an_obj h
    exact an_wvs_ok hg hw
theorem an_gs_mem : ∀ {as : an_S} {vs : rf_S}, an_gs ρ as vs → ∀ o, o ∈ vs → ∃ a, a ∈ as ∧ an_go ρ a o
  | [], [], _, o, ho => absurd ho List.not_mem_nil
  | _ :: _, [], h, _, _ => h.elim
  | [], _ :: _, h, _, _ => h.elim
  | a :: as, v :: vs, h, o, ho => by
    rcases List.mem_cons.mp ho with rfl | ho
    · exact ⟨a, List.mem_cons_self, h.1⟩
    · obtain ⟨a', h1, h2⟩ := an_gs_mem h.2 o ho
      exact ⟨a', List.mem_cons_of_mem _ h1, h2⟩
theorem an_ws_ok {σ : an_S} {σ' : rf_S} (h : an_gs ρ σ σ') (hw : an_ws σ = true) : rf_wfs σ' := by
  intro o ho
  obtain ⟨a, h1, h2⟩ := an_gs_mem h o ho
  rw [← an_gs_len h]
  exact an_wo_ok h2 (List.all_eq_true.mp hw a h1)
theorem an_gl_df (l : List Nat) (b : Nat) : an_gl ρ (l.map (fun k => .inl (defaultValue (rf_fty b k)))) (l.map (fun k => defaultValue (rf_fty b k))) := by
  induction l with
  | nil => exact trivial
  | cons k l ih => exact ⟨rfl, ih⟩
theorem an_alc_ok {E : rf_E} {st : List an_V} {st' : List Value} {r : List an_V} {o : an_O} {w : Nat} (hst : an_gl ρ st st') (h : an_alc E st = some (r, o, w)) : ∃ r' o', rf_alc E st' = some (r', o', w) ∧ an_gl ρ r r' ∧ an_go ρ o o' := by
  obtain ⟨op, a, b, c, x, nxt, sw⟩ := E
  simp only [an_alc] at h
  split at h
  case h_1 =>
    cases h
    exact ⟨_, _, rfl, hst, rfl, an_gl_df _ _⟩
  case h_2 =>
    split at h
    case h_2 => cases h
    case h_1 n r0 =>
    obtain ⟨v1, r1, rfl, h2, h3⟩ := an_gl_cons hst
    cases h2
    cases hb : decide (¬ n < 0) && Nat.ble n.toNatClampNeg 1000 with
    | false => rw [hb] at h; cases h
    | true =>
      rw [hb] at h
      match b, h with
      | 0, h => cases h; exact ⟨r1, .inl (0, n.toNatClampNeg, .inl (fun _ => 0)), by simp only [rf_alc, hb, cond_true], h3, ⟨rfl, rfl, fun _ => rfl⟩⟩
      | b + 1, h => cases h; exact ⟨r1, .inl (1, n.toNatClampNeg, .inr (.inl (fun _ => 0))), by simp only [rf_alc, hb, cond_true], h3, ⟨rfl, rfl, fun _ => rfl⟩⟩
  case h_3 =>
    split at h
    case h_2 => cases h
    case h_1 n r0 =>
    obtain ⟨v1, r1, rfl, h2, h3⟩ := an_gl_cons hst
    cases h2
    cases hb : decide (¬ n < 0) && Nat.ble n.toNatClampNeg 1000 with
    | false => rw [hb] at h; cases h
    | true =>
      rw [hb] at h
      cases h
      exact ⟨r1, .inl (2, n.toNatClampNeg, .inr (.inr (.inr (.inr (fun _ => none))))), by simp only [rf_alc, hb, cond_true], h3, ⟨rfl, rfl, fun _ => rfl⟩⟩
  case h_4 => cases h
theorem an_recv_ok {kind ci : Nat} {As : List an_V} {As' : List Value} {σ : an_S} {σ' : rf_S} (hA : an_gl ρ As As') (hσ : an_gs ρ σ σ') (h : an_recv kind ci As σ = true) : rf_recv kind ci As' σ' = true := by
  match kind, h with
  | 0, h => rfl
  | 1, h =>
    rcases As with _ | ⟨a, As0⟩
    · cases h
    · rcases a with v | q
      · obtain ⟨v1, r1, rfl, h2, h3⟩ := an_gl_cons hA
        cases h2
        cases v <;> try (cases h; done)
        rename_i r0
        simp only [an_recv] at h
        split at h
        case h_2 => cases h
        case h_1 cj fs hcell =>
        obtain ⟨o', g1, g2⟩ := an_gs_get hσ hcell
        obtain ⟨gs, rfl, -⟩ := an_obj g2
        simp only [rf_recv, g1]
        exact h
      · cases h
  | k + 2, h =>
    rcases As with _ | ⟨a, As0⟩
    · cases h
    · rcases a with v | q
      · obtain ⟨v1, r1, rfl, h2, h3⟩ := an_gl_cons hA
        cases h2
        cases v <;> first | (cases h; done) | rfl
      · cases h
/-- what an end of a body means: a return with its value, or a stop -/
def an_ret (ρ : Nat → Int32) (c : an_C) (rv : Option Value) (σ' : rf_S) : Prop := an_e ρ c.1 ∧ an_gs ρ c.2.2.2.2.1 σ' ∧ (match c.2.2.2.1, rv with
  | [], none => True
  | [a], some v => an_g ρ a v
  | _, _ => False)
def an_gc (ρ : Nat → Int32) (c : an_C) (L' : rf_L) (st' : List Value) (σ' : rf_S) : Prop := an_e ρ c.1 ∧ an_gL ρ c.2.2.1 L' ∧ an_gl ρ c.2.2.2.1 st' ∧ an_gs ρ c.2.2.2.2.1 σ'
/-- a relation of calls is covered by a run in boxes -/
def an_cov (ρ : Nat → Int32) (K : Nat → an_N → List an_V → an_S → Option an_R) (C : Nat → List Value → rf_S → rf_P → Prop) : Prop :=
  ∀ (b : Nat) (env : an_N) (As : List an_V) (σ : an_S) (rs : an_R) (As' : List Value) (σ' : rf_S) (post : rf_P), K b env As σ = some rs → an_e ρ env → an_gl ρ As As' → an_gs ρ σ σ' → (∀ r, r ∈ rs → an_e ρ r.1 → ∀ (rv : Option Value) (σ1 : rf_S), an_gl ρ r.2.1.toList rv.toList → an_gs ρ r.2.2 σ1 → post rv σ1) → C b As' σ' post
theorem an_body_ok {ms : List rf_M} {K : Nat → an_N → List an_V → an_S → Option an_R} {C : Nat → List Value → rf_S → rf_P → Prop} {mi : rf_M} {stop : Nat → Bool} (hρ : ∀ k, k < LL → ρ k = xs k) (hC : ∀ b As σ (p q : rf_P), (∀ rv σ1, p rv σ1 → q rv σ1) → C b As σ p → C b As σ q) (hK : an_cov ρ K C) {m : Nat} {post : rf_P} :
    ∀ (n : Nat) (c : an_C) (cs : List (Bool × an_C)) (L' : rf_L) (st' : List Value) (σ' : rf_S), an_body LL ms K mi stop n c = some cs → an_gc ρ c L' st' σ' →
      (∀ e, (true, e) ∈ cs → ∀ rv σ1, an_ret ρ e rv σ1 → post rv σ1) →
      (∀ e, (false, e) ∈ cs → ∀ L1 st1 σ1, an_gc ρ e L1 st1 σ1 → rf_wp (rf_SA LC xs) ms C mi m e.2.1 L1 st1 σ1 e.2.2.2.2.2.1 e.2.2.2.2.2.2 post) →
      rf_wp (rf_SA LC xs) ms C mi (n + m) c.2.1 L' st' σ' c.2.2.2.2.2.1 c.2.2.2.2.2.2 post := by
  intro n
  induction n with
  | zero => intro c cs L' st' σ' h; cases h
  | succ n ih =>
    intro c cs L' st' σ' h hg hret hstop
    obtain ⟨env, pc, L, st, σ, u, v⟩ := c
    obtain ⟨he, hL, hst, hσ⟩ := id hg
    unfold an_body at h
    cases hs : stop pc with
    | true =>
      rw [hs, cond_true] at h
      cases h
      have h1 := hstop _ List.mem_cons_self L' st' σ' hg
      rw [Nat.add_comm]
      exact rf_wp_mono hC (n + 1) h1
    | false =>
    rw [hs, cond_false] at h
    rw [show n + 1 + m = (n + m) + 1 by omega]
    unfold rf_wp
    dsimp only
    cases hE : mi.2.2 pc with
    | none => rw [hE] at h; cases h
    | some E =>
    rw [hE] at h
    dsimp only at h ⊢
    by_cases h46 : E.1 = 46
    · rw [if_pos h46]
      rw [show Nat.beq E.1 46 = true by rw [h46]; rfl, cond_true] at h
      cases hmj : ms[E.2.2.1]? with
      | none => rw [hmj] at h; cases h
      | some mj =>
      rw [hmj] at h
      dsimp only at h ⊢
      rw [cond_eq_ite] at h
      split at h
      case isFalse => cases h
      case isTrue hc =>
      obtain ⟨hc, h5⟩ := an_and hc
      obtain ⟨hc, h4⟩ := an_and hc
      obtain ⟨hc, h3⟩ := an_and hc
      obtain ⟨hc, -⟩ := an_and hc
      obtain ⟨h1, h2⟩ := an_and hc
      have g1 := an_gl_take (k := E.2.2.2.1) hst
      have g2 := an_gl_drop (k := E.2.2.2.1) hst
      cases hk : K E.2.2.1 env (st.take E.2.2.2.1).reverse σ with
      | none => rw [hk] at h; cases h
      | some rs =>
      rw [hk] at h
      dsimp only at h
      refine ⟨?_, ?_, an_recv_ok (an_gl_rev g1) hσ h3, Nat.le_of_ble_eq_true h4, Nat.le_of_ble_eq_true h5, ?_⟩
      · rw [← an_gl_len hst]; exact Nat.le_of_ble_eq_true h1
      · rw [← an_gl_cat g2]; exact Nat.le_of_ble_eq_true h2
      · refine hK _ _ _ _ rs _ _ _ hk he (an_gl_rev g1) hσ (fun r hr her rv σ1 hrv hσ1 => ?_)
        obtain ⟨cs1, k1, k2⟩ := an_all_ok h r hr
        rw [cond_eq_ite] at k1
        split at k1
        case isFalse => cases k1
        case isTrue hlen =>
        refine ⟨?_, ?_⟩
        · rw [Bool.or_eq_true] at hlen
          rcases hlen with hlen | hlen
          · left
            rw [← an_gs_len hσ1, ← an_gs_len hσ]
            exact Nat.eq_of_beq_eq_true hlen
          · right
            rw [← an_gs_len hσ]
            exact an_wl_ok hL g2 hlen
        · exact ih (r.1, E.2.2.2.2.2.1, L, r.2.1.toList ++ st.drop E.2.2.2.1, r.2.2, u + mj.2.1.2.2.1, v + mj.2.1.2.2.2.1) cs1 L' (rv.toList ++ st'.drop E.2.2.2.1) σ1 k1 ⟨her, hL, an_gl_app hrv g2, hσ1⟩ (fun e he2 => hret e (k2 _ he2)) (fun e he2 => hstop e (k2 _ he2))
    · rw [if_neg h46]
      rw [show Nat.beq E.1 46 = false by
        cases hb : Nat.beq E.1 46 with
        | false => rfl
        | true => exact absurd (Nat.eq_of_beq_eq_true hb) h46, cond_false] at h
      by_cases hal : 39 ≤ E.1 ∧ E.1 ≤ 41
      · rw [if_pos hal]
        rw [show (Nat.ble 39 E.1 && Nat.ble E.1 41) = true by rw [Bool.and_eq_true]; exact ⟨Nat.ble_eq_true_of_le hal.1, Nat.ble_eq_true_of_le hal.2⟩, cond_true] at h
        cases ha : an_alc E st with
        | none => rw [ha] at h; cases h
        | some q =>
        obtain ⟨r, o, w⟩ := q
        rw [ha] at h
        dsimp only at h
        rw [cond_eq_ite] at h
        split at h
        case isFalse => cases h
        case isTrue hc =>
        obtain ⟨hc, h5⟩ := an_and hc
        obtain ⟨hc, h4⟩ := an_and hc
        obtain ⟨hc, h3⟩ := an_and hc
        obtain ⟨h1, h2⟩ := an_and hc
        obtain ⟨r', o', g1, g2, g3⟩ := an_alc_ok hst ha
        rw [g1]
        dsimp only
        have elen : σ.length = σ'.length := an_gs_len hσ
        rw [elen] at h1 h3
        refine ⟨Nat.le_of_ble_eq_true h1, an_ws_ok hσ h2, an_wl_ok hL g2 h3, Nat.le_of_ble_eq_true h4, Nat.le_of_ble_eq_true h5, ?_⟩
        exact ih _ cs L' (.ref σ'.length :: r') (σ' ++ [o']) h ⟨he, hL, ⟨by show Value.ref σ'.length = Value.ref σ.length; rw [elen], g2⟩, an_gs_app hσ ⟨g3, trivial⟩⟩ hret hstop
      · rw [if_neg hal]
        rw [show (Nat.ble 39 E.1 && Nat.ble E.1 41) = false by
          cases hb : (Nat.ble 39 E.1 && Nat.ble E.1 41) with
          | false => rfl
          | true => exact absurd ⟨Nat.le_of_ble_eq_true (an_and hb).1, Nat.le_of_ble_eq_true (an_and hb).2⟩ hal, cond_false] at h
        by_cases h47 : 47 ≤ E.1
        · rw [if_pos h47]
          rw [show Nat.ble 47 E.1 = true from Nat.ble_eq_true_of_le h47, cond_true] at h
          rw [cond_eq_ite] at h
          split at h
          case isFalse => cases h
          case isTrue hc =>
          obtain ⟨h1, h2⟩ := an_and hc
          refine ⟨Nat.le_of_ble_eq_true h1, Nat.le_of_ble_eq_true h2, ?_⟩
          cases hr : an_rok E.1 mi.1.2.2.2.1 st with
          | none => rw [hr] at h; cases h
          | some rr =>
          rw [hr] at h
          cases h
          have hpost := hret (env, pc, L, st, σ, u, v) List.mem_cons_self
          unfold an_rok at hr
          split at hr
          case h_1 e1 =>
            have := an_gl_nil hst
            subst this
            rw [e1]
            exact hpost none σ' ⟨he, hσ, trivial⟩
          case h_2 a e1 =>
            obtain ⟨w, r1, rfl, k1, k2⟩ := an_gl_cons hst
            have := an_gl_nil k2
            subst this
            rw [e1]
            rw [cond_eq_ite] at hr
            split at hr
            case isFalse => cases hr
            case isTrue hi =>
            obtain ⟨z, rfl⟩ := an_g_I k1 hi
            refine ⟨?_, hpost (some (.int z)) σ' ⟨he, hσ, k1⟩⟩
            split at hr
            case h_1 e2 => rw [e2]; rfl
            case h_2 e2 =>
              rw [e2]
              split at hr
              case h_2 => cases hr
              case h_1 z0 =>
              cases k1
              cases hz : decide (narrow .boolean (.int z) = .int z) with
              | false => rw [hz] at hr; cases hr
              | true => exact of_decide_eq_true hz
            case h_3 => cases hr
          case h_3 a e1 =>
            obtain ⟨w, r1, rfl, k1, k2⟩ := an_gl_cons hst
            have := an_gl_nil k2
            subst this
            rw [e1]
            rw [cond_eq_ite] at hr
            split at hr
            case isFalse => cases hr
            case isTrue hi =>
            obtain ⟨z, rfl⟩ := an_g_Lo k1 hi
            exact hpost (some (.long z)) σ' ⟨he, hσ, k1⟩
          case h_4 z e1 =>
            obtain ⟨w, r1, rfl, k1, k2⟩ := an_gl_cons hst
            have := an_gl_nil k2
            subst this
            cases k1
            rw [e1]
            exact hpost (some (.ref z)) σ' ⟨he, hσ, rfl⟩
          case h_5 => cases hr
        · rw [if_neg h47]
          rw [show Nat.ble 47 E.1 = false by
            cases hb : Nat.ble 47 E.1 with
            | false => rfl
            | true => exact absurd (Nat.le_of_ble_eq_true hb) h47, cond_false] at h
          cases hw : an_stp LL E env L st σ with
          | none => rw [hw] at h; cases h
          | some ws =>
          rw [hw] at h
          dsimp only at h
          obtain ⟨w, w1, w2, r, w3, w4, w5, w6, w7⟩ := an_stp_ok hρ he hL hst hσ hw
          obtain ⟨cs1, k1, k2⟩ := an_all_ok h w w1
          rw [w3]
          obtain ⟨pc1, L1, st1, σ1⟩ := r
          dsimp only at w4 w5 w6 w7 ⊢
          subst w4
          exact ih (w.1, w.2.1, w.2.2.1, w.2.2.2.1, w.2.2.2.2, u, v) cs1 L1 st1 σ1 k1 ⟨w2, w5, w6, w7⟩ (fun e he2 => hret e (k2 _ he2)) (fun e he2 => hstop e (k2 _ he2))
end
