/-! runs without a count of steps: a run has one end, more depth does no harm -/
abbrev zb_K : Type := Nat → List Value → rf_S → rf_P → Prop
def zb_mon (C : zb_K) : Prop := ∀ (b : Nat) (As : List Value) (σ : rf_S) (p q : rf_P), (∀ rv σ1, p rv σ1 → q rv σ1) → C b As σ p → C b As σ q
def zb_det (C : zb_K) : Prop := ∀ (b : Nat) (As : List Value) (σ : rf_S) (p : rf_P), C b As σ p → ∃ rv σ1, p rv σ1 ∧ C b As σ (fun r s => r = rv ∧ s = σ1)
theorem zb_rt_inv {op : Nat} {st : List Value} {P1 : Prop} {P2 : Int32 → Prop} {P3 : Int64 → Prop} {P4 : Nat → Prop} (h : (match op, st with
        | 47, [] => P1
        | 48, [.int z] => P2 z
        | 49, [.long z] => P3 z
        | 50, [.ref z] => P4 z
        | _, _ => False)) : (op = 47 ∧ st = [] ∧ P1) ∨ (∃ z, op = 48 ∧ st = [.int z] ∧ P2 z) ∨ (∃ z, op = 49 ∧ st = [.long z] ∧ P3 z) ∨ (∃ z, op = 50 ∧ st = [.ref z] ∧ P4 z) := by
  split at h
  · exact Or.inl ⟨rfl, rfl, h⟩
  · exact Or.inr (Or.inl ⟨_, rfl, rfl, h⟩)
  · exact Or.inr (Or.inr (Or.inl ⟨_, rfl, rfl, h⟩))
  · exact Or.inr (Or.inr (Or.inr ⟨_, rfl, rfl, h⟩))
  · exact h.elim
theorem rf_wp_det {SA : rf_A} {ms : List rf_M} {C : zb_K} {mi : rf_M} (hC : zb_mon C) (hD : zb_det C) : ∀ (n pc : Nat) (L : rf_L) (st : List Value) (σ : rf_S) (u v : Nat) (post : rf_P), rf_wp SA ms C mi n pc L st σ u v post → ∃ rv σ1, post rv σ1 ∧ rf_wp SA ms C mi n pc L st σ u v (fun r s => r = rv ∧ s = σ1) := by
  intro n
  induction n with
  | zero => intro pc L st σ u v post h; exact h.elim
  | succ n ih =>
    intro pc L st σ u v post h
    unfold rf_wp at h
    cases hE : mi.2.2 pc with
    | none => rw [hE] at h; exact h.elim
    | some E =>
    rw [hE] at h
    dsimp only at h
    by_cases h46 : E.1 = 46
    · rw [if_pos h46] at h
      cases hm : ms[E.2.2.1]? with
      | none => rw [hm] at h; exact h.elim
      | some mj =>
      rw [hm] at h
      obtain ⟨h1, h2, h3, h4, h5, h6⟩ := h
      obtain ⟨r0, s0, ⟨q1, q2⟩, q3⟩ := hD _ _ _ _ h6
      obtain ⟨rv, σ1, g1, g2⟩ := ih _ _ _ _ _ _ _ q2
      refine ⟨rv, σ1, g1, ?_⟩
      unfold rf_wp
      rw [hE]
      dsimp only
      rw [if_pos h46, hm]
      refine ⟨h1, h2, h3, h4, h5, hC _ _ _ _ _ (fun r s hr => ?_) q3⟩
      obtain ⟨e1, e2⟩ := hr
      subst e1
      subst e2
      exact ⟨q1, g2⟩
    · rw [if_neg h46] at h
      by_cases hal : 39 ≤ E.1 ∧ E.1 ≤ 41
      · rw [if_pos hal] at h
        cases ha : rf_alc E st with
        | none => rw [ha] at h; exact h.elim
        | some q =>
        obtain ⟨r, o, w⟩ := q
        rw [ha] at h
        obtain ⟨h1, h2, h3, h4, h5, h6⟩ := h
        obtain ⟨rv, σ1, g1, g2⟩ := ih _ _ _ _ _ _ _ h6
        refine ⟨rv, σ1, g1, ?_⟩
        unfold rf_wp
        rw [hE]
        dsimp only
        rw [if_neg h46, if_pos hal, ha]
        exact ⟨h1, h2, h3, h4, h5, g2⟩
      · rw [if_neg hal] at h
        by_cases h47 : 47 ≤ E.1
        · rw [if_pos h47] at h
          obtain ⟨h1, h2, h3⟩ := h
          revert h3
          have key : ∀ Q : rf_P, (match E.1, st with
            | 47, [] => Q none σ
            | 48, [.int z] => (narrow (mi.1.2.2.2.1.getD .int) (.int z) = .int z) ∧ Q (some (.int z)) σ
            | 49, [.long z] => Q (some (.long z)) σ
            | 50, [.ref z] => Q (some (.ref z)) σ
            | _, _ => False) → rf_wp SA ms C mi (n + 1) pc L st σ u v Q := by
            intro Q hQ
            unfold rf_wp
            rw [hE]
            dsimp only
            rw [if_neg h46, if_neg hal, if_pos h47]
            exact ⟨h1, h2, hQ⟩
          intro h3
          rcases zb_rt_inv h3 with ⟨e1, e2, h⟩ | ⟨z, e1, e2, h⟩ | ⟨z, e1, e2, h⟩ | ⟨z, e1, e2, h⟩
          · exact ⟨none, σ, h, key _ (by rw [e1, e2]; exact ⟨rfl, rfl⟩)⟩
          · exact ⟨some (.int z), σ, h.2, key _ (by rw [e1, e2]; exact ⟨h.1, rfl, rfl⟩)⟩
          · exact ⟨some (.long z), σ, h, key _ (by rw [e1, e2]; exact ⟨rfl, rfl⟩)⟩
          · exact ⟨some (.ref z), σ, h, key _ (by rw [e1, e2]; exact ⟨rfl, rfl⟩)⟩
        · rw [if_neg h47] at h
          cases hs : rf_stp SA E L st σ with
          | none => rw [hs] at h; exact h.elim
          | some q =>
          obtain ⟨pc', L', st', σ'⟩ := q
          rw [hs] at h
          obtain ⟨rv, σ1, g1, g2⟩ := ih _ _ _ _ _ _ _ h
          refine ⟨rv, σ1, g1, ?_⟩
          unfold rf_wp
          rw [hE]
          dsimp only
          rw [if_neg h46, if_neg hal, if_neg h47, hs]
          exact g2
theorem rf_run_det (SA : rf_A) (ms : List rf_M) : ∀ d : Nat, zb_det (rf_run SA ms d) := by
  intro d
  induction d with
  | zero => intro b As σ p h; exact h.elim
  | succ d ih =>
    intro b As σ p h
    obtain ⟨mi, h1, h2, n, h3⟩ := h
    obtain ⟨rv, σ1, g1, g2⟩ := rf_wp_det (rf_run_post SA ms d) ih n _ _ _ _ _ _ p h3
    exact ⟨rv, σ1, g1, mi, h1, h2, n, g2⟩
theorem rf_wp_C {SA : rf_A} {ms : List rf_M} {C C' : zb_K} {mi : rf_M} (hC : zb_mon C) (h0 : ∀ b As σ p, C b As σ p → C' b As σ p) : ∀ (n pc : Nat) (L : rf_L) (st : List Value) (σ : rf_S) (u v : Nat) (post : rf_P), rf_wp SA ms C mi n pc L st σ u v post → rf_wp SA ms C' mi n pc L st σ u v post := by
  intro n
  induction n with
  | zero => intro pc L st σ u v post h; exact h.elim
  | succ n ih =>
    intro pc L st σ u v post h
    unfold rf_wp at h ⊢
    split
    case h_1 hE => rw [hE] at h; exact h
    case h_2 E hE =>
    rw [hE] at h
    dsimp only at h
    split
    case isTrue h46 =>
      rw [if_pos h46] at h
      split
      case h_1 hm => rw [hm] at h; exact h
      case h_2 mj hm =>
      rw [hm] at h
      obtain ⟨h1, h2, h3, h4, h5, h6⟩ := h
      exact ⟨h1, h2, h3, h4, h5, h0 _ _ _ _ (hC _ _ _ _ _ (fun rv σ1 hp => ⟨hp.1, ih _ _ _ _ _ _ _ hp.2⟩) h6)⟩
    case isFalse h46 =>
    rw [if_neg h46] at h
    split
    case isTrue hal =>
      rw [if_pos hal] at h
      split
      case h_1 hm => rw [hm] at h; exact h
      case h_2 r o w hm =>
      rw [hm] at h
      obtain ⟨h1, h2, h3, h4, h5, h6⟩ := h
      exact ⟨h1, h2, h3, h4, h5, ih _ _ _ _ _ _ _ h6⟩
    case isFalse hal =>
    rw [if_neg hal] at h
    split
    case isTrue h47 => rw [if_pos h47] at h; exact h
    case isFalse h47 =>
    rw [if_neg h47] at h
    split
    case h_1 hm => rw [hm] at h; exact h
    case h_2 pc' L' st' σ' hm =>
    rw [hm] at h
    exact ih _ _ _ _ _ _ _ h
theorem rf_run_up (SA : rf_A) (ms : List rf_M) : ∀ (d b : Nat) (As : List Value) (σ : rf_S) (p : rf_P), rf_run SA ms d b As σ p → rf_run SA ms (d + 1) b As σ p := by
  intro d
  induction d with
  | zero => intro b As σ p h; exact h.elim
  | succ d ih =>
    intro b As σ p h
    obtain ⟨mi, h1, h2, n, h3⟩ := h
    exact ⟨mi, h1, h2, n, rf_wp_C (rf_run_post SA ms d) ih n _ _ _ _ _ _ p h3⟩
theorem rf_run_le {SA : rf_A} {ms : List rf_M} {d d' : Nat} (h : d ≤ d') {b : Nat} {As : List Value} {σ : rf_S} {p : rf_P} (hr : rf_run SA ms d b As σ p) : rf_run SA ms d' b As σ p := by
  induction h with
  | refl => exact hr
  | step _ ih => exact rf_run_up SA ms _ _ _ _ _ ih
/-- it comes to an end with that -/
def zb_W (SA : rf_A) (ms : List rf_M) (C : zb_K) (mi : rf_M) (pc : Nat) (L : rf_L) (st : List Value) (σ : rf_S) (u v : Nat) (post : rf_P) : Prop := ∃ n, rf_wp SA ms C mi n pc L st σ u v post
section
variable {SA : rf_A} {ms : List rf_M} {C : zb_K} {mi : rf_M} {pc : Nat} {L : rf_L} {st : List Value} {σ : rf_S} {u v : Nat} {post : rf_P} {E : rf_E}
theorem zb_W_step {pc' : Nat} {L' : rf_L} {st' : List Value} {σ' : rf_S} (hE : mi.2.2 pc = some E) (h46 : ¬ E.1 = 46) (hal : ¬ (39 ≤ E.1 ∧ E.1 ≤ 41)) (h47 : ¬ 47 ≤ E.1) (hs : rf_stp SA E L st σ = some (pc', L', st', σ')) (h : zb_W SA ms C mi pc' L' st' σ' u v post) : zb_W SA ms C mi pc L st σ u v post := by
  obtain ⟨n, h⟩ := h
  refine ⟨n + 1, ?_⟩
  unfold rf_wp
  rw [hE]
  dsimp only
  rw [if_neg h46, if_neg hal, if_neg h47, hs]
  exact h
theorem zb_W_call {mj : rf_M} (hD : zb_det C) (hC : zb_mon C) (hE : mi.2.2 pc = some E) (h46 : E.1 = 46) (hm : ms[E.2.2.1]? = some mj) (h1 : E.2.2.2.1 ≤ st.length) (h2 : rf_cat (st.drop E.2.2.2.1) ≤ 8) (h3 : rf_recv mj.2.1.1 mj.2.1.2.2.2.2.1 (st.take E.2.2.2.1).reverse σ = true) (h4 : u + mj.2.1.2.2.1 ≤ mi.2.1.2.2.1) (h5 : v + mj.2.1.2.2.2.1 ≤ mi.2.1.2.2.2.1)
    (h6 : C E.2.2.1 (st.take E.2.2.2.1).reverse σ (fun rv σ1 => σ1.length = σ.length ∧ zb_W SA ms C mi E.2.2.2.2.2.1 L (rv.toList ++ st.drop E.2.2.2.1) σ1 (u + mj.2.1.2.2.1) (v + mj.2.1.2.2.2.1) post)) : zb_W SA ms C mi pc L st σ u v post := by
  obtain ⟨rv, σ1, ⟨hl, n, hn⟩, q⟩ := hD _ _ _ _ h6
  refine ⟨n + 1, ?_⟩
  unfold rf_wp
  rw [hE]
  dsimp only
  rw [if_pos h46, hm]
  refine ⟨h1, h2, h3, h4, h5, hC _ _ _ _ _ (fun r s hr => ?_) q⟩
  obtain ⟨e1, e2⟩ := hr
  subst e1
  subst e2
  exact ⟨Or.inl hl, hn⟩
theorem zb_W_ret (hE : mi.2.2 pc = some E) (h46 : ¬ E.1 = 46) (hal : ¬ (39 ≤ E.1 ∧ E.1 ≤ 41)) (h47 : 47 ≤ E.1) (h1 : u ≤ mi.2.1.2.2.1) (h2 : v ≤ mi.2.1.2.2.2.1) (h3 : (match E.1, st with
        | 47, [] => post none σ
        | 48, [.int z] => (narrow (mi.1.2.2.2.1.getD .int) (.int z) = .int z) ∧ post (some (.int z)) σ
        | 49, [.long z] => post (some (.long z)) σ
        | 50, [.ref z] => post (some (.ref z)) σ
        | _, _ => False)) : zb_W SA ms C mi pc L st σ u v post := by
  refine ⟨1, ?_⟩
  unfold rf_wp
  rw [hE]
  dsimp only
  rw [if_neg h46, if_neg hal, if_pos h47]
  exact ⟨h1, h2, h3⟩
end
