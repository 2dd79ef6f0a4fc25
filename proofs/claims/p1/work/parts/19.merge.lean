/-! ways of a call that end alike are one way; the two first calls that need it -/
def an_hu (a b : Int × Int) : Int × Int := (an_min a.1 b.1, an_max a.2 b.2)
def an_hue (a b : an_N) : an_N := List.zipWith an_hu a b
def an_eOV : Option an_V → Option an_V → Bool
  | none, none => true
  | some a, some b => an_eV a b
  | _, _ => false
theorem an_eOV_ok : ∀ {a b : Option an_V}, an_eOV a b = true → a = b
  | none, none, _ => rfl
  | some a, some b, h => by rw [an_eV_ok (a := a) (b := b) h]
  | none, some _, h => by cases h
  | some _, none, h => by cases h
/-- one input's bounds differ, and those touch -/
def an_tch : an_N → an_N → Bool → Bool
  | [], [], _ => true
  | a :: as, b :: bs, f => bif decide (a = b) then an_tch as bs f else bif f && (decide (a.1 ≤ b.2 + 1) && decide (b.1 ≤ a.2 + 1)) then an_tch as bs false else false
  | _, _, _ => false
def an_ins (r : an_N × Option an_V × an_S) : an_R → an_R
  | [] => [r]
  | q :: t => bif an_tch r.1 q.1 true && (an_eOV r.2.1 q.2.1 && an_eL an_eO r.2.2 q.2.2) then (an_hue r.1 q.1, q.2) :: t else q :: an_ins r t
def an_mrg : an_R → an_R
  | [] => []
  | r :: t => an_ins r (an_mrg t)
theorem an_hue_get {a b : an_N} {k : Nat} {q : Int × Int} (h : (an_hue a b)[k]? = some q) : ∃ x y, a[k]? = some x ∧ b[k]? = some y ∧ q = an_hu x y := by
  unfold an_hue at h
  rw [List.getElem?_zipWith] at h
  split at h
  case h_1 x y hx hy => cases h; exact ⟨x, y, hx, hy, rfl⟩
  case h_2 => cases h
theorem an_hu_l {a b : an_N} {ρ : Nat → Int32} (h : an_e ρ a) : an_e ρ (an_hue a b) := by
  intro k q hq
  obtain ⟨x, y, hx, hy, rfl⟩ := an_hue_get hq
  have := h k x hx
  unfold an_hu an_min an_max
  dsimp only
  refine ⟨?_, ?_⟩
  · rw [cond_eq_ite]; split <;> rename_i h1
    · exact this.1
    · have : ¬ x.1 < y.1 := fun h2 => h1 (decide_eq_true h2)
      omega
  · rw [cond_eq_ite]; split <;> rename_i h1
    · have : x.2 < y.2 := of_decide_eq_true h1
      omega
    · exact this.2
theorem an_hu_r {a b : an_N} {ρ : Nat → Int32} (h : an_e ρ b) : an_e ρ (an_hue a b) := by
  intro k q hq
  obtain ⟨x, y, hx, hy, rfl⟩ := an_hue_get hq
  have := h k y hy
  unfold an_hu an_min an_max
  dsimp only
  refine ⟨?_, ?_⟩
  · rw [cond_eq_ite]; split <;> rename_i h1
    · have : x.1 < y.1 := of_decide_eq_true h1
      omega
    · exact this.1
  · rw [cond_eq_ite]; split <;> rename_i h1
    · exact this.2
    · have : ¬ x.2 < y.2 := fun h2 => h1 (decide_eq_true h2)
      omega
theorem an_ins_ok (r : an_N × Option an_V × an_S) : ∀ (t : an_R), (∃ q, q ∈ an_ins r t ∧ q.2 = r.2 ∧ ∀ ρ, an_e ρ r.1 → an_e ρ q.1) ∧ (∀ s, s ∈ t → ∃ q, q ∈ an_ins r t ∧ q.2 = s.2 ∧ ∀ ρ, an_e ρ s.1 → an_e ρ q.1)
  | [] => ⟨⟨r, List.mem_cons_self, rfl, fun _ h => h⟩, fun s hs => absurd hs List.not_mem_nil⟩
  | q :: t => by
    unfold an_ins
    rw [cond_eq_ite]
    split
    case isTrue h =>
      have h := an_and (an_and h).2
      have e1 := an_eOV_ok h.1
      have e2 := an_eL_ok an_eO_ok h.2
      refine ⟨⟨_, List.mem_cons_self, Prod.ext e1.symm e2.symm, fun ρ hr => an_hu_l hr⟩, fun s hs => ?_⟩
      rcases List.mem_cons.mp hs with rfl | hs
      · exact ⟨_, List.mem_cons_self, rfl, fun ρ hr => an_hu_r hr⟩
      · exact ⟨s, List.mem_cons_of_mem _ hs, rfl, fun _ h => h⟩
    case isFalse h =>
      obtain ⟨⟨x, x1, x2, x3⟩, h2⟩ := an_ins_ok r t
      refine ⟨⟨x, List.mem_cons_of_mem _ x1, x2, x3⟩, fun s hs => ?_⟩
      rcases List.mem_cons.mp hs with rfl | hs
      · exact ⟨s, List.mem_cons_self, rfl, fun _ h => h⟩
      · obtain ⟨y, y1, y2, y3⟩ := h2 s hs
        exact ⟨y, List.mem_cons_of_mem _ y1, y2, y3⟩
theorem an_mrg_ok : ∀ (rs : an_R) (r), r ∈ rs → ∃ q, q ∈ an_mrg rs ∧ q.2 = r.2 ∧ ∀ ρ, an_e ρ r.1 → an_e ρ q.1
  | [], r, h => absurd h List.not_mem_nil
  | s :: t, r, h => by
    unfold an_mrg
    rcases List.mem_cons.mp h with rfl | h
    · exact (an_ins_ok r (an_mrg t)).1
    · obtain ⟨q, q1, q2, q3⟩ := an_mrg_ok t r h
      obtain ⟨x, x1, x2, x3⟩ := (an_ins_ok s (an_mrg t)).2 q q1
      exact ⟨x, x1, x2.trans q2, fun ρ hr => x3 ρ (q3 ρ hr)⟩
def an_runm (LL : Nat) (ms : List rf_M) (F d k : Nat) (env : an_N) (As : List an_V) (σ : an_S) : Option an_R := match an_run LL ms F d k env As σ with
  | none => none
  | some rs => some (an_mrg rs)
theorem an_runm_ok {LL : Nat} {xs ρ : Nat → Int32} {ms : List rf_M} {F : Nat} (hρ : ∀ k, k < LL → ρ k = xs k) (d : Nat) : an_cov ρ (an_runm LL ms F d) (rf_run (rf_SA LL xs) ms d) := by
  intro b env As σ rs As' σ' post h he hA hσ hpost
  unfold an_runm at h
  split at h
  case h_1 => cases h
  case h_2 rs0 h0 =>
  cases h
  refine an_run_ok hρ d b env As σ rs0 As' σ' post h0 he hA hσ (fun r hr her rv σ1 h1 h2 => ?_)
  obtain ⟨q, q1, q2, q3⟩ := an_mrg_ok rs0 r hr
  exact hpost q q1 (q3 ρ her) rv σ1 (by rw [q2]; exact h1) (by rw [q2]; exact h2)
def an_fim (LL F d n : Nat) (c : an_C) : Bool := match an_body LL rf_ms (an_runm LL rf_ms F d) rf_law (fun _ => false) n c with
  | none => false
  | some cs => cs.all an_one1
theorem an_fim_ok {LL F d n : Nat} {xs : Nat → Int32} {c : an_C} {L' : rf_L} {st' : List Value} {σ' : rf_S} (h : an_fim LL F d n c = true) (hg : an_gc xs c L' st' σ') : rf_wp (rf_SA LL xs) rf_ms (rf_run (rf_SA LL xs) rf_ms d) rf_law n c.2.1 L' st' σ' c.2.2.2.2.2.1 c.2.2.2.2.2.2 (fun rv _ => rv = some (.int 1)) := by
  unfold an_fim at h
  split at h
  case h_1 => cases h
  case h_2 cs hb =>
  refine an_body_ok (m := 0) (fun _ _ => rfl) (fun b As σ p q => rf_run_post _ _ d b As σ p q) (an_runm_ok (fun _ _ => rfl) d) n c cs L' st' σ' hb hg (fun e he rv σ1 hr => ?_) (fun e he => ?_)
  · have h1 := List.all_eq_true.mp h _ he
    unfold an_one1 at h1
    obtain ⟨-, h2⟩ := an_and h1
    obtain ⟨-, -, r3⟩ := hr
    dsimp only at h2
    split at h2
    case h_2 => cases h2
    case h_1 x e1 =>
    rw [e1] at r3
    cases rv with
    | none => exact r3.elim
    | some v =>
      have r3 : v = .int x := r3
      rw [r3, of_decide_eq_true h2]
  · have h1 := List.all_eq_true.mp h _ he
    cases (an_and h1).1
set_option maxRecDepth 100000 in
theorem an_case_21 : an_fim 6 3000 12 3000 (an_ct0 723) = true := by decide +kernel
set_option maxRecDepth 100000 in
theorem an_case_32 : an_fim 6 3000 12 3000 (an_ct0 986) = true := by decide +kernel
