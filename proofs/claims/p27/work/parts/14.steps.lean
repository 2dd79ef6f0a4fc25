/-! each step of the abstract machine is among the ways of the boxes -/
section
variable {ρ : Nat → Int32} {LL LC : Nat} {xs : Nat → Int32} {env : an_N} {L : an_L} {L' : rf_L} {st : List an_V} {st' : List Value} {σ : an_S} {σ' : rf_S} {ws : List (an_N × Nat × an_L × List an_V × an_S)}
def an_In (ρ : Nat → Int32) (SA : rf_A) (E : rf_E) (ws : List (an_N × Nat × an_L × List an_V × an_S)) (L' : rf_L) (st' : List Value) (σ' : rf_S) : Prop := ∃ w, w ∈ ws ∧ an_e ρ w.1 ∧ ∃ r, rf_stp SA E L' st' σ' = some r ∧ r.1 = w.2.1 ∧ an_gL ρ w.2.2.1 r.2.1 ∧ an_gl ρ w.2.2.2.1 r.2.2.1 ∧ an_gs ρ w.2.2.2.2 r.2.2.2
theorem an_one {SA : rf_A} {E : rf_E} {w : an_N × Nat × an_L × List an_V × an_S} {r : Nat × rf_L × List Value × rf_S} (he : an_e ρ w.1) (hr : rf_stp SA E L' st' σ' = some r) (h1 : r.1 = w.2.1) (h2 : an_gL ρ w.2.2.1 r.2.1) (h3 : an_gl ρ w.2.2.2.1 r.2.2.1) (h4 : an_gs ρ w.2.2.2.2 r.2.2.2) : an_In ρ SA E [w] L' st' σ' := ⟨w, List.mem_singleton.mpr rfl, he, r, hr, h1, h2, h3, h4⟩
theorem an_s0 {a : Int} {b c x nxt : Nat} {sw : List (Int × Nat)} (hρ : ∀ k, k < LL → ρ k = xs k) (he : an_e ρ env) (hL : an_gL ρ L L') (hst : an_gl ρ st st') (hσ : an_gs ρ σ σ') (hs : an_stp LL (0, a, b, c, x, nxt, sw) env L st σ = some ws) : an_In ρ (rf_SA LC xs) (0, a, b, c, x, nxt, sw) ws L' st' σ' := by
  change an_p0 LL a b c x nxt sw env L st σ = some ws at hs
  simp only [an_p0] at hs
  cases hs
  exact an_one he rfl rfl hL ⟨rfl, hst⟩ hσ
theorem an_s1 {a : Int} {b c x nxt : Nat} {sw : List (Int × Nat)} (hρ : ∀ k, k < LL → ρ k = xs k) (he : an_e ρ env) (hL : an_gL ρ L L') (hst : an_gl ρ st st') (hσ : an_gs ρ σ σ') (hs : an_stp LL (1, a, b, c, x, nxt, sw) env L st σ = some ws) : an_In ρ (rf_SA LC xs) (1, a, b, c, x, nxt, sw) ws L' st' σ' := by
  change an_p1 LL a b c x nxt sw env L st σ = some ws at hs
  simp only [an_p1] at hs
  cases hs
  exact an_one he rfl rfl hL ⟨rfl, hst⟩ hσ
theorem an_s3 {a : Int} {b c x nxt : Nat} {sw : List (Int × Nat)} (hρ : ∀ k, k < LL → ρ k = xs k) (he : an_e ρ env) (hL : an_gL ρ L L') (hst : an_gl ρ st st') (hσ : an_gs ρ σ σ') (hs : an_stp LL (3, a, b, c, x, nxt, sw) env L st σ = some ws) : an_In ρ (rf_SA LC xs) (3, a, b, c, x, nxt, sw) ws L' st' σ' := by
  change an_p3 LL a b c x nxt sw env L st σ = some ws at hs
  simp only [an_p3] at hs
  split at hs
  case h_2 => cases hs
  case h_1 v hv =>
  rw [cond_eq_ite] at hs
  split at hs
  case isFalse => cases hs
  case isTrue hi =>
  cases hs
  obtain ⟨w, h1, h2⟩ := an_get_ok hL hv
  obtain ⟨y, rfl⟩ := an_g_Lo h2 hi
  exact an_one (r := (nxt, L', .long y :: st', σ')) he (by simp only [rf_stp, h1]) rfl hL ⟨h2, hst⟩ hσ
theorem an_cv_ok {v : an_V} {w : Value} (he : an_e ρ env) (h : an_g ρ v w) : an_g ρ (an_cv env v) w := by
  unfold an_cv
  split
  case h_1 q hq =>
    rw [cond_eq_ite]
    split
    case isTrue hd =>
      obtain ⟨x, rfl, g1, g2, -⟩ := an_pi_ok he hq h
      have hd : q.2.1 = q.2.2 := of_decide_eq_true hd
      have hx : x.toInt = q.2.1 := by omega
      show Value.int x = .int (Int32.ofInt q.2.1)
      rw [← hx, Int32.ofInt_toInt]
    case isFalse => exact h
  case h_2 => exact h
theorem an_each_ok {k : Nat} {x : Int32} (hk : (ρ k) = x) (he : an_e ρ env) : ∀ (n : Nat) (lo : Int), lo ≤ x.toInt → x.toInt < lo + (n : Int) → ∃ w, w ∈ an_each env k lo n ∧ an_e ρ w.1 ∧ w.2 = x
  | 0, lo, h1, h2 => by omega
  | n + 1, lo, h1, h2 => by
    by_cases h : x.toInt = lo
    · refine ⟨_, List.mem_cons_self, fun j q hj => ?_, by show Int32.ofInt lo = x; rw [← h, Int32.ofInt_toInt]⟩
      rw [List.getElem?_set] at hj
      by_cases hjk : k = j
      · subst hjk
        rw [if_pos rfl] at hj
        split at hj
        · cases hj
          rw [hk, h]
          exact ⟨Int.le_refl _, Int.le_refl _⟩
        · cases hj
      · rw [if_neg hjk] at hj
        exact he j q hj
    · obtain ⟨w, w1, w2, w3⟩ := an_each_ok hk he n (lo + 1) (by omega) (by omega)
      exact ⟨w, List.mem_cons_of_mem _ w1, w2, w3⟩
theorem an_few_ok {v : an_V} {w : Value} {is : List (an_N × Int32)} (he : an_e ρ env) (h : an_g ρ v w) (hf : an_few env v = some is) : ∃ q, q ∈ is ∧ an_e ρ q.1 ∧ w = .int q.2 := by
  unfold an_few at hf
  split at hf
  case h_1 i => cases hf; exact ⟨_, List.mem_singleton.mpr rfl, he, h⟩
  case h_2 k z =>
    split at hf
    case h_2 => cases hf
    case h_1 q hq =>
    rw [cond_eq_ite] at hf
    split at hf
    case isFalse => cases hf
    case isTrue hc =>
    cases hf
    have h1 := he _ _ hq
    have hle : q.1 ≤ q.2 := of_decide_eq_true (an_and hc).1
    obtain ⟨w', w1, w2, w3⟩ := an_each_ok (x := ρ k.toNat) rfl he (q.2 - q.1 + 1).toNat q.1 h1.1 (by omega)
    exact ⟨w', w1, w2, by rw [w3]; exact h⟩
  case h_3 => cases hf
theorem an_s2 {a : Int} {b c x nxt : Nat} {sw : List (Int × Nat)} (hρ : ∀ k, k < LL → ρ k = xs k) (he : an_e ρ env) (hL : an_gL ρ L L') (hst : an_gl ρ st st') (hσ : an_gs ρ σ σ') (hs : an_stp LL (2, a, b, c, x, nxt, sw) env L st σ = some ws) : an_In ρ (rf_SA LC xs) (2, a, b, c, x, nxt, sw) ws L' st' σ' := by
  change an_p2 LL a b c x nxt sw env L st σ = some ws at hs
  simp only [an_p2] at hs
  split at hs
  case h_2 => cases hs
  case h_1 v hv =>
  rw [cond_eq_ite] at hs
  split at hs
  case isFalse => cases hs
  case isTrue hi =>
  cases hs
  obtain ⟨w, h1, h2⟩ := an_get_ok hL hv
  obtain ⟨y, rfl⟩ := an_g_I h2 hi
  exact an_one (r := (nxt, L', .int y :: st', σ')) he (by simp only [rf_stp, h1]) rfl hL ⟨an_cv_ok he h2, hst⟩ hσ
theorem an_s4 {a : Int} {b c x nxt : Nat} {sw : List (Int × Nat)} (hρ : ∀ k, k < LL → ρ k = xs k) (he : an_e ρ env) (hL : an_gL ρ L L') (hst : an_gl ρ st st') (hσ : an_gs ρ σ σ') (hs : an_stp LL (4, a, b, c, x, nxt, sw) env L st σ = some ws) : an_In ρ (rf_SA LC xs) (4, a, b, c, x, nxt, sw) ws L' st' σ' := by
  change an_p4 LL a b c x nxt sw env L st σ = some ws at hs
  simp only [an_p4] at hs
  split at hs
  case h_2 => cases hs
  case h_1 v hv =>
  cases hs
  obtain ⟨w, h1, h2⟩ := an_get_ok hL hv
  cases h2
  exact an_one (r := (nxt, L', .ref v :: st', σ')) he (by simp only [rf_stp, h1]) rfl hL ⟨rfl, hst⟩ hσ
theorem an_s5 {a : Int} {b c x nxt : Nat} {sw : List (Int × Nat)} (hρ : ∀ k, k < LL → ρ k = xs k) (he : an_e ρ env) (hL : an_gL ρ L L') (hst : an_gl ρ st st') (hσ : an_gs ρ σ σ') (hs : an_stp LL (5, a, b, c, x, nxt, sw) env L st σ = some ws) : an_In ρ (rf_SA LC xs) (5, a, b, c, x, nxt, sw) ws L' st' σ' := by
  change an_p5 LL a b c x nxt sw env L st σ = some ws at hs
  simp only [an_p5] at hs
  split at hs
  case h_2 => cases hs
  case h_1 v r =>
  rw [cond_eq_ite] at hs
  split at hs
  case isFalse => cases hs
  case isTrue hi =>
  cases hs
  obtain ⟨w, r', rfl, h2, h3⟩ := an_gl_cons hst
  obtain ⟨y, rfl⟩ := an_g_I h2 hi
  exact an_one he rfl rfl (an_set_ok hL h2) h3 hσ
theorem an_s6 {a : Int} {b c x nxt : Nat} {sw : List (Int × Nat)} (hρ : ∀ k, k < LL → ρ k = xs k) (he : an_e ρ env) (hL : an_gL ρ L L') (hst : an_gl ρ st st') (hσ : an_gs ρ σ σ') (hs : an_stp LL (6, a, b, c, x, nxt, sw) env L st σ = some ws) : an_In ρ (rf_SA LC xs) (6, a, b, c, x, nxt, sw) ws L' st' σ' := by
  change an_p6 LL a b c x nxt sw env L st σ = some ws at hs
  simp only [an_p6] at hs
  split at hs
  case h_2 => cases hs
  case h_1 v r =>
  cases hs
  obtain ⟨w, r', rfl, h2, h3⟩ := an_gl_cons hst
  cases h2
  exact an_one he rfl rfl (an_set_ok hL rfl) h3 hσ
theorem an_s8 {a : Int} {b c x nxt : Nat} {sw : List (Int × Nat)} (hρ : ∀ k, k < LL → ρ k = xs k) (he : an_e ρ env) (hL : an_gL ρ L L') (hst : an_gl ρ st st') (hσ : an_gs ρ σ σ') (hs : an_stp LL (8, a, b, c, x, nxt, sw) env L st σ = some ws) : an_In ρ (rf_SA LC xs) (8, a, b, c, x, nxt, sw) ws L' st' σ' := by
  change an_p8 LL a b c x nxt sw env L st σ = some ws at hs
  simp only [an_p8] at hs
  split at hs
  case h_2 => cases hs
  case h_1 v hv =>
  cases hs
  obtain ⟨w, h1, h2⟩ := an_get_ok hL hv
  cases h2
  exact an_one (r := (nxt, rf_set L' b (.int (v + Int32.ofInt a)), st', σ')) he (by simp only [rf_stp, h1]) rfl (an_set_ok hL rfl) hst hσ
theorem an_s9 {a : Int} {b c x nxt : Nat} {sw : List (Int × Nat)} (hρ : ∀ k, k < LL → ρ k = xs k) (he : an_e ρ env) (hL : an_gL ρ L L') (hst : an_gl ρ st st') (hσ : an_gs ρ σ σ') (hs : an_stp LL (9, a, b, c, x, nxt, sw) env L st σ = some ws) : an_In ρ (rf_SA LC xs) (9, a, b, c, x, nxt, sw) ws L' st' σ' := by
  change an_p9 LL a b c x nxt sw env L st σ = some ws at hs
  simp only [an_p9] at hs
  split at hs
  case h_1 y z r =>
    cases hs
    obtain ⟨v1, r1, rfl, h2, h3⟩ := an_gl_cons hst
    obtain ⟨v2, r2, rfl, h4, h5⟩ := an_gl_cons h3
    cases h2
    cases h4
    exact an_one he rfl rfl hL ⟨rfl, h5⟩ hσ
  case h_2 y z r _ =>
    split at hs
    case h_2 => cases hs
    case h_1 qz qy hz hy =>
    cases hs
    obtain ⟨v1, r1, rfl, h2, h3⟩ := an_gl_cons hst
    obtain ⟨v2, r2, rfl, h4, h5⟩ := an_gl_cons h3
    obtain ⟨x1, rfl, g1⟩ := an_pi_ok he hy h2
    obtain ⟨x2, rfl, g2⟩ := an_pi_ok he hz h4
    exact an_one he rfl rfl hL ⟨an_bin_ok b g2 g1, h5⟩ hσ
  case h_3 => cases hs
theorem an_pos {y : Int32} (h : 0 < y.toInt) : ¬ y = 0 := fun q => by rw [q] at h; exact absurd h (by decide)
theorem an_div {x y : Int32} (hy : 0 < y.toInt) (hx : 0 ≤ x.toInt) : 0 ≤ (x / y).toInt ∧ (x / y).toInt ≤ x.toInt := by
  have h1 := Int32.toInt_div x y
  have h2 : x.toInt.tdiv y.toInt = x.toInt / y.toInt := Int.tdiv_eq_ediv_of_nonneg hx
  have h3 : 0 ≤ x.toInt / y.toInt := Int.ediv_nonneg hx (Int.le_of_lt hy)
  have h4 : x.toInt / y.toInt ≤ x.toInt := Int.ediv_le_self _ hx
  have h5 := Int32.toInt_lt x
  rw [h2, Int.bmod_eq_of_le (by omega) (by omega)] at h1
  rw [h1]
  exact ⟨h3, h4⟩
theorem an_s10 {a : Int} {b c x nxt : Nat} {sw : List (Int × Nat)} (hρ : ∀ k, k < LL → ρ k = xs k) (he : an_e ρ env) (hL : an_gL ρ L L') (hst : an_gl ρ st st') (hσ : an_gs ρ σ σ') (hs : an_stp LL (10, a, b, c, x, nxt, sw) env L st σ = some ws) : an_In ρ (rf_SA LC xs) (10, a, b, c, x, nxt, sw) ws L' st' σ' := by
  change an_p10 LL a b c x nxt sw env L st σ = some ws at hs
  simp only [an_p10] at hs
  split at hs
  case h_1 y z r =>
    rw [cond_eq_ite] at hs
    split at hs
    case isTrue => cases hs
    case isFalse hy =>
    cases hs
    obtain ⟨v1, r1, rfl, h2, h3⟩ := an_gl_cons hst
    obtain ⟨v2, r2, rfl, h4, h5⟩ := an_gl_cons h3
    cases h2
    cases h4
    have hy : ¬ y = 0 := of_decide_eq_false (Bool.eq_false_iff.mpr hy)
    exact an_one (r := (nxt, L', .int (z / y) :: r2, σ')) he (by simp only [rf_stp, decide_eq_false hy, cond_false]) rfl hL ⟨rfl, h5⟩ hσ
  case h_2 y z r _ =>
    rw [cond_eq_ite] at hs
    split at hs
    case isFalse => cases hs
    case isTrue hy =>
    have hy0 : 0 < y.toInt := of_decide_eq_true hy
    have hy : ¬ y = 0 := an_pos hy0
    split at hs
    case h_2 => cases hs
    case h_1 qz hz =>
    obtain ⟨v1, r1, rfl, h2, h3⟩ := an_gl_cons hst
    obtain ⟨v2, r2, rfl, h4, h5⟩ := an_gl_cons h3
    cases h2
    obtain ⟨x2, rfl, g2⟩ := an_pi_ok he hz h4
    rw [cond_eq_ite] at hs
    split at hs
    case isTrue h0 =>
      cases hs
      have h0 : 0 ≤ qz.2.1 := of_decide_eq_true h0
      have hd := an_div hy0 (Int.le_trans h0 g2.1)
      exact an_one (r := (nxt, L', .int (x2 / y) :: r2, σ')) he (by simp only [rf_stp, decide_eq_false hy, cond_false]) rfl hL ⟨⟨x2 / y, rfl, hd.1, Int.le_trans hd.2 g2.2.1⟩, h5⟩ hσ
    case isFalse =>
      cases hs
      exact an_one (r := (nxt, L', .int (x2 / y) :: r2, σ')) he (by simp only [rf_stp, decide_eq_false hy, cond_false]) rfl hL ⟨an_full _, h5⟩ hσ
  case h_3 => cases hs
theorem an_s11 {a : Int} {b c x nxt : Nat} {sw : List (Int × Nat)} (hρ : ∀ k, k < LL → ρ k = xs k) (he : an_e ρ env) (hL : an_gL ρ L L') (hst : an_gl ρ st st') (hσ : an_gs ρ σ σ') (hs : an_stp LL (11, a, b, c, x, nxt, sw) env L st σ = some ws) : an_In ρ (rf_SA LC xs) (11, a, b, c, x, nxt, sw) ws L' st' σ' := by
  change an_p11 LL a b c x nxt sw env L st σ = some ws at hs
  simp only [an_p11] at hs
  split at hs
  case h_1 y z r =>
    rw [cond_eq_ite] at hs
    split at hs
    case isTrue => cases hs
    case isFalse hy =>
    cases hs
    obtain ⟨v1, r1, rfl, h2, h3⟩ := an_gl_cons hst
    obtain ⟨v2, r2, rfl, h4, h5⟩ := an_gl_cons h3
    cases h2
    cases h4
    have hy : ¬ y = 0 := of_decide_eq_false (Bool.eq_false_iff.mpr hy)
    exact an_one (r := (nxt, L', .int (z - z / y * y) :: r2, σ')) he (by simp only [rf_stp, decide_eq_false hy, cond_false]) rfl hL ⟨rfl, h5⟩ hσ
  case h_2 y z r _ =>
    rw [cond_eq_ite] at hs
    split at hs
    case isFalse => cases hs
    case isTrue hy =>
    have hy : ¬ y = 0 := an_pos (of_decide_eq_true hy)
    split at hs
    case h_2 => cases hs
    case h_1 qz hz =>
    cases hs
    obtain ⟨v1, r1, rfl, h2, h3⟩ := an_gl_cons hst
    obtain ⟨v2, r2, rfl, h4, h5⟩ := an_gl_cons h3
    cases h2
    obtain ⟨x2, rfl, g2⟩ := an_pi_ok he hz h4
    exact an_one (r := (nxt, L', .int (x2 - x2 / y * y) :: r2, σ')) he (by simp only [rf_stp, decide_eq_false hy, cond_false]) rfl hL ⟨an_full _, h5⟩ hσ
  case h_3 => cases hs
theorem an_s12 {a : Int} {b c x nxt : Nat} {sw : List (Int × Nat)} (hρ : ∀ k, k < LL → ρ k = xs k) (he : an_e ρ env) (hL : an_gL ρ L L') (hst : an_gl ρ st st') (hσ : an_gs ρ σ σ') (hs : an_stp LL (12, a, b, c, x, nxt, sw) env L st σ = some ws) : an_In ρ (rf_SA LC xs) (12, a, b, c, x, nxt, sw) ws L' st' σ' := by
  change an_p12 LL a b c x nxt sw env L st σ = some ws at hs
  simp only [an_p12] at hs
  split at hs
  case h_1 y r =>
    cases hs
    obtain ⟨v1, r1, rfl, h2, h3⟩ := an_gl_cons hst
    cases h2
    exact an_one he rfl rfl hL ⟨rfl, h3⟩ hσ
  case h_2 v r _ =>
    rw [cond_eq_ite] at hs
    split at hs
    case isFalse => cases hs
    case isTrue hi =>
    cases hs
    obtain ⟨v1, r1, rfl, h2, h3⟩ := an_gl_cons hst
    obtain ⟨y, rfl⟩ := an_g_I h2 hi
    exact an_one he rfl rfl hL ⟨an_full _, h3⟩ hσ
  case h_3 => cases hs
theorem an_s13 {a : Int} {b c x nxt : Nat} {sw : List (Int × Nat)} (hρ : ∀ k, k < LL → ρ k = xs k) (he : an_e ρ env) (hL : an_gL ρ L L') (hst : an_gl ρ st st') (hσ : an_gs ρ σ σ') (hs : an_stp LL (13, a, b, c, x, nxt, sw) env L st σ = some ws) : an_In ρ (rf_SA LC xs) (13, a, b, c, x, nxt, sw) ws L' st' σ' := by
  change an_p13 LL a b c x nxt sw env L st σ = some ws at hs
  simp only [an_p13] at hs
  split at hs
  case h_1 y r =>
    cases hs
    obtain ⟨v1, r1, rfl, h2, h3⟩ := an_gl_cons hst
    cases h2
    exact an_one he rfl rfl hL ⟨rfl, h3⟩ hσ
  case h_2 k z r =>
    cases hs
    obtain ⟨v1, r1, rfl, h2, h3⟩ := an_gl_cons hst
    cases h2
    exact an_one he rfl rfl hL ⟨rfl, h3⟩ hσ
  case h_3 lo hi r =>
    cases hs
    obtain ⟨v1, r1, rfl, ⟨x2, rfl, g1, g2⟩, h3⟩ := an_gl_cons hst
    exact an_one he rfl rfl hL ⟨⟨x2.toInt64, rfl, by rw [Int32.toInt_toInt64]; exact g1, by rw [Int32.toInt_toInt64]; exact g2⟩, h3⟩ hσ
  case h_4 => cases hs
theorem an_s14 {a : Int} {b c x nxt : Nat} {sw : List (Int × Nat)} (hρ : ∀ k, k < LL → ρ k = xs k) (he : an_e ρ env) (hL : an_gL ρ L L') (hst : an_gl ρ st st') (hσ : an_gs ρ σ σ') (hs : an_stp LL (14, a, b, c, x, nxt, sw) env L st σ = some ws) : an_In ρ (rf_SA LC xs) (14, a, b, c, x, nxt, sw) ws L' st' σ' := by
  change an_p14 LL a b c x nxt sw env L st σ = some ws at hs
  simp only [an_p14] at hs
  split at hs
  case h_1 y r =>
    cases hs
    obtain ⟨v1, r1, rfl, h2, h3⟩ := an_gl_cons hst
    cases h2
    exact an_one he rfl rfl hL ⟨rfl, h3⟩ hσ
  case h_2 v r _ =>
    rw [cond_eq_ite] at hs
    split at hs
    case isFalse => cases hs
    case isTrue hi =>
    cases hs
    obtain ⟨v1, r1, rfl, h2, h3⟩ := an_gl_cons hst
    obtain ⟨y, rfl⟩ := an_g_Lo h2 hi
    exact an_one he rfl rfl hL ⟨an_full _, h3⟩ hσ
  case h_3 => cases hs
theorem an_s15 {a : Int} {b c x nxt : Nat} {sw : List (Int × Nat)} (hρ : ∀ k, k < LL → ρ k = xs k) (he : an_e ρ env) (hL : an_gL ρ L L') (hst : an_gl ρ st st') (hσ : an_gs ρ σ σ') (hs : an_stp LL (15, a, b, c, x, nxt, sw) env L st σ = some ws) : an_In ρ (rf_SA LC xs) (15, a, b, c, x, nxt, sw) ws L' st' σ' := by
  change an_p15 LL a b c x nxt sw env L st σ = some ws at hs
  simp only [an_p15] at hs
  split at hs
  case h_1 y r =>
    cases hs
    obtain ⟨v1, r1, rfl, h2, h3⟩ := an_gl_cons hst
    cases h2
    exact an_one he rfl rfl hL ⟨rfl, h3⟩ hσ
  case h_2 v r _ =>
    rw [cond_eq_ite] at hs
    split at hs
    case isFalse => cases hs
    case isTrue hi =>
    cases hs
    obtain ⟨v1, r1, rfl, h2, h3⟩ := an_gl_cons hst
    obtain ⟨y, rfl⟩ := an_g_I h2 hi
    exact an_one he rfl rfl hL ⟨an_full _, h3⟩ hσ
  case h_3 => cases hs
theorem an_s16 {a : Int} {b c x nxt : Nat} {sw : List (Int × Nat)} (hρ : ∀ k, k < LL → ρ k = xs k) (he : an_e ρ env) (hL : an_gL ρ L L') (hst : an_gl ρ st st') (hσ : an_gs ρ σ σ') (hs : an_stp LL (16, a, b, c, x, nxt, sw) env L st σ = some ws) : an_In ρ (rf_SA LC xs) (16, a, b, c, x, nxt, sw) ws L' st' σ' := by
  change an_p16 LL a b c x nxt sw env L st σ = some ws at hs
  simp only [an_p16] at hs
  split at hs
  case h_1 y r =>
    cases hs
    obtain ⟨v1, r1, rfl, h2, h3⟩ := an_gl_cons hst
    cases h2
    exact an_one he rfl rfl hL ⟨rfl, h3⟩ hσ
  case h_2 v r _ =>
    rw [cond_eq_ite] at hs
    split at hs
    case isFalse => cases hs
    case isTrue hi =>
    cases hs
    obtain ⟨v1, r1, rfl, h2, h3⟩ := an_gl_cons hst
    obtain ⟨y, rfl⟩ := an_g_I h2 hi
    exact an_one he rfl rfl hL ⟨an_full _, h3⟩ hσ
  case h_3 => cases hs
theorem an_s17 {a : Int} {b c x nxt : Nat} {sw : List (Int × Nat)} (hρ : ∀ k, k < LL → ρ k = xs k) (he : an_e ρ env) (hL : an_gL ρ L L') (hst : an_gl ρ st st') (hσ : an_gs ρ σ σ') (hs : an_stp LL (17, a, b, c, x, nxt, sw) env L st σ = some ws) : an_In ρ (rf_SA LC xs) (17, a, b, c, x, nxt, sw) ws L' st' σ' := by
  change an_p17 LL a b c x nxt sw env L st σ = some ws at hs
  simp only [an_p17] at hs
  split at hs
  case h_2 => cases hs
  case h_1 y z r =>
  rw [cond_eq_ite] at hs
  split at hs
  case isFalse => cases hs
  case isTrue hi =>
  cases hs
  obtain ⟨v1, r1, rfl, h2, h3⟩ := an_gl_cons hst
  obtain ⟨v2, r2, rfl, h4, h5⟩ := an_gl_cons h3
  obtain ⟨x1, rfl⟩ := an_g_Lo h2 (an_and hi).1
  obtain ⟨x2, rfl⟩ := an_g_Lo h4 (an_and hi).2
  exact an_one he rfl rfl hL ⟨an_fullL _, h5⟩ hσ
theorem an_s18 {a : Int} {b c x nxt : Nat} {sw : List (Int × Nat)} (hρ : ∀ k, k < LL → ρ k = xs k) (he : an_e ρ env) (hL : an_gL ρ L L') (hst : an_gl ρ st st') (hσ : an_gs ρ σ σ') (hs : an_stp LL (18, a, b, c, x, nxt, sw) env L st σ = some ws) : an_In ρ (rf_SA LC xs) (18, a, b, c, x, nxt, sw) ws L' st' σ' := by
  change an_p18 LL a b c x nxt sw env L st σ = some ws at hs
  simp only [an_p18] at hs
  split at hs
  case h_2 => cases hs
  case h_1 y z r =>
  rw [cond_eq_ite] at hs
  split at hs
  case isFalse => cases hs
  case isTrue hi =>
  cases hs
  obtain ⟨v1, r1, rfl, h2, h3⟩ := an_gl_cons hst
  obtain ⟨v2, r2, rfl, h4, h5⟩ := an_gl_cons h3
  obtain ⟨x1, rfl⟩ := an_g_I h2 (an_and hi).1
  obtain ⟨x2, rfl⟩ := an_g_Lo h4 (an_and hi).2
  exact an_one he rfl rfl hL ⟨an_fullL _, h5⟩ hσ
theorem an_lcmp {z y : Int64} : (y.toInt < z.toInt → lg_cmp z y = 1) ∧ (z.toInt = y.toInt → lg_cmp z y = 0) ∧ (z.toInt < y.toInt → lg_cmp z y = -1) := by
  unfold lg_cmp
  refine ⟨fun h => ?_, fun h => ?_, fun h => ?_⟩
  · rw [if_pos (Int64.lt_iff_toInt_lt.mpr h)]
  · have e1 : z = y := Int64.toInt_inj.mp h
    rw [if_neg (fun q => by have := Int64.lt_iff_toInt_lt.mp q; omega), if_pos e1]
  · rw [if_neg (fun q => by have := Int64.lt_iff_toInt_lt.mp q; omega), if_neg (fun q => by rw [q] at h; omega)]
theorem an_s19 {a : Int} {b c x nxt : Nat} {sw : List (Int × Nat)} (hρ : ∀ k, k < LL → ρ k = xs k) (he : an_e ρ env) (hL : an_gL ρ L L') (hst : an_gl ρ st st') (hσ : an_gs ρ σ σ') (hs : an_stp LL (19, a, b, c, x, nxt, sw) env L st σ = some ws) : an_In ρ (rf_SA LC xs) (19, a, b, c, x, nxt, sw) ws L' st' σ' := by
  change an_p19 LL a b c x nxt sw env L st σ = some ws at hs
  simp only [an_p19] at hs
  split at hs
  case h_2 => cases hs
  case h_1 y z r =>
  split at hs
  case h_2 => cases hs
  case h_1 qz qy hz hy =>
  cases hs
  obtain ⟨v1, r1, rfl, h2, h3⟩ := an_gl_cons hst
  obtain ⟨v2, r2, rfl, h4, h5⟩ := an_gl_cons h3
  obtain ⟨x1, rfl, g1⟩ := an_pl_ok he hy h2
  obtain ⟨x2, rfl, g2⟩ := an_pl_ok he hz h4
  have key : x1.toInt < x2.toInt ∨ x2.toInt = x1.toInt ∨ x2.toInt < x1.toInt := by omega
  have hl := an_lcmp (z := x2) (y := x1)
  rcases key with h | h | h
  · obtain ⟨e, e1, e2⟩ := an_LT_ok he g1 g2 h
    refine ⟨_, List.mem_append.mpr (Or.inl (List.mem_map.mpr ⟨e, e1, rfl⟩)), e2, _, rfl, rfl, hL, ⟨?_, h5⟩, hσ⟩
    show Value.int (lg_cmp x2 x1) = _
    rw [hl.1 h]
  · obtain ⟨e, e1, e2⟩ := an_EQ_ok he g2 g1 h
    refine ⟨_, List.mem_append.mpr (Or.inr (List.mem_append.mpr (Or.inl (List.mem_map.mpr ⟨e, e1, rfl⟩)))), e2, _, rfl, rfl, hL, ⟨?_, h5⟩, hσ⟩
    show Value.int (lg_cmp x2 x1) = _
    rw [hl.2.1 h]
  · obtain ⟨e, e1, e2⟩ := an_LT_ok he g2 g1 h
    refine ⟨_, List.mem_append.mpr (Or.inr (List.mem_append.mpr (Or.inr (List.mem_map.mpr ⟨e, e1, rfl⟩)))), e2, _, rfl, rfl, hL, ⟨?_, h5⟩, hσ⟩
    show Value.int (lg_cmp x2 x1) = _
    rw [hl.2.2 h]
theorem an_s20 {a : Int} {b c x nxt : Nat} {sw : List (Int × Nat)} (hρ : ∀ k, k < LL → ρ k = xs k) (he : an_e ρ env) (hL : an_gL ρ L L') (hst : an_gl ρ st st') (hσ : an_gs ρ σ σ') (hs : an_stp LL (20, a, b, c, x, nxt, sw) env L st σ = some ws) : an_In ρ (rf_SA LC xs) (20, a, b, c, x, nxt, sw) ws L' st' σ' := by
  change an_p20 LL a b c x nxt sw env L st σ = some ws at hs
  simp only [an_p20] at hs
  split at hs
  case h_2 => cases hs
  case h_1 =>
  rw [cond_eq_ite] at hs
  split at hs
  case isFalse => cases hs
  case isTrue hi =>
  cases hs
  obtain ⟨v1, r1, rfl, h2, h3⟩ := an_gl_cons hst
  have c1 : (v1.category == 1) = true := by rw [← an_g_ct h2]; exact (an_and hi).1
  exact an_one (r := (nxt, L', v1 :: v1 :: r1, σ')) he (by simp only [rf_stp, c1, cond_true]) rfl hL ⟨h2, h2, h3⟩ hσ
theorem an_s21 {a : Int} {b c x nxt : Nat} {sw : List (Int × Nat)} (hρ : ∀ k, k < LL → ρ k = xs k) (he : an_e ρ env) (hL : an_gL ρ L L') (hst : an_gl ρ st st') (hσ : an_gs ρ σ σ') (hs : an_stp LL (21, a, b, c, x, nxt, sw) env L st σ = some ws) : an_In ρ (rf_SA LC xs) (21, a, b, c, x, nxt, sw) ws L' st' σ' := by
  change an_p21 LL a b c x nxt sw env L st σ = some ws at hs
  simp only [an_p21] at hs
  split at hs
  case h_2 => cases hs
  case h_1 =>
  rw [cond_eq_ite] at hs
  split at hs
  case isFalse => cases hs
  case isTrue hi =>
  cases hs
  obtain ⟨v1, r1, rfl, h2, h3⟩ := an_gl_cons hst
  obtain ⟨v2, r2, rfl, h4, h5⟩ := an_gl_cons h3
  have c1 : (v1.category == 1) = true := by rw [← an_g_ct h2]; exact (an_and (an_and hi).1).1
  have c2 : (v2.category == 1) = true := by rw [← an_g_ct h4]; exact (an_and (an_and hi).2).1
  exact an_one (r := (nxt, L', v1 :: v2 :: v1 :: r2, σ')) he (by simp only [rf_stp, c1, c2, Bool.and_self, cond_true]) rfl hL ⟨h2, h4, h2, h5⟩ hσ
theorem an_s22 {a : Int} {b c x nxt : Nat} {sw : List (Int × Nat)} (hρ : ∀ k, k < LL → ρ k = xs k) (he : an_e ρ env) (hL : an_gL ρ L L') (hst : an_gl ρ st st') (hσ : an_gs ρ σ σ') (hs : an_stp LL (22, a, b, c, x, nxt, sw) env L st σ = some ws) : an_In ρ (rf_SA LC xs) (22, a, b, c, x, nxt, sw) ws L' st' σ' := by
  change an_p22 LL a b c x nxt sw env L st σ = some ws at hs
  simp only [an_p22] at hs
  split at hs
  case h_2 => cases hs
  case h_1 =>
  rw [cond_eq_ite] at hs
  split at hs
  case isFalse => cases hs
  case isTrue hi =>
  cases hs
  obtain ⟨v1, r1, rfl, h2, h3⟩ := an_gl_cons hst
  obtain ⟨v2, r2, rfl, h4, h5⟩ := an_gl_cons h3
  have c1 : (v1.category == 1) = true := by rw [← an_g_ct h2]; exact (an_and (an_and hi).1).1
  have c2 : (v2.category == 1) = true := by rw [← an_g_ct h4]; exact (an_and (an_and hi).2).1
  exact an_one (r := (nxt, L', v1 :: v2 :: v1 :: v2 :: r2, σ')) he (by simp only [rf_stp, c1, c2, Bool.and_self, cond_true]) rfl hL ⟨h2, h4, h2, h4, h5⟩ hσ
theorem an_s23 {a : Int} {b c x nxt : Nat} {sw : List (Int × Nat)} (hρ : ∀ k, k < LL → ρ k = xs k) (he : an_e ρ env) (hL : an_gL ρ L L') (hst : an_gl ρ st st') (hσ : an_gs ρ σ σ') (hs : an_stp LL (23, a, b, c, x, nxt, sw) env L st σ = some ws) : an_In ρ (rf_SA LC xs) (23, a, b, c, x, nxt, sw) ws L' st' σ' := by
  change an_p23 LL a b c x nxt sw env L st σ = some ws at hs
  simp only [an_p23] at hs
  split at hs
  case h_2 => cases hs
  case h_1 =>
  rw [cond_eq_ite] at hs
  split at hs
  case isFalse => cases hs
  case isTrue hi =>
  cases hs
  obtain ⟨v1, r1, rfl, h2, h3⟩ := an_gl_cons hst
  have c1 : (v1.category == 1) = true := by rw [← an_g_ct h2]; exact (an_and hi).1
  exact an_one (r := (nxt, L', r1, σ')) he (by simp only [rf_stp, c1, cond_true]) rfl hL h3 hσ
theorem an_s24 {a : Int} {b c x nxt : Nat} {sw : List (Int × Nat)} (hρ : ∀ k, k < LL → ρ k = xs k) (he : an_e ρ env) (hL : an_gL ρ L L') (hst : an_gl ρ st st') (hσ : an_gs ρ σ σ') (hs : an_stp LL (24, a, b, c, x, nxt, sw) env L st σ = some ws) : an_In ρ (rf_SA LC xs) (24, a, b, c, x, nxt, sw) ws L' st' σ' := by
  change an_p24 LL a b c x nxt sw env L st σ = some ws at hs
  simp only [an_p24] at hs
  split at hs
  case h_2 => cases hs
  case h_1 =>
  rw [cond_eq_ite] at hs
  split at hs
  case isFalse => cases hs
  case isTrue hi =>
  cases hs
  obtain ⟨v1, r1, rfl, h2, h3⟩ := an_gl_cons hst
  have c1 : (v1.category == 2) = true := by rw [← an_g_ct h2]; exact (an_and hi).1
  exact an_one (r := (nxt, L', r1, σ')) he (by simp only [rf_stp, c1, cond_true]) rfl hL h3 hσ
theorem an_s25 {a : Int} {b c x nxt : Nat} {sw : List (Int × Nat)} (hρ : ∀ k, k < LL → ρ k = xs k) (he : an_e ρ env) (hL : an_gL ρ L L') (hst : an_gl ρ st st') (hσ : an_gs ρ σ σ') (hs : an_stp LL (25, a, b, c, x, nxt, sw) env L st σ = some ws) : an_In ρ (rf_SA LC xs) (25, a, b, c, x, nxt, sw) ws L' st' σ' := by
  change an_p25 LL a b c x nxt sw env L st σ = some ws at hs
  simp only [an_p25] at hs
  split at hs
  case h_2 => cases hs
  case h_1 y r =>
  split at hs
  case h_2 => cases hs
  case h_1 q hq =>
  cases hs
  obtain ⟨v1, r1, rfl, h2, h3⟩ := an_gl_cons hst
  obtain ⟨x1, rfl, g1⟩ := an_pi_ok he hq h2
  obtain ⟨w, e1, e2, e3⟩ := an_cmp_ok (x := x1) (y := 0) (qy := (none, 0, 0)) b he g1 ⟨by decide, by decide, fun k hk => by cases hk⟩
  exact ⟨_, List.mem_map.mpr ⟨w, e1, rfl⟩, e3, _, rfl, by rw [e2], hL, h3, hσ⟩
theorem an_s26 {a : Int} {b c x nxt : Nat} {sw : List (Int × Nat)} (hρ : ∀ k, k < LL → ρ k = xs k) (he : an_e ρ env) (hL : an_gL ρ L L') (hst : an_gl ρ st st') (hσ : an_gs ρ σ σ') (hs : an_stp LL (26, a, b, c, x, nxt, sw) env L st σ = some ws) : an_In ρ (rf_SA LC xs) (26, a, b, c, x, nxt, sw) ws L' st' σ' := by
  change an_p26 LL a b c x nxt sw env L st σ = some ws at hs
  simp only [an_p26] at hs
  split at hs
  case h_2 => cases hs
  case h_1 y z r =>
  split at hs
  case h_2 => cases hs
  case h_1 qz qy hz hy =>
  cases hs
  obtain ⟨v1, r1, rfl, h2, h3⟩ := an_gl_cons hst
  obtain ⟨v2, r2, rfl, h4, h5⟩ := an_gl_cons h3
  obtain ⟨x1, rfl, g1⟩ := an_pi_ok he hy h2
  obtain ⟨x2, rfl, g2⟩ := an_pi_ok he hz h4
  obtain ⟨w, e1, e2, e3⟩ := an_cmp_ok (x := x2) (y := x1) b he g2 g1
  exact ⟨_, List.mem_map.mpr ⟨w, e1, rfl⟩, e3, _, rfl, by rw [e2], hL, h5, hσ⟩
theorem an_s27 {a : Int} {b c x nxt : Nat} {sw : List (Int × Nat)} (hρ : ∀ k, k < LL → ρ k = xs k) (he : an_e ρ env) (hL : an_gL ρ L L') (hst : an_gl ρ st st') (hσ : an_gs ρ σ σ') (hs : an_stp LL (27, a, b, c, x, nxt, sw) env L st σ = some ws) : an_In ρ (rf_SA LC xs) (27, a, b, c, x, nxt, sw) ws L' st' σ' := by
  change an_p27 LL a b c x nxt sw env L st σ = some ws at hs
  simp only [an_p27] at hs
  cases hs
  exact an_one he rfl rfl hL hst hσ
theorem an_s28 {a : Int} {b c x nxt : Nat} {sw : List (Int × Nat)} (hρ : ∀ k, k < LL → ρ k = xs k) (he : an_e ρ env) (hL : an_gL ρ L L') (hst : an_gl ρ st st') (hσ : an_gs ρ σ σ') (hs : an_stp LL (28, a, b, c, x, nxt, sw) env L st σ = some ws) : an_In ρ (rf_SA LC xs) (28, a, b, c, x, nxt, sw) ws L' st' σ' := by
  change an_p28 LL a b c x nxt sw env L st σ = some ws at hs
  simp only [an_p28] at hs
  split at hs
  case h_1 y r =>
    cases hs
    obtain ⟨v1, r1, rfl, h2, h3⟩ := an_gl_cons hst
    cases h2
    exact an_one he rfl rfl hL h3 hσ
  case h_2 y r _ =>
    split at hs
    case h_2 => cases hs
    case h_1 q hq =>
    cases hs
    obtain ⟨v1, r1, rfl, h2, h3⟩ := an_gl_cons hst
    obtain ⟨x1, rfl, g1⟩ := an_pi_ok he hq h2
    obtain ⟨w, e1, e2, e3⟩ := an_sw_ok c (kk := q.1) (z := x1.toInt) g1.2.2 sw env q.2.1 q.2.2 he g1.1 g1.2.1
    exact ⟨_, List.mem_map.mpr ⟨w, e1, rfl⟩, e3, _, rfl, by rw [e2], hL, h3, hσ⟩
  case h_3 => cases hs
theorem an_obj {ci : Nat} {fs : List an_V} {o : va_E} (h : an_go ρ (.inr (ci, fs)) o) : ∃ gs, o = .inr (ci, gs) ∧ an_gl ρ fs gs := by
  rcases o with ⟨k, n, f⟩ | ⟨cj, gs⟩
  · exact h.elim
  · obtain ⟨rfl, h⟩ := h
    exact ⟨gs, rfl, h⟩
theorem an_ari {n : Nat} {d : an_V} {ups : List (Nat × an_V)} {o : va_E} (h : an_go ρ (.inl (0, n, d, ups)) o) : ∃ f, o = .inl (0, n, .inl f) ∧ ∀ j, an_g ρ (an_at d ups j) (.int (f j)) := by
  rcases o with ⟨k, m, f | f | f | f | f⟩ | ⟨cj, gs⟩
  · obtain ⟨rfl, rfl, h⟩ := h
    exact ⟨f, rfl, h⟩
  all_goals exact h.elim
theorem an_arl {n : Nat} {d : an_V} {ups : List (Nat × an_V)} {o : va_E} (h : an_go ρ (.inl (1, n, d, ups)) o) : ∃ f, o = .inl (1, n, .inr (.inl f)) ∧ ∀ j, an_g ρ (an_at d ups j) (.long (f j)) := by
  rcases o with ⟨k, m, f | f | f | f | f⟩ | ⟨cj, gs⟩
  · exact h.elim
  · obtain ⟨rfl, rfl, h⟩ := h
    exact ⟨f, rfl, h⟩
  all_goals exact h.elim
theorem an_arq {n : Nat} {d : an_V} {ups : List (Nat × an_V)} {o : va_E} (h : an_go ρ (.inl (2, n, d, ups)) o) : ∃ f, o = .inl (2, n, .inr (.inr (.inr (.inr f)))) ∧ ∀ j, an_g ρ (an_at d ups j) (va_rf (f j)) := by
  rcases o with ⟨k, m, f | f | f | f | f⟩ | ⟨cj, gs⟩
  case inl.inr.inr.inr.inr =>
    obtain ⟨rfl, rfl, h⟩ := h
    exact ⟨f, rfl, h⟩
  all_goals exact h.elim
theorem an_ark {k n : Nat} {d : an_V} {ups : List (Nat × an_V)} {o : va_E} (h : an_go ρ (.inl (k, n, d, ups)) o) : ∃ c, o = .inl (k, n, c) := by
  match k, h with
  | 0, h => obtain ⟨f, h, -⟩ := an_ari h; exact ⟨_, h⟩
  | 1, h => obtain ⟨f, h, -⟩ := an_arl h; exact ⟨_, h⟩
  | 2, h => obtain ⟨f, h, -⟩ := an_arq h; exact ⟨_, h⟩
  | k + 3, h => rcases o with ⟨k', m, f | f | f | f | f⟩ | ⟨cj, gs⟩ <;> exact h.elim
theorem an_s29 {a : Int} {b c x nxt : Nat} {sw : List (Int × Nat)} (hρ : ∀ k, k < LL → ρ k = xs k) (he : an_e ρ env) (hL : an_gL ρ L L') (hst : an_gl ρ st st') (hσ : an_gs ρ σ σ') (hs : an_stp LL (29, a, b, c, x, nxt, sw) env L st σ = some ws) : an_In ρ (rf_SA LC xs) (29, a, b, c, x, nxt, sw) ws L' st' σ' := by
  change an_p29 LL a b c x nxt sw env L st σ = some ws at hs
  simp only [an_p29] at hs
  split at hs
  case h_2 => cases hs
  case h_1 r0 r =>
  split at hs
  case h_2 => cases hs
  case h_1 ci fs hcell =>
  rw [cond_eq_ite] at hs
  split at hs
  case isFalse => cases hs
  case isTrue hci =>
  split at hs
  case h_2 => cases hs
  case h_1 v hv =>
  cases hs
  obtain ⟨v1, r1, rfl, h2, h3⟩ := an_gl_cons hst
  cases h2
  obtain ⟨o', g1, g2⟩ := an_gs_get hσ hcell
  obtain ⟨gs, rfl, g3⟩ := an_obj g2
  obtain ⟨w, g4, g5⟩ := an_gl_get g3 hv
  exact an_one (r := (nxt, L', w :: r1, σ')) he (by simp only [rf_stp, g1, hci, cond_true, g4]) rfl hL ⟨g5, h3⟩ hσ
theorem an_s30 {a : Int} {b c x nxt : Nat} {sw : List (Int × Nat)} (hρ : ∀ k, k < LL → ρ k = xs k) (he : an_e ρ env) (hL : an_gL ρ L L') (hst : an_gl ρ st st') (hσ : an_gs ρ σ σ') (hs : an_stp LL (30, a, b, c, x, nxt, sw) env L st σ = some ws) : an_In ρ (rf_SA LC xs) (30, a, b, c, x, nxt, sw) ws L' st' σ' := by
  change an_p30 LL a b c x nxt sw env L st σ = some ws at hs
  simp only [an_p30] at hs
  split at hs
  case h_2 => cases hs
  case h_1 v r0 r =>
  split at hs
  case h_2 => cases hs
  case h_1 ci fs hcell =>
  rw [cond_eq_ite] at hs
  split at hs
  case isFalse => cases hs
  case isTrue hci =>
  cases hs
  obtain ⟨v1, r1, rfl, h2, h3⟩ := an_gl_cons hst
  obtain ⟨v2, r2, rfl, h4, h5⟩ := an_gl_cons h3
  cases h4
  obtain ⟨o', g1, g2⟩ := an_gs_get hσ hcell
  obtain ⟨gs, rfl, g3⟩ := an_obj g2
  have c1 := (an_and (an_and hci).1).1
  have c2 := an_fit_ok h2 (an_and (an_and hci).1).2
  have c3 := (an_and hci).2
  rw [an_gl_len g3] at c3
  exact an_one (r := (nxt, L', r2, σ'.set r0 (.inr (b, gs.set c v1)))) he (by simp only [rf_stp, g1, c1, c2, c3, Bool.and_self, cond_true]) rfl hL h5 (by
    have e0 : ci = b := Nat.eq_of_beq_eq_true c1
    subst e0
    show an_gs ρ (an_wf σ r0 ci fs c v) _
    rw [an_wf_eq c v hcell]
    exact an_gs_set _ hσ ⟨rfl, an_gl_set _ g3 h2⟩)
theorem an_s31 {a : Int} {b c x nxt : Nat} {sw : List (Int × Nat)} (hρ : ∀ k, k < LL → ρ k = xs k) (he : an_e ρ env) (hL : an_gL ρ L L') (hst : an_gl ρ st st') (hσ : an_gs ρ σ σ') (hs : an_stp LL (31, a, b, c, x, nxt, sw) env L st σ = some ws) : an_In ρ (rf_SA LC xs) (31, a, b, c, x, nxt, sw) ws L' st' σ' := by
  change an_p31 LL a b c x nxt sw env L st σ = some ws at hs
  simp only [an_p31] at hs
  cases hs
  exact an_one he rfl rfl hL ⟨rfl, hst⟩ hσ
theorem an_ixs {i : Int32} {n : Nat} (h0 : ¬ i < 0) (h : i.toNatClampNeg < n) : rf_ixs i n = true := by
  unfold rf_ixs
  rw [decide_eq_true h0, decide_eq_true h]
  rfl
theorem an_SA_ok {j i : Nat} {v : an_V} (hρ : ∀ k, k < LL → ρ k = xs k) (h : an_SA LL j i = some v) : ∃ q, rf_SA LC xs j = some q ∧ i < q.1 ∧ an_g ρ v (.int (q.2 i)) := by
  unfold an_SA at h
  split at h
  · rw [cond_eq_ite] at h
    split at h
    case isTrue hi => cases h; exact ⟨_, rfl, Nat.le_of_ble_eq_true hi, rfl⟩
    case isFalse => cases h
  · rw [cond_eq_ite] at h
    split at h
    case isTrue hi => cases h; exact ⟨_, rfl, Nat.le_of_ble_eq_true hi, rfl⟩
    case isFalse => cases h
  · cases h
theorem an_ld_S {nxt r0 : Nat} {r : List an_V} {env1 : an_N} {i : Int32} (h6 : rf_isS r0 = true) (hs : an_ld LL nxt L r σ r0 (env1, i) = some ws) : ¬ i < 0 ∧ ∃ v, an_SA LL (rf_ix r0) i.toNatClampNeg = some v ∧ ws = [(env1, nxt, L, v :: r, σ)] := by
  unfold an_ld at hs
  by_cases hi : i < 0
  · rw [decide_eq_true hi, cond_true] at hs; cases hs
  · rw [decide_eq_false hi, cond_false, h6, cond_true] at hs
    refine ⟨hi, ?_⟩
    generalize rf_ix r0 = j at hs ⊢
    cases hv : an_SA LL j i.toNatClampNeg with
    | none => rw [hv] at hs; cases hs
    | some v => rw [hv] at hs; exact ⟨v, rfl, (Option.some.inj hs).symm⟩
theorem an_ld_H {nxt r0 : Nat} {r : List an_V} {env1 : an_N} {i : Int32} (h6 : rf_isS r0 = false) (hs : an_ld LL nxt L r σ r0 (env1, i) = some ws) : ¬ i < 0 ∧ ∃ n d ups, σ[r0]? = some (.inl (0, n, d, ups)) ∧ i.toNatClampNeg < n ∧ ws = [(env1, nxt, L, an_at d ups i.toNatClampNeg :: r, σ)] := by
  unfold an_ld at hs
  by_cases hi : i < 0
  · rw [decide_eq_true hi, cond_true] at hs; cases hs
  · rw [decide_eq_false hi, cond_false, h6, cond_false] at hs
    refine ⟨hi, ?_⟩
    split at hs
    case h_2 => cases hs
    case h_1 n d ups hcell =>
    rw [cond_eq_ite] at hs
    split at hs
    case isFalse => cases hs
    case isTrue hin =>
    exact ⟨n, d, ups, hcell, Nat.le_of_ble_eq_true hin, (Option.some.inj hs).symm⟩
theorem an_st_S {SA : rf_A} {a : Int} {b c x nxt r0 : Nat} {sw : List (Int × Nat)} {r2 : List Value} {i : Int32} {q : Nat × (Nat → Int32)} (h6 : rf_isS r0 = true) (h1 : SA (rf_ix r0) = some q) (h2 : rf_ixs i q.1 = true) : rf_stp SA (32, a, b, c, x, nxt, sw) L' (.int i :: .ref r0 :: r2) σ' = some (nxt, L', .int (q.2 i.toNatClampNeg) :: r2, σ') := by
  simp only [rf_stp]
  generalize rf_ix r0 = j at h1 ⊢
  rw [h6, h1]
  simp only [cond_true, h2]
theorem an_st_H {SA : rf_A} {a : Int} {b c x nxt r0 n : Nat} {sw : List (Int × Nat)} {r2 : List Value} {i : Int32} {f : Nat → Int32} (h6 : rf_isS r0 = false) (h1 : σ'[r0]? = some (.inl (0, n, .inl f))) (h2 : rf_ixs i n = true) : rf_stp SA (32, a, b, c, x, nxt, sw) L' (.int i :: .ref r0 :: r2) σ' = some (nxt, L', .int (f i.toNatClampNeg) :: r2, σ') := by
  simp only [rf_stp]
  generalize rf_ix r0 = j
  rw [h6]
  simp only [cond_false, h1, h2, cond_true]
theorem an_ld_ok {a : Int} {b c x nxt r0 : Nat} {sw : List (Int × Nat)} {r : List an_V} {r2 : List Value} {env1 : an_N} {i : Int32} (hρ : ∀ k, k < LL → ρ k = xs k) (he : an_e ρ env1) (hL : an_gL ρ L L') (h5 : an_gl ρ r r2) (hσ : an_gs ρ σ σ') (hs : an_ld LL nxt L r σ r0 (env1, i) = some ws) : an_In ρ (rf_SA LC xs) (32, a, b, c, x, nxt, sw) ws L' (.int i :: .ref r0 :: r2) σ' := by
  cases h6 : rf_isS r0 with
  | true =>
    obtain ⟨hi0, v, hv, rfl⟩ := an_ld_S h6 hs
    obtain ⟨q, g1, g2, g3⟩ := an_SA_ok (LC := LC) (xs := xs) hρ hv
    exact an_one he (an_st_S h6 g1 (an_ixs hi0 g2)) rfl hL ⟨g3, h5⟩ hσ
  | false =>
    obtain ⟨hi0, n, d, ups, hcell, hin, rfl⟩ := an_ld_H h6 hs
    obtain ⟨o', g1, g2⟩ := an_gs_get hσ hcell
    obtain ⟨f, rfl, g3⟩ := an_ari g2
    exact an_one he (an_st_H h6 g1 (an_ixs hi0 hin)) rfl hL ⟨g3 _, h5⟩ hσ
theorem an_s32 {a : Int} {b c x nxt : Nat} {sw : List (Int × Nat)} (hρ : ∀ k, k < LL → ρ k = xs k) (he : an_e ρ env) (hL : an_gL ρ L L') (hst : an_gl ρ st st') (hσ : an_gs ρ σ σ') (hs : an_stp LL (32, a, b, c, x, nxt, sw) env L st σ = some ws) : an_In ρ (rf_SA LC xs) (32, a, b, c, x, nxt, sw) ws L' st' σ' := by
  change an_p32 LL a b c x nxt sw env L st σ = some ws at hs
  simp only [an_p32] at hs
  split at hs
  case h_2 => cases hs
  case h_1 iv r0 r =>
  split at hs
  case h_1 => cases hs
  case h_2 is his =>
  obtain ⟨v1, r1, rfl, h2, h3⟩ := an_gl_cons hst
  obtain ⟨v2, r2, rfl, h4, h5⟩ := an_gl_cons h3
  cases h4
  obtain ⟨⟨env1, i⟩, q1, q2, rfl⟩ := an_few_ok he h2 his
  obtain ⟨a1, k1, k2⟩ := an_all_ok hs _ q1
  obtain ⟨w', w1, w2⟩ := an_ld_ok (a := a) (b := b) (c := c) (x := x) (sw := sw) hρ q2 hL h5 hσ k1
  exact ⟨w', k2 w' w1, w2⟩
theorem an_s33 {a : Int} {b c x nxt : Nat} {sw : List (Int × Nat)} (hρ : ∀ k, k < LL → ρ k = xs k) (he : an_e ρ env) (hL : an_gL ρ L L') (hst : an_gl ρ st st') (hσ : an_gs ρ σ σ') (hs : an_stp LL (33, a, b, c, x, nxt, sw) env L st σ = some ws) : an_In ρ (rf_SA LC xs) (33, a, b, c, x, nxt, sw) ws L' st' σ' := by
  change an_p33 LL a b c x nxt sw env L st σ = some ws at hs
  simp only [an_p33] at hs
  split at hs
  case h_2 => cases hs
  case h_1 v iv r0 r =>
  split at hs
  case h_2 => cases hs
  case h_1 is n d ups his hcell =>
  obtain ⟨v1, r1, rfl, h2, h3⟩ := an_gl_cons hst
  obtain ⟨v2, r2, rfl, h4, h5⟩ := an_gl_cons h3
  obtain ⟨v3, r3, rfl, h6, h7⟩ := an_gl_cons h5
  cases h6
  obtain ⟨⟨env1, i⟩, q1, q2, rfl⟩ := an_few_ok he h4 his
  obtain ⟨a1, k1, k2⟩ := an_all_ok hs _ q1
  dsimp only at q2 k1 ⊢
  rw [cond_eq_ite] at k1
  split at k1
  case isFalse => cases k1
  case isTrue hin =>
  cases k1
  obtain ⟨y, rfl⟩ := an_g_I h2 (an_and hin).2
  obtain ⟨o', g1, g2⟩ := an_gs_get hσ hcell
  obtain ⟨f, rfl, g3⟩ := an_ari g2
  refine ⟨_, k2 _ List.mem_cons_self, q2, (nxt, L', r3, σ'.set r0 (.inl (0, n, .inl (upd f i.toNatClampNeg y)))), by simp only [rf_stp, g1, (an_and hin).1, cond_true], rfl, hL, h7, ?_⟩
  show an_gs ρ (an_wa σ r0 0 n d ups i.toNatClampNeg v) _
  rw [an_wa_eq _ v hcell]
  refine an_gs_set _ hσ ⟨rfl, rfl, fun j => ?_⟩
  rw [an_at_up]
  unfold upd
  by_cases hj : j = i.toNatClampNeg
  · rw [if_pos hj, if_pos hj]; exact h2
  · rw [if_neg hj, if_neg hj]; exact g3 j
theorem an_s34 {a : Int} {b c x nxt : Nat} {sw : List (Int × Nat)} (hρ : ∀ k, k < LL → ρ k = xs k) (he : an_e ρ env) (hL : an_gL ρ L L') (hst : an_gl ρ st st') (hσ : an_gs ρ σ σ') (hs : an_stp LL (34, a, b, c, x, nxt, sw) env L st σ = some ws) : an_In ρ (rf_SA LC xs) (34, a, b, c, x, nxt, sw) ws L' st' σ' := by
  change an_p34 LL a b c x nxt sw env L st σ = some ws at hs
  simp only [an_p34] at hs
  split at hs
  case h_2 => cases hs
  case h_1 i r0 r =>
  split at hs
  case h_2 => cases hs
  case h_1 n d ups hcell =>
  rw [cond_eq_ite] at hs
  split at hs
  case isFalse => cases hs
  case isTrue hin =>
  cases hs
  obtain ⟨v1, r1, rfl, h2, h3⟩ := an_gl_cons hst
  obtain ⟨v2, r2, rfl, h4, h5⟩ := an_gl_cons h3
  cases h2
  cases h4
  obtain ⟨o', g1, g2⟩ := an_gs_get hσ hcell
  obtain ⟨f, rfl, g3⟩ := an_arl g2
  exact an_one (r := (nxt, L', .long (f i.toNatClampNeg) :: r2, σ')) he (by simp only [rf_stp, g1, hin, cond_true]) rfl hL ⟨g3 _, h5⟩ hσ
theorem an_s35 {a : Int} {b c x nxt : Nat} {sw : List (Int × Nat)} (hρ : ∀ k, k < LL → ρ k = xs k) (he : an_e ρ env) (hL : an_gL ρ L L') (hst : an_gl ρ st st') (hσ : an_gs ρ σ σ') (hs : an_stp LL (35, a, b, c, x, nxt, sw) env L st σ = some ws) : an_In ρ (rf_SA LC xs) (35, a, b, c, x, nxt, sw) ws L' st' σ' := by
  change an_p35 LL a b c x nxt sw env L st σ = some ws at hs
  simp only [an_p35] at hs
  split at hs
  case h_2 => cases hs
  case h_1 v i r0 r =>
  split at hs
  case h_2 => cases hs
  case h_1 n d ups hcell =>
  rw [cond_eq_ite] at hs
  split at hs
  case isFalse => cases hs
  case isTrue hin =>
  cases hs
  obtain ⟨v1, r1, rfl, h2, h3⟩ := an_gl_cons hst
  obtain ⟨v2, r2, rfl, h4, h5⟩ := an_gl_cons h3
  obtain ⟨v3, r3, rfl, h6, h7⟩ := an_gl_cons h5
  cases h4
  cases h6
  obtain ⟨y, rfl⟩ := an_g_Lo h2 (an_and hin).2
  obtain ⟨o', g1, g2⟩ := an_gs_get hσ hcell
  obtain ⟨f, rfl, g3⟩ := an_arl g2
  refine an_one (r := (nxt, L', r3, σ'.set r0 (.inl (1, n, .inr (.inl (vp_updL f i.toNatClampNeg y)))))) he (by simp only [rf_stp, g1, (an_and hin).1, cond_true]) rfl hL h7 ?_
  show an_gs ρ (an_wa σ r0 1 n d ups i.toNatClampNeg v) _
  rw [an_wa_eq _ v hcell]
  refine an_gs_set _ hσ ⟨rfl, rfl, fun j => ?_⟩
  rw [an_at_up]
  unfold vp_updL
  by_cases hj : j = i.toNatClampNeg
  · rw [if_pos hj, if_pos hj]; exact h2
  · rw [if_neg hj, if_neg hj]; exact g3 j
theorem an_s36 {a : Int} {b c x nxt : Nat} {sw : List (Int × Nat)} (hρ : ∀ k, k < LL → ρ k = xs k) (he : an_e ρ env) (hL : an_gL ρ L L') (hst : an_gl ρ st st') (hσ : an_gs ρ σ σ') (hs : an_stp LL (36, a, b, c, x, nxt, sw) env L st σ = some ws) : an_In ρ (rf_SA LC xs) (36, a, b, c, x, nxt, sw) ws L' st' σ' := by
  change an_p36 LL a b c x nxt sw env L st σ = some ws at hs
  simp only [an_p36] at hs
  split at hs
  case h_2 => cases hs
  case h_1 i r0 r =>
  split at hs
  case h_2 => cases hs
  case h_1 n d ups hcell =>
  rw [cond_eq_ite] at hs
  split at hs
  case isFalse => cases hs
  case isTrue hin =>
  split at hs
  case h_2 => cases hs
  case h_1 q hq =>
  cases hs
  obtain ⟨v1, r1, rfl, h2, h3⟩ := an_gl_cons hst
  obtain ⟨v2, r2, rfl, h4, h5⟩ := an_gl_cons h3
  cases h2
  cases h4
  obtain ⟨o', g1, g2⟩ := an_gs_get hσ hcell
  obtain ⟨f, rfl, g3⟩ := an_arq g2
  have g4 := g3 i.toNatClampNeg
  rw [hq] at g4
  have g5 : f i.toNatClampNeg = some q := by
    cases hf : f i.toNatClampNeg with
    | none => rw [hf] at g4; cases g4
    | some z => rw [hf] at g4; cases g4; rfl
  exact an_one (r := (nxt, L', .ref q :: r2, σ')) he (by simp only [rf_stp, g1, hin, cond_true, g5]) rfl hL ⟨rfl, h5⟩ hσ
theorem an_s37 {a : Int} {b c x nxt : Nat} {sw : List (Int × Nat)} (hρ : ∀ k, k < LL → ρ k = xs k) (he : an_e ρ env) (hL : an_gL ρ L L') (hst : an_gl ρ st st') (hσ : an_gs ρ σ σ') (hs : an_stp LL (37, a, b, c, x, nxt, sw) env L st σ = some ws) : an_In ρ (rf_SA LC xs) (37, a, b, c, x, nxt, sw) ws L' st' σ' := by
  change an_p37 LL a b c x nxt sw env L st σ = some ws at hs
  simp only [an_p37] at hs
  split at hs
  case h_2 => cases hs
  case h_1 v i r0 r =>
  split at hs
  case h_2 => cases hs
  case h_1 n d ups fs hcell hcv =>
  rw [cond_eq_ite] at hs
  split at hs
  case isFalse => cases hs
  case isTrue hin =>
  cases hs
  obtain ⟨v1, r1, rfl, h2, h3⟩ := an_gl_cons hst
  obtain ⟨v2, r2, rfl, h4, h5⟩ := an_gl_cons h3
  obtain ⟨v3, r3, rfl, h6, h7⟩ := an_gl_cons h5
  cases h2
  cases h4
  cases h6
  obtain ⟨o', g1, g2⟩ := an_gs_get hσ hcell
  obtain ⟨f, rfl, g3⟩ := an_arq g2
  obtain ⟨o2, k1, k2⟩ := an_gs_get hσ hcv
  obtain ⟨gs, rfl, k3⟩ := an_obj k2
  refine an_one (r := (nxt, L', r3, σ'.set r0 (.inl (2, n, .inr (.inr (.inr (.inr (va_up f i.toNatClampNeg (some v))))))))) he (by simp only [rf_stp, g1, k1, hin, cond_true]) rfl hL h7 ?_
  show an_gs ρ (an_wa σ r0 2 n d ups i.toNatClampNeg (.inl (.ref v))) _
  rw [an_wa_eq _ _ hcell]
  refine an_gs_set _ hσ ⟨rfl, rfl, fun j => ?_⟩
  rw [an_at_up]
  unfold va_up
  by_cases hj : j = i.toNatClampNeg
  · rw [if_pos hj, if_pos hj]; rfl
  · rw [if_neg hj, if_neg hj]; exact g3 j
theorem an_Sn_ok {j n : Nat} (hn : an_Sn LL j = some n) : ∃ q, rf_SA LC xs j = some q ∧ q.1 = n := by
  match j, hn with
  | 0, hn => cases hn; exact ⟨_, rfl, rfl⟩
  | 1, hn => cases hn; exact ⟨_, rfl, rfl⟩
  | j + 2, hn => cases hn
theorem an_s38 {a : Int} {b c x nxt : Nat} {sw : List (Int × Nat)} (hρ : ∀ k, k < LL → ρ k = xs k) (he : an_e ρ env) (hL : an_gL ρ L L') (hst : an_gl ρ st st') (hσ : an_gs ρ σ σ') (hs : an_stp LL (38, a, b, c, x, nxt, sw) env L st σ = some ws) : an_In ρ (rf_SA LC xs) (38, a, b, c, x, nxt, sw) ws L' st' σ' := by
  change an_p38 LL a b c x nxt sw env L st σ = some ws at hs
  simp only [an_p38] at hs
  split at hs
  case h_2 => cases hs
  case h_1 r0 r =>
  obtain ⟨v1, r1, rfl, h2, h3⟩ := an_gl_cons hst
  cases h2
  cases h6 : rf_isS r0 with
  | true =>
    rw [h6, cond_true] at hs
    split at hs
    case h_2 => cases hs
    case h_1 n hn =>
    cases hs
    have hq := an_Sn_ok (LC := LC) (xs := xs) hn
    obtain ⟨q, g1, rfl⟩ := hq
    exact an_one (r := (nxt, L', .int (Int32.ofNat q.1) :: r1, σ')) he (by simp only [rf_stp, h6, cond_true, g1]) rfl hL ⟨rfl, h3⟩ hσ
  | false =>
    rw [h6, cond_false] at hs
    split at hs
    case h_2 => cases hs
    case h_1 k n d ups hcell =>
    rw [cond_eq_ite] at hs
    split at hs
    case isFalse => cases hs
    case isTrue hk =>
    cases hs
    obtain ⟨o', g1, g2⟩ := an_gs_get hσ hcell
    obtain ⟨cc, rfl⟩ := an_ark g2
    exact an_one (r := (nxt, L', .int (Int32.ofNat n) :: r1, σ')) he (by simp only [rf_stp, h6, cond_false, g1, hk, cond_true]) rfl hL ⟨rfl, h3⟩ hσ
theorem an_s42 {a : Int} {b c x nxt : Nat} {sw : List (Int × Nat)} (hρ : ∀ k, k < LL → ρ k = xs k) (he : an_e ρ env) (hL : an_gL ρ L L') (hst : an_gl ρ st st') (hσ : an_gs ρ σ σ') (hs : an_stp LL (42, a, b, c, x, nxt, sw) env L st σ = some ws) : an_In ρ (rf_SA LC xs) (42, a, b, c, x, nxt, sw) ws L' st' σ' := by
  change an_p42 LL a b c x nxt sw env L st σ = some ws at hs
  simp only [an_p42] at hs
  split at hs
  case h_2 => cases hs
  case h_1 r0 r =>
  rw [cond_eq_ite] at hs
  split at hs
  case isFalse => cases hs
  case isTrue hi =>
  cases hs
  obtain ⟨v1, r1, rfl, h2, h3⟩ := an_gl_cons hst
  cases h2
  have c1 := (an_and hi).1
  rw [an_gl_cat h3] at c1
  exact an_one (r := (nxt, L', r1, σ')) he (by simp only [rf_stp, c1, cond_true]) rfl hL h3 hσ
theorem an_s43 {a : Int} {b c x nxt : Nat} {sw : List (Int × Nat)} (hρ : ∀ k, k < LL → ρ k = xs k) (he : an_e ρ env) (hL : an_gL ρ L L') (hst : an_gl ρ st st') (hσ : an_gs ρ σ σ') (hs : an_stp LL (43, a, b, c, x, nxt, sw) env L st σ = some ws) : an_In ρ (rf_SA LC xs) (43, a, b, c, x, nxt, sw) ws L' st' σ' := by
  change an_p43 LL a b c x nxt sw env L st σ = some ws at hs
  simp only [an_p43] at hs
  split at hs
  case h_2 => cases hs
  case h_1 n dp r1 sp r0 r =>
  rw [cond_eq_ite] at hs
  split at hs
  case isFalse => cases hs
  case isTrue hi =>
  obtain ⟨v1, q1, rfl, h2, h3⟩ := an_gl_cons hst
  obtain ⟨v2, q2, rfl, h4, h5⟩ := an_gl_cons h3
  obtain ⟨v3, q3, rfl, h6, h7⟩ := an_gl_cons h5
  obtain ⟨v4, q4, rfl, h8, h9⟩ := an_gl_cons h7
  obtain ⟨v5, q5, rfl, h10, h11⟩ := an_gl_cons h9
  cases h2
  cases h4
  cases h6
  cases h8
  cases h10
  have c0 := (an_and hi).1
  have c1 := (an_and (an_and hi).2).1
  rw [an_gl_cat h11] at c1
  split at hs
  case h_3 => cases hs
  case h_1 n0 d0 u0 n1 d1 u1 hc0 hc1 =>
    rw [cond_eq_ite] at hs
    split at hs
    case isFalse => cases hs
    case isTrue hle =>
    cases hs
    obtain ⟨o0, g1, g2⟩ := an_gs_get hσ hc0
    obtain ⟨f, rfl, g3⟩ := an_ari g2
    obtain ⟨o1, k1, k2⟩ := an_gs_get hσ hc1
    obtain ⟨g, rfl, k3⟩ := an_ari k2
    exact an_one (r := (nxt, L', q5, σ'.set r1 (.inl (0, n1, .inl (va_cpy f g sp.toNatClampNeg dp.toNatClampNeg n.toNatClampNeg))))) he (by simp only [rf_stp, c0, c1, Bool.and_self, cond_true, g1, k1, hle]) rfl hL h11 (by
      show an_gs ρ (an_wc σ r1 0 n1 d1 u1 _) _
      rw [an_wc_eq _ hc1]
      exact an_gs_set _ hσ ⟨rfl, rfl, an_cp_ok (mk := Value.int) g3 _ k3⟩)
  case h_2 n0 d0 u0 n1 d1 u1 hc0 hc1 =>
    rw [cond_eq_ite] at hs
    split at hs
    case isFalse => cases hs
    case isTrue hle =>
    cases hs
    obtain ⟨o0, g1, g2⟩ := an_gs_get hσ hc0
    obtain ⟨f, rfl, g3⟩ := an_arl g2
    obtain ⟨o1, k1, k2⟩ := an_gs_get hσ hc1
    obtain ⟨g, rfl, k3⟩ := an_arl k2
    exact an_one (r := (nxt, L', q5, σ'.set r1 (.inl (1, n1, .inr (.inl (va_cpy f g sp.toNatClampNeg dp.toNatClampNeg n.toNatClampNeg)))))) he (by simp only [rf_stp, c0, c1, Bool.and_self, cond_true, g1, k1, hle]) rfl hL h11 (by
      show an_gs ρ (an_wc σ r1 1 n1 d1 u1 _) _
      rw [an_wc_eq _ hc1]
      exact an_gs_set _ hσ ⟨rfl, rfl, an_cp_ok (mk := Value.long) g3 _ k3⟩)
theorem an_s44 {a : Int} {b c x nxt : Nat} {sw : List (Int × Nat)} (hρ : ∀ k, k < LL → ρ k = xs k) (he : an_e ρ env) (hL : an_gL ρ L L') (hst : an_gl ρ st st') (hσ : an_gs ρ σ σ') (hs : an_stp LL (44, a, b, c, x, nxt, sw) env L st σ = some ws) : an_In ρ (rf_SA LC xs) (44, a, b, c, x, nxt, sw) ws L' st' σ' := by
  change an_p44 LL a b c x nxt sw env L st σ = some ws at hs
  simp only [an_p44] at hs
  split at hs
  case h_2 => cases hs
  case h_1 y z r =>
  rw [cond_eq_ite] at hs
  split at hs
  case isFalse => cases hs
  case isTrue hi =>
  cases hs
  obtain ⟨v1, r1, rfl, h2, h3⟩ := an_gl_cons hst
  obtain ⟨v2, r2, rfl, h4, h5⟩ := an_gl_cons h3
  cases h2
  cases h4
  have c1 := (an_and hi).1
  rw [an_gl_cat h5] at c1
  exact an_one (r := (nxt, L', .int (if z < y then y else z) :: r2, σ')) he (by simp only [rf_stp, c1, cond_true]) rfl hL ⟨rfl, h5⟩ hσ
theorem an_s45 {a : Int} {b c x nxt : Nat} {sw : List (Int × Nat)} (hρ : ∀ k, k < LL → ρ k = xs k) (he : an_e ρ env) (hL : an_gL ρ L L') (hst : an_gl ρ st st') (hσ : an_gs ρ σ σ') (hs : an_stp LL (45, a, b, c, x, nxt, sw) env L st σ = some ws) : an_In ρ (rf_SA LC xs) (45, a, b, c, x, nxt, sw) ws L' st' σ' := by
  change an_p45 LL a b c x nxt sw env L st σ = some ws at hs
  simp only [an_p45] at hs
  split at hs
  case h_2 => cases hs
  case h_1 y z r =>
  rw [cond_eq_ite] at hs
  split at hs
  case isFalse => cases hs
  case isTrue hi =>
  cases hs
  obtain ⟨v1, r1, rfl, h2, h3⟩ := an_gl_cons hst
  obtain ⟨v2, r2, rfl, h4, h5⟩ := an_gl_cons h3
  cases h2
  cases h4
  have c1 := (an_and hi).1
  rw [an_gl_cat h5] at c1
  exact an_one (r := (nxt, L', .int (if y < z then y else z) :: r2, σ')) he (by simp only [rf_stp, c1, cond_true]) rfl hL ⟨rfl, h5⟩ hσ
theorem an_stp_ok {E : rf_E} (hρ : ∀ k, k < LL → ρ k = xs k) (he : an_e ρ env) (hL : an_gL ρ L L') (hst : an_gl ρ st st') (hσ : an_gs ρ σ σ') (hs : an_stp LL E env L st σ = some ws) : an_In ρ (rf_SA LC xs) E ws L' st' σ' := by
  obtain ⟨op, a, b, c, x, nxt, sw⟩ := E
  match op, hs with
  | 0, hs => exact an_s0 hρ he hL hst hσ hs
  | 1, hs => exact an_s1 hρ he hL hst hσ hs
  | 2, hs => exact an_s2 hρ he hL hst hσ hs
  | 3, hs => exact an_s3 hρ he hL hst hσ hs
  | 4, hs => exact an_s4 hρ he hL hst hσ hs
  | 5, hs => exact an_s5 hρ he hL hst hσ hs
  | 6, hs => exact an_s6 hρ he hL hst hσ hs
  | 7, hs => exact absurd (show an_p7 LL a b c x nxt sw env L st σ = some ws from hs) (by simp [an_p7])
  | 8, hs => exact an_s8 hρ he hL hst hσ hs
  | 9, hs => exact an_s9 hρ he hL hst hσ hs
  | 10, hs => exact an_s10 hρ he hL hst hσ hs
  | 11, hs => exact an_s11 hρ he hL hst hσ hs
  | 12, hs => exact an_s12 hρ he hL hst hσ hs
  | 13, hs => exact an_s13 hρ he hL hst hσ hs
  | 14, hs => exact an_s14 hρ he hL hst hσ hs
  | 15, hs => exact an_s15 hρ he hL hst hσ hs
  | 16, hs => exact an_s16 hρ he hL hst hσ hs
  | 17, hs => exact an_s17 hρ he hL hst hσ hs
  | 18, hs => exact an_s18 hρ he hL hst hσ hs
  | 19, hs => exact an_s19 hρ he hL hst hσ hs
  | 20, hs => exact an_s20 hρ he hL hst hσ hs
  | 21, hs => exact an_s21 hρ he hL hst hσ hs
  | 22, hs => exact an_s22 hρ he hL hst hσ hs
  | 23, hs => exact an_s23 hρ he hL hst hσ hs
  | 24, hs => exact an_s24 hρ he hL hst hσ hs
  | 25, hs => exact an_s25 hρ he hL hst hσ hs
  | 26, hs => exact an_s26 hρ he hL hst hσ hs
  | 27, hs => exact an_s27 hρ he hL hst hσ hs
  | 28, hs => exact an_s28 hρ he hL hst hσ hs
  | 29, hs => exact an_s29 hρ he hL hst hσ hs
  | 30, hs => exact an_s30 hρ he hL hst hσ hs
  | 31, hs => exact an_s31 hρ he hL hst hσ hs
  | 32, hs => exact an_s32 hρ he hL hst hσ hs
  | 33, hs => exact an_s33 hρ he hL hst hσ hs
  | 34, hs => exact an_s34 hρ he hL hst hσ hs
  | 35, hs => exact an_s35 hρ he hL hst hσ hs
  | 36, hs => exact an_s36 hρ he hL hst hσ hs
  | 37, hs => exact an_s37 hρ he hL hst hσ hs
  | 38, hs => exact an_s38 hρ he hL hst hσ hs
  | 39, hs => exact absurd (show an_p39 LL a b c x nxt sw env L st σ = some ws from hs) (by simp [an_p39])
  | 40, hs => exact absurd (show an_p40 LL a b c x nxt sw env L st σ = some ws from hs) (by simp [an_p40])
  | 41, hs => exact absurd (show an_p41 LL a b c x nxt sw env L st σ = some ws from hs) (by simp [an_p41])
  | 42, hs => exact an_s42 hρ he hL hst hσ hs
  | 43, hs => exact an_s43 hρ he hL hst hσ hs
  | 44, hs => exact an_s44 hρ he hL hst hσ hs
  | 45, hs => exact an_s45 hρ he hL hst hσ hs
  | n + 46, hs =>
    have hn : Nat.blt (n + 46) 46 = false := Bool.eq_false_iff.mpr (fun h => by have := Nat.le_of_ble_eq_true h; omega)
    simp only [an_stp, hn, cond_false] at hs
    cases hs
end
