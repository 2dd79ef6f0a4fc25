theorem an_and_le (x y : Int32) (hy : 0 ≤ y.toInt) : 0 ≤ (x &&& y).toInt ∧ (x &&& y).toInt ≤ y.toInt := by
  have h1 : (x &&& y).toInt = (x.toBitVec &&& y.toBitVec).toInt := rfl
  have h2 : y.toInt = y.toBitVec.toInt := rfl
  rw [h2] at hy ⊢
  rw [h1]
  have hlt : 2 * y.toBitVec.toNat < 2 ^ 32 := by
    have h3 := BitVec.toInt_eq_toNat_cond y.toBitVec
    by_cases h : 2 * y.toBitVec.toNat < 2 ^ 32
    · exact h
    · rw [if_neg h] at h3
      have := y.toBitVec.isLt
      omega
  have hle : (x.toBitVec &&& y.toBitVec).toNat ≤ y.toBitVec.toNat := by
    rw [BitVec.toNat_and]
    exact Nat.and_le_right
  rw [BitVec.toInt_eq_toNat_cond, if_pos (by omega), BitVec.toInt_eq_toNat_cond, if_pos hlt]
  omega
theorem an_all_ok {α β : Type} {f : α → Option (List β)} : ∀ {l : List α} {bs : List β}, an_all f l = some bs → ∀ x, x ∈ l → ∃ a, f x = some a ∧ ∀ y, y ∈ a → y ∈ bs
  | [], _, _, x, hx => absurd hx List.not_mem_nil
  | z :: r, bs, h, x, hx => by
    unfold an_all at h
    split at h
    case h_1 => cases h
    case h_2 a ha =>
    split at h
    case h_1 => cases h
    case h_2 b hb =>
    cases h
    rcases List.mem_cons.mp hx with rfl | hx
    · exact ⟨a, ha, fun y hy => List.mem_append.mpr (Or.inl hy)⟩
    · obtain ⟨c, h1, h2⟩ := an_all_ok hb x hx
      exact ⟨c, h1, fun y hy => List.mem_append.mpr (Or.inr (h2 y hy))⟩
theorem an_and {a b : Bool} (h : (a && b) = true) : a = true ∧ b = true := by rwa [Bool.and_eq_true] at h
/-! what the boxes mean, and that each step of the abstract machine is among the ways -/
def an_g (ρ : Nat → Int32) : an_V → Value → Prop
  | .inl v, w => w = v
  | .inr (0, k, _), w => w = .int (ρ k.toNat)
  | .inr (1, lo, hi), w => ∃ x : Int32, w = .int x ∧ lo ≤ x.toInt ∧ x.toInt ≤ hi
  | .inr (2, lo, hi), w => ∃ x : Int64, w = .long x ∧ lo ≤ x.toInt ∧ x.toInt ≤ hi
  | .inr (3, k, _), w => w = .long (ρ k.toNat).toInt64
  | _, _ => False
def an_gl (ρ : Nat → Int32) : List an_V → List Value → Prop
  | [], [] => True
  | a :: as, v :: vs => an_g ρ a v ∧ an_gl ρ as vs
  | _, _ => False
def an_gL (ρ : Nat → Int32) : an_L → rf_L → Prop
  | [], [] => True
  | a :: as, v :: vs => (a.1 = v.1 ∧ an_g ρ a.2 v.2) ∧ an_gL ρ as vs
  | _, _ => False
def an_go (ρ : Nat → Int32) : an_O → va_E → Prop
  | .inl (0, n, d, ups), .inl (k, m, .inl f) => k = 0 ∧ m = n ∧ ∀ j, an_g ρ (an_at d ups j) (.int (f j))
  | .inl (1, n, d, ups), .inl (k, m, .inr (.inl f)) => k = 1 ∧ m = n ∧ ∀ j, an_g ρ (an_at d ups j) (.long (f j))
  | .inl (2, n, d, ups), .inl (k, m, .inr (.inr (.inr (.inr f)))) => k = 2 ∧ m = n ∧ ∀ j, an_g ρ (an_at d ups j) (va_rf (f j))
  | .inr (ci, fs), .inr (cj, gs) => ci = cj ∧ an_gl ρ fs gs
  | _, _ => False
def an_gs (ρ : Nat → Int32) : an_S → rf_S → Prop
  | [], [] => True
  | a :: as, v :: vs => an_go ρ a v ∧ an_gs ρ as vs
  | _, _ => False
def an_e (ρ : Nat → Int32) (env : an_N) : Prop := ∀ (k : Nat) (q : Int × Int), env[k]? = some q → q.1 ≤ (ρ k).toInt ∧ (ρ k).toInt ≤ q.2
def an_q (ρ : Nat → Int32) (q : Option Nat × Int × Int) (z : Int) : Prop := q.2.1 ≤ z ∧ z ≤ q.2.2 ∧ ∀ k, q.1 = some k → (ρ k).toInt = z
section
variable {ρ : Nat → Int32}
theorem an_gl_cons {a : an_V} {as : List an_V} {vs : List Value} (h : an_gl ρ (a :: as) vs) : ∃ v vs', vs = v :: vs' ∧ an_g ρ a v ∧ an_gl ρ as vs' := by
  cases vs with
  | nil => exact h.elim
  | cons v vs' => exact ⟨v, vs', rfl, h.1, h.2⟩
theorem an_gl_nil {vs : List Value} (h : an_gl ρ [] vs) : vs = [] := by
  cases vs with
  | nil => rfl
  | cons v vs' => exact h.elim
theorem an_gl_get : ∀ {as : List an_V} {vs : List Value} {i : Nat} {a : an_V}, an_gl ρ as vs → as[i]? = some a → ∃ v, vs[i]? = some v ∧ an_g ρ a v
  | [], _, i, a, _, h => by simp at h
  | a0 :: as, [], _, _, h, _ => h.elim
  | a0 :: as, v :: vs, 0, a, h, hi => by
    simp only [List.getElem?_cons_zero, Option.some.injEq] at hi
    subst hi
    exact ⟨v, rfl, h.1⟩
  | a0 :: as, v :: vs, i + 1, a, h, hi => by
    simp only [List.getElem?_cons_succ] at hi
    obtain ⟨w, h1, h2⟩ := an_gl_get h.2 hi
    exact ⟨w, by simpa using h1, h2⟩
theorem an_gl_len : ∀ {as : List an_V} {vs : List Value}, an_gl ρ as vs → as.length = vs.length
  | [], [], _ => rfl
  | _ :: _, [], h => h.elim
  | [], _ :: _, h => h.elim
  | _ :: as, _ :: vs, h => by simp [an_gl_len h.2]
theorem an_gl_set : ∀ {as : List an_V} {vs : List Value} (i : Nat) {a : an_V} {v : Value}, an_gl ρ as vs → an_g ρ a v → an_gl ρ (as.set i a) (vs.set i v)
  | [], [], _, _, _, _, _ => trivial
  | _ :: _, [], _, _, _, h, _ => h.elim
  | [], _ :: _, _, _, _, h, _ => h.elim
  | _ :: as, _ :: vs, 0, _, _, h, ha => ⟨ha, h.2⟩
  | _ :: as, _ :: vs, i + 1, _, _, h, ha => ⟨h.1, an_gl_set i h.2 ha⟩
theorem an_gl_app : ∀ {as bs : List an_V} {vs ws : List Value}, an_gl ρ as vs → an_gl ρ bs ws → an_gl ρ (as ++ bs) (vs ++ ws)
  | [], _, [], _, _, h => h
  | _ :: _, _, [], _, h, _ => h.elim
  | [], _, _ :: _, _, h, _ => h.elim
  | _ :: as, _, _ :: vs, _, h, h2 => ⟨h.1, an_gl_app h.2 h2⟩
theorem an_gl_drop : ∀ {as : List an_V} {vs : List Value} (k : Nat), an_gl ρ as vs → an_gl ρ (as.drop k) (vs.drop k)
  | [], [], _, _ => by simp [an_gl]
  | _ :: _, [], _, h => h.elim
  | [], _ :: _, _, h => h.elim
  | _ :: as, _ :: vs, 0, h => h
  | _ :: as, _ :: vs, k + 1, h => an_gl_drop k h.2
theorem an_gl_take : ∀ {as : List an_V} {vs : List Value} (k : Nat), an_gl ρ as vs → an_gl ρ (as.take k) (vs.take k)
  | [], [], _, _ => by simp [an_gl]
  | _ :: _, [], _, h => h.elim
  | [], _ :: _, _, h => h.elim
  | _ :: as, _ :: vs, 0, h => trivial
  | _ :: as, _ :: vs, k + 1, h => ⟨h.1, an_gl_take k h.2⟩
theorem an_gl_rev : ∀ {as : List an_V} {vs : List Value}, an_gl ρ as vs → an_gl ρ as.reverse vs.reverse
  | [], [], _ => trivial
  | _ :: _, [], h => h.elim
  | [], _ :: _, h => h.elim
  | _ :: as, _ :: vs, h => by
    rw [List.reverse_cons, List.reverse_cons]
    exact an_gl_app (an_gl_rev h.2) ⟨h.1, trivial⟩
theorem an_gs_len : ∀ {as : an_S} {vs : rf_S}, an_gs ρ as vs → as.length = vs.length
  | [], [], _ => rfl
  | _ :: _, [], h => h.elim
  | [], _ :: _, h => h.elim
  | _ :: as, _ :: vs, h => by simp [an_gs_len h.2]
theorem an_gs_get : ∀ {as : an_S} {vs : rf_S} {i : Nat} {a : an_O}, an_gs ρ as vs → as[i]? = some a → ∃ v, vs[i]? = some v ∧ an_go ρ a v
  | [], _, i, a, _, h => by simp at h
  | a0 :: as, [], _, _, h, _ => h.elim
  | a0 :: as, v :: vs, 0, a, h, hi => by
    simp only [List.getElem?_cons_zero, Option.some.injEq] at hi
    subst hi
    exact ⟨v, rfl, h.1⟩
  | a0 :: as, v :: vs, i + 1, a, h, hi => by
    simp only [List.getElem?_cons_succ] at hi
    obtain ⟨w, h1, h2⟩ := an_gs_get h.2 hi
    exact ⟨w, by simpa using h1, h2⟩
theorem an_gs_set : ∀ {as : an_S} {vs : rf_S} (i : Nat) {a : an_O} {v : va_E}, an_gs ρ as vs → an_go ρ a v → an_gs ρ (as.set i a) (vs.set i v)
  | [], [], _, _, _, _, _ => trivial
  | _ :: _, [], _, _, _, h, _ => h.elim
  | [], _ :: _, _, _, _, h, _ => h.elim
  | _ :: as, _ :: vs, 0, _, _, h, ha => ⟨ha, h.2⟩
  | _ :: as, _ :: vs, i + 1, _, _, h, ha => ⟨h.1, an_gs_set i h.2 ha⟩
theorem an_gs_app : ∀ {as bs : an_S} {vs ws : rf_S}, an_gs ρ as vs → an_gs ρ bs ws → an_gs ρ (as ++ bs) (vs ++ ws)
  | [], _, [], _, _, h => h
  | _ :: _, _, [], _, h, _ => h.elim
  | [], _, _ :: _, _, h, _ => h.elim
  | _ :: as, _, _ :: vs, _, h, h2 => ⟨h.1, an_gs_app h.2 h2⟩
theorem an_g_ct {a : an_V} {v : Value} (h : an_g ρ a v) : an_ct a = v.category := by
  unfold an_g at h
  split at h
  · subst h; rfl
  · subst h; rfl
  · obtain ⟨x, rfl, -⟩ := h; rfl
  · obtain ⟨x, rfl, -⟩ := h; rfl
  · subst h; rfl
  · exact h.elim
theorem an_gl_cat : ∀ {as : List an_V} {vs : List Value}, an_gl ρ as vs → an_cat as = rf_cat vs
  | [], [], _ => rfl
  | _ :: _, [], h => h.elim
  | [], _ :: _, h => h.elim
  | a :: as, v :: vs, h => by
    have ih := an_gl_cat h.2
    unfold an_cat rf_cat at ih ⊢
    rw [List.map_cons, List.map_cons, List.sum_cons, List.sum_cons, ih, an_g_ct h.1]
theorem an_g_I {a : an_V} {v : Value} (h : an_g ρ a v) (ha : an_isI a = true) : ∃ x, v = .int x := by
  unfold an_isI at ha
  split at ha
  · exact ⟨_, h⟩
  · exact ⟨_, h⟩
  · obtain ⟨x, h, -⟩ := h; exact ⟨x, h⟩
  · cases ha
theorem an_g_Lo {a : an_V} {v : Value} (h : an_g ρ a v) (ha : an_isL a = true) : ∃ x, v = .long x := by
  unfold an_isL at ha
  split at ha
  · exact ⟨_, h⟩
  · obtain ⟨x, h, -⟩ := h; exact ⟨x, h⟩
  · exact ⟨_, h⟩
  · cases ha
theorem an_pi_ok {env : an_N} {a : an_V} {q : Option Nat × Int × Int} {v : Value} (he : an_e ρ env) (hq : an_pi env a = some q) (h : an_g ρ a v) : ∃ x : Int32, v = .int x ∧ an_q ρ q x.toInt := by
  unfold an_pi at hq
  split at hq
  case h_1 x => cases hq; exact ⟨x, h, Int.le_refl _, Int.le_refl _, fun k hk => by cases hk⟩
  case h_2 k z =>
    cases he2 : env[k.toNat]? with
    | none => rw [he2] at hq; cases hq
    | some q0 =>
      rw [he2] at hq
      cases hq
      refine ⟨ρ k.toNat, h, (he _ _ he2).1, (he _ _ he2).2, fun j hj => by cases hj; rfl⟩
  case h_3 lo hi =>
    cases hq
    obtain ⟨x, h1, h2, h3⟩ := h
    exact ⟨x, h1, h2, h3, fun k hk => by cases hk⟩
  case h_4 => cases hq
theorem an_pl_ok {env : an_N} {a : an_V} {q : Option Nat × Int × Int} {v : Value} (he : an_e ρ env) (hq : an_pl env a = some q) (h : an_g ρ a v) : ∃ x : Int64, v = .long x ∧ an_q ρ q x.toInt := by
  unfold an_pl at hq
  split at hq
  case h_1 x => cases hq; exact ⟨x, h, Int.le_refl _, Int.le_refl _, fun k hk => by cases hk⟩
  case h_2 k z =>
    cases he2 : env[k.toNat]? with
    | none => rw [he2] at hq; cases hq
    | some q0 =>
      rw [he2] at hq
      cases hq
      refine ⟨(ρ k.toNat).toInt64, h, ?_, ?_, fun j hj => ?_⟩
      · rw [Int32.toInt_toInt64]; exact (he _ _ he2).1
      · rw [Int32.toInt_toInt64]; exact (he _ _ he2).2
      · cases hj; rw [Int32.toInt_toInt64]
  case h_3 lo hi =>
    cases hq
    obtain ⟨x, h1, h2, h3⟩ := h
    exact ⟨x, h1, h2, h3, fun k hk => by cases hk⟩
  case h_4 => cases hq
theorem an_max_le {a b z : Int} (h1 : a ≤ z) (h2 : b ≤ z) : an_max a b ≤ z := by
  unfold an_max
  cases decide (a < b) <;> assumption
theorem an_le_min {a b z : Int} (h1 : z ≤ a) (h2 : z ≤ b) : z ≤ an_min a b := by
  unfold an_min
  cases decide (a < b) <;> assumption
theorem an_nar_ok {env : an_N} {kk : Option Nat} {lo hi z : Int} (he : an_e ρ env) (h1 : lo ≤ z) (h2 : z ≤ hi) (hk : ∀ k, kk = some k → (ρ k).toInt = z) : ∃ e, an_nar env kk lo hi = some e ∧ an_e ρ e := by
  unfold an_nar
  rw [decide_eq_false (by omega : ¬ hi < lo)]
  cases kk with
  | none => exact ⟨env, rfl, he⟩
  | some k =>
    refine ⟨env.set k (lo, hi), rfl, fun j q hj => ?_⟩
    rw [List.getElem?_set] at hj
    by_cases hjk : k = j
    · subst hjk
      rw [if_pos rfl] at hj
      split at hj
      · cases hj
        rw [hk k rfl]
        exact ⟨h1, h2⟩
      · cases hj
    · rw [if_neg hjk] at hj
      exact he j q hj
theorem an_LT_ok {env : an_N} {x y : Option Nat × Int × Int} {z w : Int} (he : an_e ρ env) (hx : an_q ρ x z) (hy : an_q ρ y w) (h : z < w) : ∃ e, e ∈ an_LT env x y ∧ an_e ρ e := by
  obtain ⟨e1, h1, h2⟩ := an_nar_ok (kk := x.1) (z := z) (lo := x.2.1) (hi := an_min x.2.2 (y.2.2 - 1)) he hx.1 (an_le_min hx.2.1 (by have := hy.2.1; omega)) hx.2.2
  unfold an_LT
  rw [h1]
  cases hk : y.1 with
  | none => exact ⟨e1, List.mem_singleton.mpr rfl, h2⟩
  | some k =>
    dsimp only
    rw [cond_eq_ite]
    split
    · exact ⟨e1, List.mem_singleton.mpr rfl, h2⟩
    · obtain ⟨e2, h3, h4⟩ := an_nar_ok (kk := some k) (z := w) (lo := an_max y.2.1 (x.2.1 + 1)) (hi := y.2.2) h2 (an_max_le hy.1 (by have := hx.1; omega)) hy.2.1 (fun j hj => hy.2.2 j (hk.trans hj))
      rw [h3]
      exact ⟨e2, List.mem_singleton.mpr rfl, h4⟩
theorem an_LE_ok {env : an_N} {x y : Option Nat × Int × Int} {z w : Int} (he : an_e ρ env) (hx : an_q ρ x z) (hy : an_q ρ y w) (h : z ≤ w) : ∃ e, e ∈ an_LE env x y ∧ an_e ρ e := by
  obtain ⟨e1, h1, h2⟩ := an_nar_ok (kk := x.1) (z := z) (lo := x.2.1) (hi := an_min x.2.2 y.2.2) he hx.1 (an_le_min hx.2.1 (Int.le_trans h hy.2.1)) hx.2.2
  unfold an_LE
  rw [h1]
  cases hk : y.1 with
  | none => exact ⟨e1, List.mem_singleton.mpr rfl, h2⟩
  | some k =>
    dsimp only
    rw [cond_eq_ite]
    split
    · exact ⟨e1, List.mem_singleton.mpr rfl, h2⟩
    · obtain ⟨e2, h3, h4⟩ := an_nar_ok (kk := some k) (z := w) (lo := an_max y.2.1 x.2.1) (hi := y.2.2) h2 (an_max_le hy.1 (Int.le_trans hx.1 h)) hy.2.1 (fun j hj => hy.2.2 j (hk.trans hj))
      rw [h3]
      exact ⟨e2, List.mem_singleton.mpr rfl, h4⟩
theorem an_EQ_ok {env : an_N} {x y : Option Nat × Int × Int} {z w : Int} (he : an_e ρ env) (hx : an_q ρ x z) (hy : an_q ρ y w) (h : z = w) : ∃ e, e ∈ an_EQ env x y ∧ an_e ρ e := by
  obtain ⟨e1, h1, h2⟩ := an_nar_ok (kk := x.1) (z := z) (lo := an_max x.2.1 y.2.1) (hi := an_min x.2.2 y.2.2) he (an_max_le hx.1 (by rw [h]; exact hy.1)) (an_le_min hx.2.1 (by rw [h]; exact hy.2.1)) hx.2.2
  unfold an_EQ
  rw [h1]
  cases hk : y.1 with
  | none => exact ⟨e1, List.mem_singleton.mpr rfl, h2⟩
  | some k =>
    dsimp only
    rw [cond_eq_ite]
    split
    · exact ⟨e1, List.mem_singleton.mpr rfl, h2⟩
    · obtain ⟨e2, h3, h4⟩ := an_nar_ok (kk := some k) (z := w) (lo := an_max x.2.1 y.2.1) (hi := an_min x.2.2 y.2.2) h2 (an_max_le (by rw [← h]; exact hx.1) hy.1) (an_le_min (by rw [← h]; exact hx.2.1) hy.2.1) (fun j hj => hy.2.2 j (hk.trans hj))
      rw [h3]
      exact ⟨e2, List.mem_singleton.mpr rfl, h4⟩
theorem an_mapm {α β : Type} {l : List an_N} {f : an_N → β} {e : an_N} (h : e ∈ l) : f e ∈ l.map f := List.mem_map.mpr ⟨e, h, rfl⟩
theorem an_cmp_ok {env : an_N} {qx qy : Option Nat × Int × Int} {x y : Int32} (b : Nat) (he : an_e ρ env) (hx : an_q ρ qx x.toInt) (hy : an_q ρ qy y.toInt) : ∃ w, w ∈ an_cmp b env qx qy ∧ w.1 = rf_cmp b x y ∧ an_e ρ w.2 := by
  have key : x.toInt < y.toInt ∨ x.toInt = y.toInt ∨ y.toInt < x.toInt := by omega
  have lt : ∀ a b : Int32, a.toInt < b.toInt → a < b := fun a b h => Int32.lt_iff_toInt_lt.mpr h
  have nlt : ∀ a b : Int32, ¬ a.toInt < b.toInt → ¬ a < b := fun a b h q => h (Int32.lt_iff_toInt_lt.mp q)
  have le : ∀ a b : Int32, a.toInt ≤ b.toInt → a ≤ b := fun a b h => Int32.le_iff_toInt_le.mpr h
  have nle : ∀ a b : Int32, ¬ a.toInt ≤ b.toInt → ¬ a ≤ b := fun a b h q => h (Int32.le_iff_toInt_le.mp q)
  have eq : ∀ a b : Int32, a.toInt = b.toInt → a = b := fun a b h => Int32.toInt_inj.mp h
  have ne : ∀ a b : Int32, ¬ a.toInt = b.toInt → ¬ a = b := fun a b h q => h (by rw [q])
  match b with
  | 0 =>
    rcases key with h | h | h
    · obtain ⟨e, h1, h2⟩ := an_LT_ok he hx hy h
      exact ⟨(false, e), List.mem_append.mpr (Or.inr (List.mem_append.mpr (Or.inl (List.mem_map.mpr ⟨e, h1, rfl⟩)))), (decide_eq_false (ne x y (by omega))).symm, h2⟩
    · obtain ⟨e, h1, h2⟩ := an_EQ_ok he hx hy h
      exact ⟨(true, e), List.mem_append.mpr (Or.inl (List.mem_map.mpr ⟨e, h1, rfl⟩)), (decide_eq_true (eq x y h)).symm, h2⟩
    · obtain ⟨e, h1, h2⟩ := an_LT_ok he hy hx h
      exact ⟨(false, e), List.mem_append.mpr (Or.inr (List.mem_append.mpr (Or.inr (List.mem_map.mpr ⟨e, h1, rfl⟩)))), (decide_eq_false (ne x y (by omega))).symm, h2⟩
  | 1 =>
    rcases key with h | h | h
    · obtain ⟨e, h1, h2⟩ := an_LT_ok he hx hy h
      exact ⟨(true, e), List.mem_append.mpr (Or.inr (List.mem_append.mpr (Or.inl (List.mem_map.mpr ⟨e, h1, rfl⟩)))), by show true = !decide (x = y); rw [decide_eq_false (ne x y (by omega))]; rfl, h2⟩
    · obtain ⟨e, h1, h2⟩ := an_EQ_ok he hx hy h
      exact ⟨(false, e), List.mem_append.mpr (Or.inl (List.mem_map.mpr ⟨e, h1, rfl⟩)), by show false = !decide (x = y); rw [decide_eq_true (eq x y h)]; rfl, h2⟩
    · obtain ⟨e, h1, h2⟩ := an_LT_ok he hy hx h
      exact ⟨(true, e), List.mem_append.mpr (Or.inr (List.mem_append.mpr (Or.inr (List.mem_map.mpr ⟨e, h1, rfl⟩)))), by show true = !decide (x = y); rw [decide_eq_false (ne x y (by omega))]; rfl, h2⟩
  | 2 =>
    by_cases h : x.toInt < y.toInt
    · obtain ⟨e, h1, h2⟩ := an_LT_ok he hx hy h
      exact ⟨(true, e), List.mem_append.mpr (Or.inl (List.mem_map.mpr ⟨e, h1, rfl⟩)), (decide_eq_true (lt x y h)).symm, h2⟩
    · obtain ⟨e, h1, h2⟩ := an_LE_ok he hy hx (by omega)
      exact ⟨(false, e), List.mem_append.mpr (Or.inr (List.mem_map.mpr ⟨e, h1, rfl⟩)), (decide_eq_false (nlt x y h)).symm, h2⟩
  | 3 =>
    by_cases h : y.toInt ≤ x.toInt
    · obtain ⟨e, h1, h2⟩ := an_LE_ok he hy hx h
      exact ⟨(true, e), List.mem_append.mpr (Or.inl (List.mem_map.mpr ⟨e, h1, rfl⟩)), (decide_eq_true (le y x h)).symm, h2⟩
    · obtain ⟨e, h1, h2⟩ := an_LT_ok he hx hy (by omega)
      exact ⟨(false, e), List.mem_append.mpr (Or.inr (List.mem_map.mpr ⟨e, h1, rfl⟩)), (decide_eq_false (nle y x h)).symm, h2⟩
  | 4 =>
    by_cases h : y.toInt < x.toInt
    · obtain ⟨e, h1, h2⟩ := an_LT_ok he hy hx h
      exact ⟨(true, e), List.mem_append.mpr (Or.inl (List.mem_map.mpr ⟨e, h1, rfl⟩)), (decide_eq_true (lt y x h)).symm, h2⟩
    · obtain ⟨e, h1, h2⟩ := an_LE_ok he hx hy (by omega)
      exact ⟨(false, e), List.mem_append.mpr (Or.inr (List.mem_map.mpr ⟨e, h1, rfl⟩)), (decide_eq_false (nlt y x h)).symm, h2⟩
  | b + 5 =>
    by_cases h : x.toInt ≤ y.toInt
    · obtain ⟨e, h1, h2⟩ := an_LE_ok he hx hy h
      exact ⟨(true, e), List.mem_append.mpr (Or.inl (List.mem_map.mpr ⟨e, h1, rfl⟩)), (decide_eq_true (le x y h)).symm, h2⟩
    · obtain ⟨e, h1, h2⟩ := an_LT_ok he hy hx (by omega)
      exact ⟨(false, e), List.mem_append.mpr (Or.inr (List.mem_map.mpr ⟨e, h1, rfl⟩)), (decide_eq_false (nle x y h)).symm, h2⟩
theorem an_sw_ok (d : Nat) {kk : Option Nat} {z : Int} (hk : ∀ k, kk = some k → (ρ k).toInt = z) : ∀ (sw : List (Int × Nat)) (env : an_N) (lo hi : Int), an_e ρ env → lo ≤ z → z ≤ hi → ∃ w, w ∈ an_sw env kk lo hi d sw ∧ w.1 = rf_sw sw d z ∧ an_e ρ w.2
  | [], env, lo, hi, he, h1, h2 => by
    obtain ⟨e, h3, h4⟩ := an_nar_ok he h1 h2 hk
    refine ⟨(d, e), ?_, rfl, h4⟩
    unfold an_sw
    rw [h3]
    exact List.mem_singleton.mpr rfl
  | (a, t) :: r, env, lo, hi, he, h1, h2 => by
    unfold an_sw
    have key : z = a ∨ z < a ∨ a < z := by omega
    rcases key with h | h | h
    · obtain ⟨e, h3, h4⟩ := an_nar_ok (lo := an_max lo a) (hi := an_min hi a) he (an_max_le h1 (by omega)) (an_le_min h2 (by omega)) hk
      refine ⟨(t, e), ?_, ?_, h4⟩
      · rw [h3]
        exact List.mem_append.mpr (Or.inl (List.mem_singleton.mpr rfl))
      · simp only [rf_sw, decide_eq_true h, cond_true]
    · have hm : z ≤ an_min hi (a - 1) := an_le_min h2 (by omega)
      obtain ⟨w, h3, h4, h5⟩ := an_sw_ok d hk r env lo (an_min hi (a - 1)) he h1 hm
      refine ⟨w, List.mem_append.mpr (Or.inr (List.mem_append.mpr (Or.inl ?_))), ?_, h5⟩
      · rw [decide_eq_false (by omega : ¬ an_min hi (a - 1) < lo)]
        exact h3
      · simp only [rf_sw, decide_eq_false (by omega : ¬ z = a), cond_false]
        exact h4
    · have hm : an_max lo (a + 1) ≤ z := an_max_le h1 (by omega)
      obtain ⟨w, h3, h4, h5⟩ := an_sw_ok d hk r env (an_max lo (a + 1)) hi he hm h2
      refine ⟨w, List.mem_append.mpr (Or.inr (List.mem_append.mpr (Or.inr ?_))), ?_, h5⟩
      · rw [decide_eq_false (by omega : ¬ hi < an_max lo (a + 1))]
        exact h3
      · simp only [rf_sw, decide_eq_false (by omega : ¬ z = a), cond_false]
        exact h4
theorem an_get_ok : ∀ {L : an_L} {L' : rf_L} {i : Nat} {a : an_V}, an_gL ρ L L' → an_get L i = some a → ∃ v, rf_get L' i = some v ∧ an_g ρ a v
  | [], _, _, _, _, h => by simp [an_get] at h
  | _ :: _, [], _, _, h, _ => h.elim
  | q :: L, w :: L', i, a, h, hg => by
    obtain ⟨⟨h1, h2⟩, h3⟩ := h
    unfold an_get at hg
    unfold rf_get
    rw [List.find?_cons] at hg ⊢
    rw [← h1]
    cases hq : (q.1 == i) with
    | true =>
      rw [hq] at hg
      cases hg
      exact ⟨_, rfl, h2⟩
    | false =>
      rw [hq] at hg
      exact an_get_ok h3 hg
theorem an_filter_ok {i : Nat} : ∀ {L : an_L} {L' : rf_L}, an_gL ρ L L' → an_gL ρ (L.filter (fun q => !(q.1 == i) && !(q.1 + 1 == i && an_ct q.2 == 2))) (L'.filter (fun q => !(q.1 == i) && !(q.1 + 1 == i && q.2.category == 2)))
  | [], [], _ => trivial
  | _ :: _, [], h => h.elim
  | [], _ :: _, h => h.elim
  | q :: L, w :: L', h => by
    obtain ⟨⟨h1, h2⟩, h3⟩ := h
    have ih := an_filter_ok (i := i) h3
    rw [List.filter_cons, List.filter_cons, an_g_ct h2, h1]
    split
    · exact ⟨⟨h1, h2⟩, ih⟩
    · exact ih
theorem an_set_ok {L : an_L} {L' : rf_L} {i : Nat} {a : an_V} {v : Value} (h : an_gL ρ L L') (ha : an_g ρ a v) : an_gL ρ (an_set L i a) (rf_set L' i v) := ⟨⟨rfl, ha⟩, an_filter_ok h⟩
theorem an_eV_ok : ∀ {a b : an_V}, an_eV a b = true → a = b
  | .inl a, .inl b, h => by rw [show a = b from of_decide_eq_true h]
  | .inr a, .inr b, h => by rw [show a = b from of_decide_eq_true h]
  | .inl _, .inr _, h => by cases h
  | .inr _, .inl _, h => by cases h
theorem an_at_up0 {d : an_V} {ups : List (Nat × an_V)} {j : Nat} {v : an_V} (i : Nat) : an_at d ((j, v) :: ups.filter (fun q => !Nat.beq q.1 j)) i = if i = j then v else an_at d ups i := by
  unfold an_at
  rw [List.find?_cons]
  by_cases h : i = j
  · subst h
    rw [show Nat.beq i i = true from Nat.beq_refl i, if_pos rfl]
  · have h1 : Nat.beq j i = false := by
      cases hb : Nat.beq j i with
      | false => rfl
      | true => exact absurd (Nat.eq_of_beq_eq_true hb).symm h
    dsimp only
    rw [h1, if_neg h]
    dsimp only
    have h2 : (ups.filter (fun q => !Nat.beq q.1 j)).find? (fun q => Nat.beq q.1 i) = ups.find? (fun q => Nat.beq q.1 i) := by
      rw [List.find?_filter]
      congr 1
      funext q
      cases hb : Nat.beq q.1 i with
      | false => simp
      | true =>
        have e1 : q.1 = i := Nat.eq_of_beq_eq_true hb
        have e2 : Nat.beq q.1 j = false := by
          cases hb2 : Nat.beq q.1 j with
          | false => rfl
          | true => exact absurd (e1.symm.trans (Nat.eq_of_beq_eq_true hb2)) h
        simp [e2]
    rw [h2]
theorem an_at_up {d : an_V} {ups : List (Nat × an_V)} {j : Nat} {v : an_V} (i : Nat) : an_at d (an_up d ups j v) i = if i = j then v else an_at d ups i := by
  unfold an_up
  rw [cond_eq_ite]
  split
  case isTrue h =>
    by_cases hi : i = j
    · rw [if_pos hi, hi]; exact an_eV_ok h
    · rw [if_neg hi]
  case isFalse => exact an_at_up0 i
theorem an_set_self {α : Type} : ∀ {l : List α} {i : Nat} {a : α}, l[i]? = some a → l.set i a = l
  | [], _, _, h => by simp at h
  | x :: l, 0, a, h => by simp at h; simp [h]
  | x :: l, i + 1, a, h => by simp at h; simp [an_set_self h]
theorem an_wa_eq {σ : an_S} {r0 k n : Nat} {d : an_V} {ups : List (Nat × an_V)} (j : Nat) (v : an_V) (h : σ[r0]? = some (.inl (k, n, d, ups))) : an_wa σ r0 k n d ups j v = σ.set r0 (.inl (k, n, d, an_up d ups j v)) := by
  unfold an_wa
  rw [cond_eq_ite]
  split
  case isTrue hb =>
    have e1 : an_up d ups j v = ups := by unfold an_up; rw [hb]; rfl
    rw [e1, an_set_self h]
  case isFalse => rfl
theorem an_wf_eq {σ : an_S} {r0 b : Nat} {fs : List an_V} (c : Nat) (v : an_V) (h : σ[r0]? = some (.inr (b, fs))) : an_wf σ r0 b fs c v = σ.set r0 (.inr (b, fs.set c v)) := by
  unfold an_wf
  split
  case h_1 w hw =>
    rw [cond_eq_ite]
    split
    case isTrue hb =>
      have e1 := an_eV_ok hb
      subst e1
      rw [an_set_self hw, an_set_self h]
    case isFalse => rfl
  case h_2 => rfl
theorem an_wc_eq {σ : an_S} {r1 k n : Nat} {d : an_V} {u : List (Nat × an_V)} (res : List (Nat × an_V)) (h : σ[r1]? = some (.inl (k, n, d, u))) : an_wc σ r1 k n d u res = σ.set r1 (.inl (k, n, d, res)) := by
  unfold an_wc
  rw [cond_eq_ite]
  split
  case isTrue hb =>
    have e1 : u = [] := List.isEmpty_iff.mp (an_and hb).1
    have e2 : res = [] := List.isEmpty_iff.mp (an_and hb).2
    subst e1
    subst e2
    rw [an_set_self h]
  case isFalse => rfl
theorem an_cp_ok {α : Type} {mk : α → Value} {d0 d1 : an_V} {u0 : List (Nat × an_V)} {f g : Nat → α} {sp dp : Nat} (hf : ∀ j, an_g ρ (an_at d0 u0 j) (mk (f j))) : ∀ (n : Nat) {u1 : List (Nat × an_V)}, (∀ j, an_g ρ (an_at d1 u1 j) (mk (g j))) → ∀ j, an_g ρ (an_at d1 (an_cp d0 u0 sp dp d1 n u1) j) (mk (va_cpy f g sp dp n j))
  | 0, u1, hg, j => by
    have : va_cpy f g sp dp 0 j = g j := by unfold va_cpy; rw [if_neg (by omega)]
    rw [this]
    exact hg j
  | n + 1, u1, hg, j => by
    have ih := an_cp_ok (sp := sp) (dp := dp) hf n hg j
    unfold an_cp
    rw [an_at_up]
    by_cases h : j = dp + n
    · rw [if_pos h]
      have : va_cpy f g sp dp (n + 1) j = f (sp + n) := by unfold va_cpy; rw [if_pos (by omega)]; congr 1; omega
      rw [this]
      exact hf _
    · rw [if_neg h]
      have : va_cpy f g sp dp (n + 1) j = va_cpy f g sp dp n j := by
        unfold va_cpy
        by_cases h2 : dp ≤ j ∧ j < dp + n
        · rw [if_pos (by omega), if_pos h2]
        · rw [if_neg (by omega), if_neg h2]
      rw [this]
      exact ih
theorem an_fit_ok {ty : FieldType} {a : an_V} {v : Value} (h : an_g ρ a v) (hf : an_fit ty a = true) : rf_fit ty v = true := by
  unfold an_fit at hf
  split at hf
  · rw [h]; exact hf
  · have hk := Nat.le_of_ble_eq_true hf
    rename_i k lo hi
    match k, hk with
    | 0, _ => rw [h]; rfl
    | 1, _ => obtain ⟨x, rfl, -⟩ := h; rfl
  · cases hf
theorem an_full (x : Int32) : an_g ρ (.inr (1, an_lo32, an_hi32)) (.int x) := ⟨x, rfl, Int32.le_toInt x, Int.le_of_lt_add_one (Int32.toInt_lt x)⟩
theorem an_fullL (x : Int64) : an_g ρ (.inr (2, an_lo64, an_hi64)) (.long x) := ⟨x, rfl, Int64.le_toInt x, Int.le_of_lt_add_one (Int64.toInt_lt x)⟩
theorem an_iv_ok {lo hi : Int} {x : Int32} (h : an_lo32 ≤ lo → hi ≤ an_hi32 → lo ≤ x.toInt ∧ x.toInt ≤ hi) : an_g ρ (an_iv lo hi) (.int x) := by
  unfold an_iv
  rw [cond_eq_ite]
  split
  case isTrue hb =>
    rw [Bool.and_eq_true, decide_eq_true_eq, decide_eq_true_eq] at hb
    exact ⟨x, rfl, h hb.1 hb.2⟩
  case isFalse => exact an_full x
theorem an_bin_ok {qx qy : Option Nat × Int × Int} {x y : Int32} (b : Nat) (hx : an_q ρ qx x.toInt) (hy : an_q ρ qy y.toInt) : an_g ρ (an_bin b qx qy) (.int (rf_bin b x y)) := by
  match b with
  | 0 =>
    refine an_iv_ok (fun h1 h2 => ?_)
    show _ ≤ (x + y).toInt ∧ (x + y).toInt ≤ _
    rw [Int32.toInt_add, Int.bmod_eq_of_le (by have := hx.1; have := hy.1; unfold an_lo32 at h1; omega) (by have := hx.2.1; have := hy.2.1; unfold an_hi32 at h2; omega)]
    have := hx.1; have := hy.1; have := hx.2.1; have := hy.2.1
    constructor <;> omega
  | 1 =>
    refine an_iv_ok (fun h1 h2 => ?_)
    show _ ≤ (x - y).toInt ∧ (x - y).toInt ≤ _
    rw [Int32.toInt_sub, Int.bmod_eq_of_le (by have := hx.1; have := hy.2.1; unfold an_lo32 at h1; omega) (by have := hx.2.1; have := hy.1; unfold an_hi32 at h2; omega)]
    have := hx.1; have := hy.1; have := hx.2.1; have := hy.2.1
    constructor <;> omega
  | 2 => exact an_full _
  | 3 =>
    show an_g ρ (bif decide (0 ≤ qy.2.1) then .inr (1, 0, qy.2.2) else .inr (1, an_lo32, an_hi32)) (.int (x &&& y))
    rw [cond_eq_ite]
    split
    case isTrue hb =>
      have hb := of_decide_eq_true hb
      have hy0 : 0 ≤ y.toInt := Int.le_trans hb hy.1
      have key := an_and_le x y hy0
      exact ⟨x &&& y, rfl, key.1, Int.le_trans key.2 hy.2.1⟩
    case isFalse => exact an_full _
  | b + 4 => exact an_full _
end
