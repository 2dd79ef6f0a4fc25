/-! what the boxes mean -/
def zb_g (N : Nat) (ρ : Nat → Int) : an_V → Value → Prop
  | .inl v, w => w = v
  | .inr (0, k, c), w => k.toNat < N ∧ ∃ x : Int32, w = .int x ∧ x.toInt = ρ k.toNat + c
  | .inr (1, lo, hi), w => ∃ x : Int32, w = .int x ∧ lo ≤ x.toInt ∧ x.toInt ≤ hi
  | .inr (2, lo, hi), w => ∃ x : Int64, w = .long x ∧ lo ≤ x.toInt ∧ x.toInt ≤ hi
  | .inr (3, k, c), w => k.toNat < N ∧ ∃ x : Int64, w = .long x ∧ x.toInt = ρ k.toNat + c
  | .inr (4, b, n), w => ∃ t, t < n.toNat ∧ w = .ref (b.toNat + 2 * t)
  | .inr (5, b, n), w => ∃ t, t < n.toNat ∧ w = .ref (b.toNat + t)
  | _, _ => False
def zb_z0 : Nat → Int := fun _ => 0
def zb_gl (N : Nat) (ρ : Nat → Int) : List an_V → List Value → Prop
  | [], [] => True
  | a :: as, v :: vs => zb_g N ρ a v ∧ zb_gl N ρ as vs
  | _, _ => False
def zb_gL (N : Nat) (ρ : Nat → Int) (L : zb_L) (L' : rf_L) : Prop := ∀ i v, zb_get L i = some v → ∃ w, rf_get L' i = some w ∧ zb_g N ρ v w
def zb_ro (k n : Nat) (d : an_V) : va_E → Prop
  | .inl (k', m, .inl f) => k = 0 ∧ k' = 0 ∧ m = n ∧ ∀ j, j < n → zb_g 0 zb_z0 d (.int (f j))
  | .inl (k', m, .inr (.inl f)) => k = 1 ∧ k' = 1 ∧ m = n ∧ ∀ j, j < n → zb_g 0 zb_z0 d (.long (f j))
  | .inl (k', m, .inr (.inr (.inr (.inr f)))) => k = 2 ∧ k' = 2 ∧ m = n ∧ ∀ j, j < n → ∃ q, f j = some q ∧ zb_g 0 zb_z0 d (.ref q)
  | _ => False
def zb_fo (D : zb_D) (N : Nat) (ρ : Nat → Int) : zb_G → Value → Prop
  | (0, s, _), w => ∃ a, D[s]? = some a ∧ zb_g N ρ a w
  | (_ + 1, _, v), w => zb_g 0 zb_z0 v w
def zb_fos (D : zb_D) (N : Nat) (ρ : Nat → Int) (ds : List zb_G) (fs : List Value) : Prop := ds.length = fs.length ∧ ∀ (c : Nat) (g : zb_G), ds[c]? = some g → ∃ w, fs[c]? = some w ∧ zb_fo D N ρ g w
def zb_rw (D : zb_D) (N : Nat) (ρ : Nat → Int) (k n : Nat) : an_V → va_E → Prop
  | .inr (9, b, _), o => k = 0 ∧ ∃ f, o = .inl (0, n, .inl f) ∧ ∀ j, j < n → ∃ a, D[b.toNat + j]? = some a ∧ zb_g N ρ a (.int (f j))
  | d, o => zb_ro k n d o
def zb_ob (D : zb_D) (N : Nat) (ρ : Nat → Int) : (Nat × Nat × an_V) ⊕ (Nat × List zb_G) → va_E → Prop
  | .inl (k, n, d), o => zb_rw D N ρ k n d o
  | .inr (ci, ds), .inr (cj, fs) => ci = cj ∧ zb_fos D N ρ ds fs
  | _, _ => False
def zb_ss (T : zb_T) (len : Nat) (D : zb_D) (N : Nat) (ρ : Nat → Int) (σ : rf_S) : Prop := σ.length = len ∧ ∀ r t, T r = some t → ∃ o, σ[r]? = some o ∧ zb_ob D N ρ t o
/-- a row of seven holds each number below c ahead of its place c -/
def zb_Jv (c : Int) (l : Nat → Int) : Prop := ∀ k : Int, 0 ≤ k → k < c → ∃ i : Nat, i < 7 ∧ (i : Int) < c ∧ l i = k
theorem zb_Jv_eq {c c' : Int} {l l' : Nat → Int} (hc : c' = c) (hl : ∀ i, i < 7 → l' i = l i) (h : zb_Jv c l) : zb_Jv c' l' := by
  intro k k1 k2
  rw [hc] at k2
  obtain ⟨i, i1, i2, i3⟩ := h k k1 k2
  exact ⟨i, i1, by rw [hc]; exact i2, by rw [hl i i1]; exact i3⟩
/-- what a result is of numbers (kinds 5 + m) -/
def zb_ov (m : Nat) (x c y : Int) : Int := if m < 9 then (rf_bin m (Int32.ofInt x) (Int32.ofInt y)).toInt else if m < 18 then (rf_bin (m - 9) (Int32.ofInt x) (Int32.ofInt c)).toInt else if m < 27 then (rf_bin (m - 18) (Int32.ofInt c) (Int32.ofInt x)).toInt else (-(Int32.ofInt x)).toInt
theorem zb_ov_y {m : Nat} {x c y y' : Int} (h : ¬ m < 9) : zb_ov m x c y = zb_ov m x c y' := by
  unfold zb_ov
  rw [if_neg h, if_neg h]
def zb_fk (N : Nat) (ρ : Nat → Int) : zb_F → Prop
  | (0, a, b, c) => a < N ∧ b < N ∧ ρ a ≤ ρ b + c
  | (1, a, b, c) => a < N ∧ b < N ∧ 0 < c ∧ 0 ≤ ρ b ∧ ρ a = ρ b / c
  | (2, a, b, c) => a < N ∧ b < N ∧ ρ a + ρ b ≤ c
  | (3, a, b, _) => a < N ∧ b + 6 < N ∧ zb_Jv (ρ a) (fun i => ρ (b + i))
  | (4, a, b, c) => a < N ∧ b < N ∧ 0 < c ∧ 0 ≤ ρ b ∧ ρ a = ρ b % c
  | (m + 5, a, b, c) => a < N ∧ b < N ∧ (m < 9 → c.toNat < N) ∧ ρ a = zb_ov m (ρ b) c (ρ c.toNat)
def zb_en (N : Nat) (ρ : Nat → Int) (env : zb_N) : Prop := env.1.length = N ∧ (∀ k b, env.1[k]? = some b → b.1 ≤ ρ k ∧ ρ k ≤ b.2) ∧ ∀ f, f ∈ env.2 → zb_fk N ρ f
def zb_qk (N : Nat) (ρ : Nat → Int) (q : zb_q) (z : Int) : Prop := q.2.1 ≤ z ∧ z ≤ q.2.2 ∧ ∀ k c, q.1 = some (k, c) → k < N ∧ ρ k + c = z
def zb_ag (N : Nat) (ρ ρ' : Nat → Int) : Prop := ∀ k, k < N → ρ' k = ρ k
theorem zb_ag_refl (N : Nat) (ρ : Nat → Int) : zb_ag N ρ ρ := fun _ _ => rfl
theorem zb_ag_trans {N M : Nat} {ρ ρ1 ρ2 : Nat → Int} (h : N ≤ M) (h1 : zb_ag N ρ ρ1) (h2 : zb_ag M ρ1 ρ2) : zb_ag N ρ ρ2 := fun k hk => (h2 k (by omega)).trans (h1 k hk)
/-- the script's length is number 0, its six numbers from ρ 7 on are 1 to 6 -/
def zb_hs (LL : Nat) (xs : Nat → Int32) (N : Nat) (ρ : Nat → Int) : Prop := 8 ≤ N ∧ ρ 0 = (LL : Int) ∧ 0 ≤ ρ 7 ∧ ρ 7 + 6 ≤ (LL : Int) ∧ ∀ c : Nat, c < 6 → ρ (1 + c) = (xs ((ρ 7).toNat + c)).toInt
theorem zb_hs_ext {LL : Nat} {xs : Nat → Int32} {N M : Nat} {ρ ρ' : Nat → Int} (hN : N ≤ M) (hr : zb_ag N ρ ρ') (h : zb_hs LL xs N ρ) : zb_hs LL xs M ρ' := by
  obtain ⟨h1, h2, h3, h4, h5⟩ := h
  have e7 := hr 7 (by omega)
  refine ⟨by omega, by rw [hr 0 (by omega)]; exact h2, by rw [e7]; exact h3, by rw [e7]; exact h4, fun c hc => ?_⟩
  rw [hr (1 + c) (by omega), e7]
  exact h5 c hc
section
variable {N M : Nat} {ρ ρ' : Nat → Int}
theorem zb_g_ext {a : an_V} {w : Value} (hN : N ≤ M) (hr : zb_ag N ρ ρ') (h : zb_g N ρ a w) : zb_g M ρ' a w := by
  unfold zb_g at h
  split at h
  · exact h
  · obtain ⟨h1, x, rfl, h2⟩ := h; exact ⟨by omega, x, rfl, by rw [hr _ h1]; exact h2⟩
  · exact h
  · exact h
  · obtain ⟨h1, x, rfl, h2⟩ := h; exact ⟨by omega, x, rfl, by rw [hr _ h1]; exact h2⟩
  · exact h
  · exact h
  · exact h.elim
theorem zb_gl_ext (hN : N ≤ M) (hr : zb_ag N ρ ρ') : ∀ {as : List an_V} {vs : List Value}, zb_gl N ρ as vs → zb_gl M ρ' as vs
  | [], [], _ => trivial
  | _ :: _, [], h => h.elim
  | [], _ :: _, h => h.elim
  | _ :: _, _ :: _, h => ⟨zb_g_ext hN hr h.1, zb_gl_ext hN hr h.2⟩
theorem zb_gL_ext {L : zb_L} {L' : rf_L} (hN : N ≤ M) (hr : zb_ag N ρ ρ') (h : zb_gL N ρ L L') : zb_gL M ρ' L L' := fun i v hv => by
  obtain ⟨w, h1, h2⟩ := h i v hv
  exact ⟨w, h1, zb_g_ext hN hr h2⟩
theorem zb_fo_ext {D : zb_D} {g : zb_G} {w : Value} (hN : N ≤ M) (hr : zb_ag N ρ ρ') (h : zb_fo D N ρ g w) : zb_fo D M ρ' g w := by
  obtain ⟨k, s, v⟩ := g
  match k, h with
  | 0, h => obtain ⟨a, h1, h2⟩ := h; exact ⟨a, h1, zb_g_ext hN hr h2⟩
  | k + 1, h => exact h
theorem zb_rw_nc {D : zb_D} {k n : Nat} {d : an_V} {o : va_E} (h : zb_nc d = true) : zb_rw D N ρ k n d o = zb_ro k n d o := by
  unfold zb_rw
  split
  case h_1 => cases h
  case h_2 => rfl
theorem zb_rw_ext {D : zb_D} {k n : Nat} {d : an_V} {o : va_E} (hN : N ≤ M) (hr : zb_ag N ρ ρ') (h : zb_rw D N ρ k n d o) : zb_rw D M ρ' k n d o := by
  unfold zb_rw at h ⊢
  split at h
  case h_1 =>
    obtain ⟨h1, f, h2, h3⟩ := h
    refine ⟨h1, f, h2, fun j hj => ?_⟩
    obtain ⟨a, a1, a2⟩ := h3 j hj
    exact ⟨a, a1, zb_g_ext hN hr a2⟩
  case h_2 => exact h
theorem zb_ss_ext {T : zb_T} {len : Nat} {D : zb_D} {σ : rf_S} (hN : N ≤ M) (hr : zb_ag N ρ ρ') (h : zb_ss T len D N ρ σ) : zb_ss T len D M ρ' σ := by
  refine ⟨h.1, fun r t ht => ?_⟩
  obtain ⟨o, h1, h2⟩ := h.2 r t ht
  refine ⟨o, h1, ?_⟩
  rcases t with ⟨k, n, d⟩ | ⟨ci, ds⟩
  · exact zb_rw_ext hN hr h2
  · rcases o with o | ⟨cj, fs⟩
    · exact h2.elim
    · refine ⟨h2.1, h2.2.1, fun c g hg => ?_⟩
      obtain ⟨w, w1, w2⟩ := h2.2.2 c g hg
      exact ⟨w, w1, zb_fo_ext hN hr w2⟩
theorem zb_fk_ext {f : zb_F} (hN : N ≤ M) (hr : zb_ag N ρ ρ') (h : zb_fk N ρ f) : zb_fk M ρ' f := by
  obtain ⟨k, a, b, c⟩ := f
  match k, h with
  | 0, h => obtain ⟨h1, h2, h3⟩ := h; exact ⟨by omega, by omega, by rw [hr _ h1, hr _ h2]; exact h3⟩
  | 1, h => obtain ⟨h1, h2, h3, h4, h5⟩ := h; exact ⟨by omega, by omega, h3, by rw [hr _ h2]; exact h4, by rw [hr _ h1, hr _ h2]; exact h5⟩
  | 2, h => obtain ⟨h1, h2, h3⟩ := h; exact ⟨by omega, by omega, by rw [hr _ h1, hr _ h2]; exact h3⟩
  | 3, h => obtain ⟨h1, h2, h3⟩ := h; exact ⟨by omega, by omega, zb_Jv_eq (hr _ h1) (fun i hi => hr _ (by omega)) h3⟩
  | 4, h => obtain ⟨h1, h2, h3, h4, h5⟩ := h; exact ⟨by omega, by omega, h3, by rw [hr _ h2]; exact h4, by rw [hr _ h1, hr _ h2]; exact h5⟩
  | m + 5, h =>
    obtain ⟨h1, h2, h3, h4⟩ := h
    refine ⟨by omega, by omega, fun hm => by have := h3 hm; omega, ?_⟩
    rw [hr _ h1, hr _ h2, h4]
    by_cases hm : m < 9
    · rw [hr _ (h3 hm)]
    · exact zb_ov_y hm
theorem zb_qk_ext {q : zb_q} {z : Int} (hN : N ≤ M) (hr : zb_ag N ρ ρ') (h : zb_qk N ρ q z) : zb_qk M ρ' q z := ⟨h.1, h.2.1, fun k c hk => by
  obtain ⟨h1, h2⟩ := h.2.2 k c hk
  exact ⟨by omega, by rw [hr _ h1]; exact h2⟩⟩
/-- one more number by name -/
def zb_ru (ρ : Nat → Int) (N : Nat) (z : Int) : Nat → Int := fun k => if k = N then z else ρ k
theorem zb_ru_ag (z : Int) : zb_ag N ρ (zb_ru ρ N z) := fun k hk => by
  unfold zb_ru
  rw [if_neg (by omega)]
theorem zb_ru_at (z : Int) : zb_ru ρ N z N = z := by
  unfold zb_ru
  rw [if_pos rfl]
theorem zb_en_app {env : zb_N} {b : Int × Int} {fs : List zb_F} {z : Int} (he : zb_en N ρ env) (h1 : b.1 ≤ z) (h2 : z ≤ b.2) (hf : ∀ f, f ∈ fs → zb_fk (N + 1) (zb_ru ρ N z) f) : zb_en (N + 1) (zb_ru ρ N z) (env.1 ++ [b], fs ++ env.2) := by
  refine ⟨by rw [List.length_append, he.1]; rfl, fun k c hk => ?_, fun f hm => ?_⟩
  · by_cases h : k < N
    · rw [List.getElem?_append_left (by rw [he.1]; exact h)] at hk
      rw [zb_ru_ag z k h]
      exact he.2.1 k c hk
    · rw [List.getElem?_append_right (by rw [he.1]; omega), he.1] at hk
      by_cases h3 : k = N
      · subst h3
        rw [Nat.sub_self] at hk
        cases hk
        rw [zb_ru_at]
        exact ⟨h1, h2⟩
      · obtain ⟨m, hm⟩ : ∃ m, k - N = m + 1 := ⟨k - N - 1, by omega⟩
        rw [hm] at hk
        simp at hk
  · rcases List.mem_append.mp hm with hm | hm
    · exact hf f hm
    · exact zb_fk_ext (Nat.le_succ _) (zb_ru_ag z) (he.2.2 f hm)
/-! lists of values -/
theorem zb_gl_cons {a : an_V} {as : List an_V} {vs : List Value} (h : zb_gl N ρ (a :: as) vs) : ∃ v vs', vs = v :: vs' ∧ zb_g N ρ a v ∧ zb_gl N ρ as vs' := by
  cases vs with
  | nil => exact h.elim
  | cons v vs' => exact ⟨v, vs', rfl, h.1, h.2⟩
theorem zb_gl_nil {vs : List Value} (h : zb_gl N ρ [] vs) : vs = [] := by
  cases vs with
  | nil => rfl
  | cons v vs' => exact h.elim
theorem zb_gl_len : ∀ {as : List an_V} {vs : List Value}, zb_gl N ρ as vs → as.length = vs.length
  | [], [], _ => rfl
  | _ :: _, [], h => h.elim
  | [], _ :: _, h => h.elim
  | _ :: as, _ :: vs, h => by simp [zb_gl_len h.2]
theorem zb_gl_app : ∀ {as bs : List an_V} {vs ws : List Value}, zb_gl N ρ as vs → zb_gl N ρ bs ws → zb_gl N ρ (as ++ bs) (vs ++ ws)
  | [], _, [], _, _, h => h
  | _ :: _, _, [], _, h, _ => h.elim
  | [], _, _ :: _, _, h, _ => h.elim
  | _ :: as, _, _ :: vs, _, h, h2 => ⟨h.1, zb_gl_app h.2 h2⟩
theorem zb_gl_drop : ∀ {as : List an_V} {vs : List Value} (k : Nat), zb_gl N ρ as vs → zb_gl N ρ (as.drop k) (vs.drop k)
  | [], [], _, _ => by simp [zb_gl]
  | _ :: _, [], _, h => h.elim
  | [], _ :: _, _, h => h.elim
  | _ :: as, _ :: vs, 0, h => h
  | _ :: as, _ :: vs, k + 1, h => zb_gl_drop k h.2
theorem zb_gl_take : ∀ {as : List an_V} {vs : List Value} (k : Nat), zb_gl N ρ as vs → zb_gl N ρ (as.take k) (vs.take k)
  | [], [], _, _ => by simp [zb_gl]
  | _ :: _, [], _, h => h.elim
  | [], _ :: _, _, h => h.elim
  | _ :: as, _ :: vs, 0, h => trivial
  | _ :: as, _ :: vs, k + 1, h => ⟨h.1, zb_gl_take k h.2⟩
theorem zb_gl_rev : ∀ {as : List an_V} {vs : List Value}, zb_gl N ρ as vs → zb_gl N ρ as.reverse vs.reverse
  | [], [], _ => trivial
  | _ :: _, [], h => h.elim
  | [], _ :: _, h => h.elim
  | _ :: as, _ :: vs, h => by
    rw [List.reverse_cons, List.reverse_cons]
    exact zb_gl_app (zb_gl_rev h.2) ⟨h.1, trivial⟩
theorem zb_g_ct {a : an_V} {v : Value} (h : zb_g N ρ a v) : an_ct a = v.category := by
  unfold zb_g at h
  split at h
  · subst h; rfl
  · obtain ⟨-, x, rfl, -⟩ := h; rfl
  · obtain ⟨x, rfl, -⟩ := h; rfl
  · obtain ⟨x, rfl, -⟩ := h; rfl
  · obtain ⟨-, x, rfl, -⟩ := h; rfl
  · obtain ⟨t, -, rfl⟩ := h; rfl
  · obtain ⟨t, -, rfl⟩ := h; rfl
  · exact h.elim
theorem zb_gl_cat : ∀ {as : List an_V} {vs : List Value}, zb_gl N ρ as vs → an_cat as = rf_cat vs
  | [], [], _ => rfl
  | _ :: _, [], h => h.elim
  | [], _ :: _, h => h.elim
  | a :: as, v :: vs, h => by
    have ih := zb_gl_cat h.2
    unfold an_cat rf_cat at ih ⊢
    rw [List.map_cons, List.map_cons, List.sum_cons, List.sum_cons, ih, zb_g_ct h.1]
theorem zb_g_I {a : an_V} {v : Value} (h : zb_g N ρ a v) (ha : zb_isI a = true) : ∃ x, v = .int x := by
  unfold zb_isI at ha
  split at ha
  · obtain ⟨-, x, h, -⟩ := h; exact ⟨x, h⟩
  · obtain ⟨x, h, -⟩ := h; exact ⟨x, h⟩
  · cases ha
theorem zb_g_Lo {a : an_V} {v : Value} (h : zb_g N ρ a v) (ha : zb_isL a = true) : ∃ x, v = .long x := by
  unfold zb_isL at ha
  split at ha
  · obtain ⟨x, h, -⟩ := h; exact ⟨x, h⟩
  · obtain ⟨-, x, h, -⟩ := h; exact ⟨x, h⟩
  · cases ha
theorem zb_g_R {a : an_V} {v : Value} (h : zb_g N ρ a v) (ha : zb_isR a = true) : ∃ r, r ∈ zb_mem a ∧ v = .ref r := by
  unfold zb_isR at ha
  split at ha
  · exact ⟨_, List.mem_singleton.mpr rfl, h⟩
  · obtain ⟨t, h1, h2⟩ := h; exact ⟨_, List.mem_map.mpr ⟨t, List.mem_range.mpr h1, rfl⟩, h2⟩
  · obtain ⟨t, h1, h2⟩ := h; exact ⟨_, List.mem_map.mpr ⟨t, List.mem_range.mpr h1, rfl⟩, h2⟩
  · cases ha
theorem zb_bnd_some {α β : Type} {o : Option α} {f : α → Option β} {b : β} (h : zb_bnd o f = some b) : ∃ a, o = some a ∧ f a = some b := by
  unfold zb_bnd at h
  split at h
  · exact ⟨_, rfl, h⟩
  · cases h
theorem zb_cond {α : Type} {b : Bool} {x : Option α} {y : α} (h : (bif b then x else none) = some y) : b = true ∧ x = some y := by
  cases b with
  | false => cases h
  | true => exact ⟨rfl, h⟩
theorem zb_pi_ok {env : zb_N} {a : an_V} {q : zb_q} {v : Value} (he : zb_en N ρ env) (hq : zb_pi env a = some q) (h : zb_g N ρ a v) : ∃ x : Int32, v = .int x ∧ zb_qk N ρ q x.toInt := by
  unfold zb_pi at hq
  split at hq
  case h_1 k c =>
    rw [zb_nth_eq] at hq
    split at hq
    case h_2 => cases hq
    case h_1 b hb =>
    cases hq
    obtain ⟨h1, x, rfl, h2⟩ := h
    have h3 := he.2.1 _ _ hb
    refine ⟨x, rfl, by show b.1 + c ≤ _; omega, by show _ ≤ b.2 + c; omega, fun j d hj => ?_⟩
    cases hj
    exact ⟨h1, h2.symm⟩
  case h_2 lo hi =>
    cases hq
    obtain ⟨x, h1, h2, h3⟩ := h
    exact ⟨x, h1, h2, h3, fun k c hk => by cases hk⟩
  case h_3 => cases hq
theorem zb_pl_ok {env : zb_N} {a : an_V} {q : zb_q} {v : Value} (he : zb_en N ρ env) (hq : zb_pl env a = some q) (h : zb_g N ρ a v) : ∃ x : Int64, v = .long x ∧ zb_qk N ρ q x.toInt := by
  unfold zb_pl at hq
  split at hq
  case h_1 k c =>
    rw [zb_nth_eq] at hq
    split at hq
    case h_2 => cases hq
    case h_1 b hb =>
    cases hq
    obtain ⟨h1, x, rfl, h2⟩ := h
    have h3 := he.2.1 _ _ hb
    refine ⟨x, rfl, by show b.1 + c ≤ _; omega, by show _ ≤ b.2 + c; omega, fun j d hj => ?_⟩
    cases hj
    exact ⟨h1, h2.symm⟩
  case h_2 lo hi =>
    cases hq
    obtain ⟨x, h1, h2, h3⟩ := h
    exact ⟨x, h1, h2, h3, fun k c hk => by cases hk⟩
  case h_3 => cases hq
/-! narrower bounds -/
theorem zb_en_upd {env : zb_N} {k : Nat} {b : Int × Int} (he : zb_en N ρ env) (h1 : b.1 ≤ ρ k) (h2 : ρ k ≤ b.2) : zb_en N ρ (zb_upd env.1 k b, env.2) := by
  refine ⟨by rw [zb_upd_eq, List.length_set]; exact he.1, fun j q hj => ?_, he.2.2⟩
  rw [zb_upd_eq, List.getElem?_set] at hj
  by_cases hjk : k = j
  · subst hjk
    rw [if_pos rfl] at hj
    split at hj
    · cases hj; exact ⟨h1, h2⟩
    · cases hj
  · rw [if_neg hjk] at hj
    exact he.2.1 j q hj
theorem zb_hi_ok {env : zb_N} {k : Nat} {h : Int} (he : zb_en N ρ env) (hk : ρ k ≤ h) : ∃ e, zb_hi env k h = some e ∧ zb_en N ρ e := by
  unfold zb_hi
  split
  case h_2 => exact ⟨env, rfl, he⟩
  case h_1 b hb =>
  rw [zb_nth_eq] at hb
  have h1 := he.2.1 _ _ hb
  rw [zb_le_to (by omega : b.1 ≤ h), cond_true]
  cases hc : zb_le b.2 h with
  | true => exact ⟨env, rfl, he⟩
  | false => exact ⟨_, rfl, zb_en_upd he h1.1 hk⟩
theorem zb_lo_ok {env : zb_N} {k : Nat} {l : Int} (he : zb_en N ρ env) (hk : l ≤ ρ k) : ∃ e, zb_lo env k l = some e ∧ zb_en N ρ e := by
  unfold zb_lo
  split
  case h_2 => exact ⟨env, rfl, he⟩
  case h_1 b hb =>
  rw [zb_nth_eq] at hb
  have h1 := he.2.1 _ _ hb
  rw [zb_le_to (by omega : l ≤ b.2), cond_true]
  cases hc : zb_le l b.1 with
  | true => exact ⟨env, rfl, he⟩
  | false => exact ⟨_, rfl, zb_en_upd he hk h1.2⟩
theorem zb_addF_ok {env : zb_N} {a b : Nat} {c : Int} (he : zb_en N ρ env) (ha : a < N) (hb : b < N) (h : ρ a ≤ ρ b + c) : zb_en N ρ (zb_addF a b c env) := by
  unfold zb_addF
  split
  case h_2 => exact he
  case h_1 A B hA hB =>
    rw [cond_eq_ite]
    split
    case isTrue => exact he
    case isFalse =>
      refine ⟨he.1, he.2.1, fun f hf => ?_⟩
      rcases List.mem_cons.mp hf with e | e
      · rw [e]
        exact ⟨ha, hb, h⟩
      · exact he.2.2 f e
theorem zb_pf_ok {env : zb_N} {f : zb_F} (he : zb_en N ρ env) (hf : zb_fk N ρ f) : ∃ e, zb_pf env f = some e ∧ zb_en N ρ e := by
  obtain ⟨k, a, b, c⟩ := f
  match k, hf with
  | 0, hf =>
    obtain ⟨-, -, h3⟩ := hf
    simp only [zb_pf]
    split
    case h_2 => exact ⟨env, rfl, he⟩
    case h_1 A B hA hB =>
    rw [zb_nth_eq] at hA hB
    have gA := he.2.1 _ _ hA
    have gB := he.2.1 _ _ hB
    obtain ⟨e1, r1, r2⟩ := zb_hi_ok (k := a) (h := B.2 + c) he (by omega)
    obtain ⟨e2, r3, r4⟩ := zb_lo_ok (k := b) (l := A.1 - c) r2 (by omega)
    exact ⟨e2, by rw [r1]; exact r3, r4⟩
  | 1, hf =>
    obtain ⟨-, -, h3, h4, h5⟩ := hf
    simp only [zb_pf]
    split
    case h_2 => exact ⟨env, rfl, he⟩
    case h_1 A B hA hB =>
    rw [zb_nth_eq] at hA hB
    have gA := he.2.1 _ _ hA
    have gB := he.2.1 _ _ hB
    have k1 := Int.mul_ediv_add_emod (ρ b) c
    have k2 := Int.emod_nonneg (ρ b) (by omega : c ≠ 0)
    have k3 := Int.emod_lt_of_pos (ρ b) h3
    rw [← h5] at k1
    have m1 : ρ a * c ≤ A.2 * c := Int.mul_le_mul_of_nonneg_right gA.2 (by omega)
    have m2 : A.1 * c ≤ ρ a * c := Int.mul_le_mul_of_nonneg_right gA.1 (by omega)
    have m3 : c * ρ a = ρ a * c := Int.mul_comm _ _
    obtain ⟨e1, r1, r2⟩ := zb_hi_ok (k := b) (h := A.2 * c + (c - 1)) he (by omega)
    obtain ⟨e2, r3, r4⟩ := zb_lo_ok (k := b) (l := A.1 * c) r2 (by omega)
    obtain ⟨e3, r5, r6⟩ := zb_hi_ok (k := a) (h := B.2 / c) r4 (by rw [h5]; exact Int.ediv_le_ediv h3 gB.2)
    obtain ⟨e4, r7, r8⟩ := zb_lo_ok (k := a) (l := B.1 / c) r6 (by rw [h5]; exact Int.ediv_le_ediv h3 gB.1)
    refine ⟨e4, ?_, r8⟩
    rw [r1]
    show zb_bnd (zb_lo e1 b (A.1 * c)) _ = _
    rw [r3]
    show zb_bnd (zb_hi e2 a (B.2 / c)) _ = _
    rw [r5]
    exact r7
  | 3, hf => exact ⟨env, rfl, he⟩
  | 4, hf => exact ⟨env, rfl, he⟩
  | 5, hf => exact ⟨env, rfl, he⟩
  | k + 7, hf => exact ⟨env, rfl, he⟩
  | 6, hf =>
    obtain ⟨ht, hk, hj, h4⟩ := hf
    have hj := hj (by decide)
    simp only [zb_pf]
    split
    case h_2 => exact ⟨env, rfl, he⟩
    case h_1 T K J hT hK hJ =>
    rw [zb_nth_eq] at hT hK hJ
    have gT := he.2.1 _ _ hT
    have gK := he.2.1 _ _ hK
    have gJ := he.2.1 _ _ hJ
    cases hc : (zb_le zb_lo32 K.1 && (zb_le K.2 zb_hi32 && (zb_le zb_lo32 J.1 && (zb_le J.2 zb_hi32 && (zb_le zb_lo32 (K.1 - J.2) && zb_le (K.2 - J.1) zb_hi32))))) with
    | false => exact ⟨env, rfl, he⟩
    | true =>
      have c1 := an_and hc
      have c2 := an_and c1.2
      have c3 := an_and c2.2
      have c4 := an_and c3.2
      have c5 := an_and c4.2
      have l1 := zb_le_of c1.1
      have l2 := zb_le_of c2.1
      have l3 := zb_le_of c3.1
      have l4 := zb_le_of c4.1
      have l5 := zb_le_of c5.1
      have l6 := zb_le_of c5.2
      have q1 : zb_lo32 = -2147483648 := rfl
      have q2 : zb_hi32 = 2147483647 := rfl
      rw [q1] at l1 l3 l5
      rw [q2] at l2 l4 l6
      have ht2 : ρ a = ρ b - ρ c.toNat := by
        rw [h4]
        show (Int32.ofInt (ρ b) - Int32.ofInt (ρ c.toNat)).toInt = _
        rw [← Int32.ofInt_sub]
        exact Int32.toInt_ofInt_of_le (by omega) (by omega)
      obtain ⟨e1, r1, r2⟩ := zb_hi_ok (k := c.toNat) (h := K.2 - T.1) he (by omega)
      obtain ⟨e2, r3, r4⟩ := zb_lo_ok (k := b) (l := J.1 + T.1) r2 (by omega)
      obtain ⟨e3, r5, r6⟩ := zb_hi_ok (k := b) (h := J.2 + T.2) r4 (by omega)
      obtain ⟨e4, r7, r8⟩ := zb_lo_ok (k := c.toNat) (l := K.1 - T.2) r6 (by omega)
      refine ⟨zb_addF c.toNat b (-T.1) (zb_addF b c.toNat T.2 e4), ?_, zb_addF_ok (zb_addF_ok r8 hk hj (by omega)) hj hk (by omega)⟩
      rw [cond_true, r1]
      show zb_bnd (zb_lo e1 b (J.1 + T.1)) _ = _
      rw [r3]
      show zb_bnd (zb_hi e2 b (J.2 + T.2)) _ = _
      rw [r5]
      show zb_bnd (zb_lo e3 c.toNat (K.1 - T.2)) _ = _
      rw [r7]
      rfl
  | 2, hf =>
    obtain ⟨-, -, h3⟩ := hf
    simp only [zb_pf]
    split
    case h_2 => exact ⟨env, rfl, he⟩
    case h_1 A B hA hB =>
    rw [zb_nth_eq] at hA hB
    have gA := he.2.1 _ _ hA
    have gB := he.2.1 _ _ hB
    obtain ⟨e1, r1, r2⟩ := zb_hi_ok (k := a) (h := c - B.1) he (by omega)
    obtain ⟨e2, r3, r4⟩ := zb_hi_ok (k := b) (h := c - A.1) r2 (by omega)
    exact ⟨e2, by rw [r1]; exact r3, r4⟩
theorem zb_prop_ok : ∀ (fs : List zb_F) {env : zb_N}, zb_en N ρ env → (∀ f, f ∈ fs → zb_fk N ρ f) → ∃ e, zb_prop fs env = some e ∧ zb_en N ρ e
  | [], env, he, _ => ⟨env, rfl, he⟩
  | f :: fs, env, he, hf => by
    obtain ⟨e1, r1, r2⟩ := zb_pf_ok he (hf f List.mem_cons_self)
    obtain ⟨e2, r3, r4⟩ := zb_prop_ok fs r2 (fun g hg => hf g (List.mem_cons_of_mem _ hg))
    refine ⟨e2, ?_, r4⟩
    show zb_bnd (zb_pf env f) (zb_prop fs) = _
    rw [r1]
    exact r3
theorem zb_prop2_ok {env : zb_N} (he : zb_en N ρ env) : ∃ e, zb_prop2 env = some e ∧ zb_en N ρ e := by
  obtain ⟨e1, r1, r2⟩ := zb_prop_ok env.2 he he.2.2
  obtain ⟨e2, r3, r4⟩ := zb_prop_ok e1.2 r2 r2.2.2
  refine ⟨e2, ?_, r4⟩
  unfold zb_prop2
  rw [r1]
  exact r3
theorem zb_prt_ok (k j : Nat) : ∀ (fs : List zb_F) {env : zb_N}, zb_en N ρ env → (∀ f, f ∈ fs → zb_fk N ρ f) → ∃ e, zb_prt k j fs env = some e ∧ zb_en N ρ e
  | [], env, he, _ => ⟨env, rfl, he⟩
  | f :: fs, env, he, hf => by
    have hfs : ∀ g, g ∈ fs → zb_fk N ρ g := fun g hg => hf g (List.mem_cons_of_mem _ hg)
    cases hc : zb_tch k j f with
    | false =>
      obtain ⟨e2, r3, r4⟩ := zb_prt_ok k j fs he hfs
      refine ⟨e2, ?_, r4⟩
      show (bif zb_tch k j f then zb_bnd (zb_pf env f) (zb_prt k j fs) else zb_prt k j fs env) = _
      rw [hc]
      exact r3
    | true =>
      obtain ⟨e1, r1, r2⟩ := zb_pf_ok he (hf f List.mem_cons_self)
      obtain ⟨e2, r3, r4⟩ := zb_prt_ok k j fs r2 hfs
      refine ⟨e2, ?_, r4⟩
      show (bif zb_tch k j f then zb_bnd (zb_pf env f) (zb_prt k j fs) else zb_prt k j fs env) = _
      rw [hc, cond_true, r1]
      exact r3
theorem zb_prt2_ok (k j : Nat) {env : zb_N} (he : zb_en N ρ env) : ∃ e, zb_prt2 k j env = some e ∧ zb_en N ρ e := by
  obtain ⟨e1, r1, r2⟩ := zb_prt_ok k j env.2 he he.2.2
  obtain ⟨e2, r3, r4⟩ := zb_prt_ok k j e1.2 r2 r2.2.2
  refine ⟨e2, ?_, r4⟩
  unfold zb_prt2
  rw [r1]
  exact r3
theorem zb_any_ok {α : Type} {f : α → Bool} : ∀ {l : List α}, zb_any f l = true → ∃ a, a ∈ l ∧ f a = true
  | [], h => by cases h
  | b :: l, h => by
    have h : (bif f b then true else zb_any f l) = true := h
    cases hb : f b with
    | true => exact ⟨b, List.mem_cons_self, hb⟩
    | false =>
      rw [hb] at h
      obtain ⟨a, a1, a2⟩ := zb_any_ok h
      exact ⟨a, List.mem_cons_of_mem _ a1, a2⟩
theorem zb_asl_ok {env : zb_N} {x y : zb_q} {d z w : Int} (he : zb_en N ρ env) (hx : zb_qk N ρ x z) (hy : zb_qk N ρ y w) (h : z ≤ w + d) : ∃ e, zb_asl env x y d = some e ∧ zb_en N ρ e := by
  obtain ⟨x1, x2, x3⟩ := hx
  obtain ⟨y1, y2, y3⟩ := hy
  unfold zb_asl
  split
  case h_1 k c j c' hk hj =>
    obtain ⟨k1, k2⟩ := x3 k c hk
    obtain ⟨j1, j2⟩ := y3 j c' hj
    cases hkj : Nat.beq k j with
    | true =>
      have : k = j := Nat.eq_of_beq_eq_true hkj
      subst this
      rw [cond_true, zb_le_to (by omega : c ≤ c' + d)]
      exact ⟨env, rfl, he⟩
    | false =>
      rw [cond_false]
      have hany : zb_any (fun f => Nat.beq f.1 0 && (Nat.beq f.2.1 j && (Nat.beq f.2.2.1 k && zb_le (f.2.2.2 + (c' + d - c)) (-1)))) env.2 = false := by
        cases hq : zb_any (fun f => Nat.beq f.1 0 && (Nat.beq f.2.1 j && (Nat.beq f.2.2.1 k && zb_le (f.2.2.2 + (c' + d - c)) (-1)))) env.2 with
        | false => rfl
        | true =>
          exfalso
          obtain ⟨f, f1, f2⟩ := zb_any_ok hq
          have q1 := an_and f2
          have q2 := an_and q1.2
          have q3 := an_and q2.2
          obtain ⟨g0, g1, g2, g3⟩ := f
          have e0 : g0 = 0 := Nat.eq_of_beq_eq_true q1.1
          have e1 : g1 = j := Nat.eq_of_beq_eq_true q2.1
          have e2 : g2 = k := Nat.eq_of_beq_eq_true q3.1
          subst e0
          subst e1
          subst e2
          obtain ⟨-, -, h3⟩ := he.2.2 _ f1
          have h4 := zb_le_of q3.2
          dsimp only at h4
          omega
      rw [hany, cond_false]
      obtain ⟨e1, r1, r2⟩ := zb_hi_ok (k := k) (h := y.2.2 + d - c) he (by omega)
      obtain ⟨e2, r3, r4⟩ := zb_lo_ok (k := j) (l := x.2.1 - d - c') r2 (by omega)
      have r5 : zb_en N ρ (e2.1, (0, k, j, c' + d - c) :: e2.2) := ⟨r4.1, r4.2.1, fun f hf => by
        rcases List.mem_cons.mp hf with rfl | hf
        · exact ⟨k1, j1, by omega⟩
        · exact r4.2.2 f hf⟩
      obtain ⟨e3, r6, r7⟩ := zb_prt2_ok k j r5
      refine ⟨e3, ?_, r7⟩
      rw [r1]
      show zb_bnd (zb_lo e1 j _) _ = _
      rw [r3]
      exact r6
  case h_2 k c hk hj =>
    obtain ⟨k1, k2⟩ := x3 k c hk
    obtain ⟨e1, r1, r2⟩ := zb_hi_ok (k := k) (h := y.2.2 + d - c) he (by omega)
    obtain ⟨e3, r6, r7⟩ := zb_prt2_ok k k r2
    exact ⟨e3, by rw [r1]; exact r6, r7⟩
  case h_3 j c' hk hj =>
    obtain ⟨j1, j2⟩ := y3 j c' hj
    obtain ⟨e1, r1, r2⟩ := zb_lo_ok (k := j) (l := x.2.1 - d - c') he (by omega)
    obtain ⟨e3, r6, r7⟩ := zb_prt2_ok j j r2
    exact ⟨e3, by rw [r1]; exact r6, r7⟩
  case h_4 hk hj =>
    rw [zb_le_to (by omega : x.2.1 ≤ y.2.2 + d)]
    exact ⟨env, rfl, he⟩
theorem zb_aeq_ok {env : zb_N} {x y : zb_q} {z w : Int} (he : zb_en N ρ env) (hx : zb_qk N ρ x z) (hy : zb_qk N ρ y w) (h : z = w) : ∃ e, zb_aeq env x y = some e ∧ zb_en N ρ e := by
  obtain ⟨e1, r1, r2⟩ := zb_asl_ok (d := 0) he hx hy (by omega)
  obtain ⟨e2, r3, r4⟩ := zb_asl_ok (d := 0) r2 hy hx (by omega)
  refine ⟨e2, ?_, r4⟩
  unfold zb_aeq
  rw [r1]
  exact r3
theorem zb_ol_mem {b : Bool} {o : Option zb_N} {e : zb_N} (h : o = some e) : (b, e) ∈ zb_ol b o := by
  rw [h]
  exact List.mem_singleton.mpr rfl
theorem zb_cmp_ok {env : zb_N} {qx qy : zb_q} {x y : Int32} (b : Nat) (he : zb_en N ρ env) (hx : zb_qk N ρ qx x.toInt) (hy : zb_qk N ρ qy y.toInt) : ∃ w, w ∈ zb_cmp b env qx qy ∧ w.1 = rf_cmp b x y ∧ zb_en N ρ w.2 := by
  have key : x.toInt < y.toInt ∨ x.toInt = y.toInt ∨ y.toInt < x.toInt := by omega
  have lt : ∀ a b : Int32, a.toInt < b.toInt → a < b := fun a b h => Int32.lt_iff_toInt_lt.mpr h
  have nlt : ∀ a b : Int32, ¬ a.toInt < b.toInt → ¬ a < b := fun a b h q => h (Int32.lt_iff_toInt_lt.mp q)
  have le : ∀ a b : Int32, a.toInt ≤ b.toInt → a ≤ b := fun a b h => Int32.le_iff_toInt_le.mpr h
  have nle : ∀ a b : Int32, ¬ a.toInt ≤ b.toInt → ¬ a ≤ b := fun a b h q => h (Int32.le_iff_toInt_le.mp q)
  have eq : ∀ a b : Int32, a.toInt = b.toInt → a = b := fun a b h => Int32.toInt_inj.mp h
  have ne : ∀ a b : Int32, ¬ a.toInt = b.toInt → ¬ a = b := fun a b h q => h (by rw [q])
  match b with
  | 0 =>
    rcases key with h | h | h
    · obtain ⟨e, h1, h2⟩ := zb_asl_ok (d := -1) he hx hy (by omega)
      exact ⟨(false, e), List.mem_append.mpr (Or.inr (List.mem_append.mpr (Or.inl (zb_ol_mem h1)))), (decide_eq_false (ne x y (by omega))).symm, h2⟩
    · obtain ⟨e, h1, h2⟩ := zb_aeq_ok he hx hy h
      exact ⟨(true, e), List.mem_append.mpr (Or.inl (zb_ol_mem h1)), (decide_eq_true (eq x y h)).symm, h2⟩
    · obtain ⟨e, h1, h2⟩ := zb_asl_ok (d := -1) he hy hx (by omega)
      exact ⟨(false, e), List.mem_append.mpr (Or.inr (List.mem_append.mpr (Or.inr (zb_ol_mem h1)))), (decide_eq_false (ne x y (by omega))).symm, h2⟩
  | 1 =>
    rcases key with h | h | h
    · obtain ⟨e, h1, h2⟩ := zb_asl_ok (d := -1) he hx hy (by omega)
      exact ⟨(true, e), List.mem_append.mpr (Or.inr (List.mem_append.mpr (Or.inl (zb_ol_mem h1)))), by show true = !decide (x = y); rw [decide_eq_false (ne x y (by omega))]; rfl, h2⟩
    · obtain ⟨e, h1, h2⟩ := zb_aeq_ok he hx hy h
      exact ⟨(false, e), List.mem_append.mpr (Or.inl (zb_ol_mem h1)), by show false = !decide (x = y); rw [decide_eq_true (eq x y h)]; rfl, h2⟩
    · obtain ⟨e, h1, h2⟩ := zb_asl_ok (d := -1) he hy hx (by omega)
      exact ⟨(true, e), List.mem_append.mpr (Or.inr (List.mem_append.mpr (Or.inr (zb_ol_mem h1)))), by show true = !decide (x = y); rw [decide_eq_false (ne x y (by omega))]; rfl, h2⟩
  | 2 =>
    by_cases h : x.toInt < y.toInt
    · obtain ⟨e, h1, h2⟩ := zb_asl_ok (d := -1) he hx hy (by omega)
      exact ⟨(true, e), List.mem_append.mpr (Or.inl (zb_ol_mem h1)), (decide_eq_true (lt x y h)).symm, h2⟩
    · obtain ⟨e, h1, h2⟩ := zb_asl_ok (d := 0) he hy hx (by omega)
      exact ⟨(false, e), List.mem_append.mpr (Or.inr (zb_ol_mem h1)), (decide_eq_false (nlt x y h)).symm, h2⟩
  | 3 =>
    by_cases h : y.toInt ≤ x.toInt
    · obtain ⟨e, h1, h2⟩ := zb_asl_ok (d := 0) he hy hx (by omega)
      exact ⟨(true, e), List.mem_append.mpr (Or.inl (zb_ol_mem h1)), (decide_eq_true (le y x h)).symm, h2⟩
    · obtain ⟨e, h1, h2⟩ := zb_asl_ok (d := -1) he hx hy (by omega)
      exact ⟨(false, e), List.mem_append.mpr (Or.inr (zb_ol_mem h1)), (decide_eq_false (nle y x h)).symm, h2⟩
  | 4 =>
    by_cases h : y.toInt < x.toInt
    · obtain ⟨e, h1, h2⟩ := zb_asl_ok (d := -1) he hy hx (by omega)
      exact ⟨(true, e), List.mem_append.mpr (Or.inl (zb_ol_mem h1)), (decide_eq_true (lt y x h)).symm, h2⟩
    · obtain ⟨e, h1, h2⟩ := zb_asl_ok (d := 0) he hx hy (by omega)
      exact ⟨(false, e), List.mem_append.mpr (Or.inr (zb_ol_mem h1)), (decide_eq_false (nlt y x h)).symm, h2⟩
  | b + 5 =>
    by_cases h : x.toInt ≤ y.toInt
    · obtain ⟨e, h1, h2⟩ := zb_asl_ok (d := 0) he hx hy (by omega)
      exact ⟨(true, e), List.mem_append.mpr (Or.inl (zb_ol_mem h1)), (decide_eq_true (le x y h)).symm, h2⟩
    · obtain ⟨e, h1, h2⟩ := zb_asl_ok (d := -1) he hy hx (by omega)
      exact ⟨(false, e), List.mem_append.mpr (Or.inr (zb_ol_mem h1)), (decide_eq_false (nle x y h)).symm, h2⟩
theorem zb_qk_const (a : Int) : zb_qk N ρ (none, a, a) a := ⟨Int.le_refl _, Int.le_refl _, fun _ _ h => by cases h⟩
theorem zb_sw_ok (d : Nat) {nm : Option (Nat × Int)} {z : Int} (hk : ∀ k c, nm = some (k, c) → k < N ∧ ρ k + c = z) : ∀ (sw : List (Int × Nat)) (env : zb_N) (lo hi : Int), zb_en N ρ env → lo ≤ z → z ≤ hi → ∃ w, w ∈ zb_sw nm d sw env lo hi ∧ w.1 = rf_sw sw d z ∧ zb_en N ρ w.2
  | [], env, lo, hi, he, h1, h2 => by
    have hq : zb_qk N ρ (nm, lo, hi) z := ⟨h1, h2, hk⟩
    obtain ⟨e1, r1, r2⟩ := zb_asl_ok (d := 0) he hq (zb_qk_const hi) (by omega)
    obtain ⟨e2, r3, r4⟩ := zb_asl_ok (d := 0) r2 (zb_qk_const lo) hq (by omega)
    refine ⟨(d, e2), ?_, rfl, r4⟩
    unfold zb_sw
    rw [zb_le_to (by omega : lo ≤ hi), cond_true, r1]
    show _ ∈ (match zb_asl e1 (none, lo, lo) (nm, lo, hi) 0 with
      | some e => [(d, e)]
      | none => [])
    rw [r3]
    exact List.mem_singleton.mpr rfl
  | (a, t) :: r, env, lo, hi, he, h1, h2 => by
    have hq : zb_qk N ρ (nm, lo, hi) z := ⟨h1, h2, hk⟩
    unfold zb_sw
    cases hc : (zb_le lo a && zb_le a hi) with
    | false =>
      rw [cond_false]
      obtain ⟨w, w1, w2, w3⟩ := zb_sw_ok d hk r env lo hi he h1 h2
      refine ⟨w, w1, ?_, w3⟩
      have hne : ¬ z = a := fun q => by
        subst q
        rw [zb_le_to h1, zb_le_to h2] at hc
        cases hc
      simp only [rf_sw, decide_eq_false hne, cond_false]
      exact w2
    | true =>
      rw [cond_true]
      have key : z = a ∨ z < a ∨ a < z := by omega
      rcases key with h | h | h
      · obtain ⟨e1, r1, r2⟩ := zb_asl_ok (d := 0) he hq (zb_qk_const a) (by omega)
        obtain ⟨e2, r3, r4⟩ := zb_asl_ok (d := 0) r2 (zb_qk_const a) hq (by omega)
        refine ⟨(t, e2), List.mem_append.mpr (Or.inl ?_), ?_, r4⟩
        · rw [r1]
          show _ ∈ (match zb_asl e1 (none, a, a) (nm, lo, hi) 0 with
            | some e => [(t, e)]
            | none => [])
          rw [r3]
          exact List.mem_singleton.mpr rfl
        · simp only [rf_sw, decide_eq_true h, cond_true]
      · obtain ⟨w, w1, w2, w3⟩ := zb_sw_ok d hk r env lo (a - 1) he h1 (by omega)
        refine ⟨w, List.mem_append.mpr (Or.inr (List.mem_append.mpr (Or.inl w1))), ?_, w3⟩
        simp only [rf_sw, decide_eq_false (by omega : ¬ z = a), cond_false]
        exact w2
      · obtain ⟨w, w1, w2, w3⟩ := zb_sw_ok d hk r env (a + 1) hi he (by omega) h2
        refine ⟨w, List.mem_append.mpr (Or.inr (List.mem_append.mpr (Or.inr w1))), ?_, w3⟩
        simp only [rf_sw, decide_eq_false (by omega : ¬ z = a), cond_false]
        exact w2
theorem zb_sm1_ok {env : zb_N} {k a : Nat} {x : Int} (he : zb_en N ρ env) (h : zb_sm1 env.2 k a = some x) : ρ k ≤ ρ a + x := by
  unfold zb_sm1 at h
  cases hb : Nat.beq k a with
  | true =>
    rw [hb] at h
    cases h
    rw [Nat.eq_of_beq_eq_true hb]
    omega
  | false =>
    rw [hb, cond_false] at h
    have key : ∀ fs : List zb_F, (∀ f, f ∈ fs → zb_fk N ρ f) → List.rec (motive := fun _ => Option Int) none (fun f _ ih => bif Nat.beq f.1 0 && (Nat.beq f.2.1 k && Nat.beq f.2.2.1 a) then some f.2.2.2 else ih) fs = some x → ρ k ≤ ρ a + x := by
      intro fs
      induction fs with
      | nil => intro _ h; cases h
      | cons f fs ih =>
        intro hf h
        have h : (bif Nat.beq f.1 0 && (Nat.beq f.2.1 k && Nat.beq f.2.2.1 a) then some f.2.2.2 else List.rec (motive := fun _ => Option Int) none (fun f _ ih => bif Nat.beq f.1 0 && (Nat.beq f.2.1 k && Nat.beq f.2.2.1 a) then some f.2.2.2 else ih) fs) = some x := h
        cases hc : (Nat.beq f.1 0 && (Nat.beq f.2.1 k && Nat.beq f.2.2.1 a)) with
        | false =>
          rw [hc] at h
          exact ih (fun g hg => hf g (List.mem_cons_of_mem _ hg)) h
        | true =>
          rw [hc] at h
          cases h
          have h1 := an_and hc
          have h2 := an_and h1.2
          have h3 := hf f List.mem_cons_self
          obtain ⟨f0, f1, f2, f3⟩ := f
          have e0 : f0 = 0 := Nat.eq_of_beq_eq_true h1.1
          have e1 : f1 = k := Nat.eq_of_beq_eq_true h2.1
          have e2 : f2 = a := Nat.eq_of_beq_eq_true h2.2
          subst e0
          subst e1
          subst e2
          exact h3.2.2
    exact key env.2 he.2.2 h
theorem zb_omin_ok {a b : Option Int} {z x : Int} (ha : ∀ y, a = some y → z ≤ y) (hb : ∀ y, b = some y → z ≤ y) (h : zb_omin a b = some x) : z ≤ x := by
  unfold zb_omin at h
  split at h
  · cases h; exact zb_le_min (ha _ rfl) (hb _ rfl)
  · cases h; exact ha _ rfl
  · exact hb _ h
theorem zb_oadd_ok {c x : Int} {a b : Option Int} (h : zb_oadd c a b = some x) : ∃ y z, a = some y ∧ b = some z ∧ x = c + y + z := by
  unfold zb_oadd at h
  split at h
  · cases h; exact ⟨_, _, rfl, rfl, rfl⟩
  · cases h
theorem zb_sm2_ok {env : zb_N} {k j : Nat} (he : zb_en N ρ env) : ∀ (fs : List zb_F), (∀ f, f ∈ fs → zb_fk N ρ f) → ∀ x, zb_sm2 env.2 k j fs = some x → ρ k + ρ j ≤ x
  | [], _, x, h => by cases h
  | f :: fs, hf, x, h => by
    have h : (bif Nat.beq f.1 2 then zb_omin (zb_oadd f.2.2.2 (zb_sm1 env.2 k f.2.1) (zb_sm1 env.2 j f.2.2.1)) (zb_omin (zb_oadd f.2.2.2 (zb_sm1 env.2 k f.2.2.1) (zb_sm1 env.2 j f.2.1)) (zb_sm2 env.2 k j fs)) else zb_sm2 env.2 k j fs) = some x := h
    have ih := zb_sm2_ok (k := k) (j := j) he fs (fun g hg => hf g (List.mem_cons_of_mem _ hg))
    cases hc : Nat.beq f.1 2 with
    | false => rw [hc] at h; exact ih x h
    | true =>
      rw [hc, cond_true] at h
      have h3 := hf f List.mem_cons_self
      obtain ⟨f0, f1, f2, f3⟩ := f
      have e0 : f0 = 2 := Nat.eq_of_beq_eq_true hc
      subst e0
      have h3 : ρ f1 + ρ f2 ≤ f3 := h3.2.2
      refine zb_omin_ok (fun y hy => ?_) (fun y hy => zb_omin_ok (fun u hu => ?_) (fun u hu => ih u hu) hy) h
      · obtain ⟨p, q, hp, hq, e⟩ := zb_oadd_ok hy
        have g1 := zb_sm1_ok he hp
        have g2 := zb_sm1_ok he hq
        dsimp only at g1 g2 e
        omega
      · obtain ⟨p, q, hp, hq, e⟩ := zb_oadd_ok hu
        have g1 := zb_sm1_ok he hp
        have g2 := zb_sm1_ok he hq
        dsimp only at g1 g2 e
        omega
theorem zb_sle_ok {env : zb_N} {x y : zb_q} {c z w : Int} (he : zb_en N ρ env) (h : zb_sle env.2 x y c = true) (hx : zb_qk N ρ x z) (hy : zb_qk N ρ y w) : z + w ≤ c := by
  unfold zb_sle at h
  rw [Bool.or_eq_true] at h
  rcases h with h | h
  · have := zb_le_of h
    have := hx.2.1
    have := hy.2.1
    omega
  · split at h
    case h_2 => cases h
    case h_1 k a j b hk hj =>
    split at h
    case h_2 => cases h
    case h_1 s hs =>
    have g := zb_sm2_ok he env.2 he.2.2 _ hs
    have h := zb_le_of h
    obtain ⟨-, g1⟩ := hx.2.2 k a hk
    obtain ⟨-, g2⟩ := hy.2.2 j b hj
    omega
end
