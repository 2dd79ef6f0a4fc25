/-! the outer engine: what two rows of longs hold is told by changes over what they held when the turn began -/
abbrev zc_U : Type := Nat × Nat × Int × an_V
/-- results found again; changes of the first row, of the second, the latest first -/
abbrev zc_G : Type := List zb_F × List zc_U × List zc_U
abbrev zc_C : Type := zb_C × zc_G
def zc_av (ρ : Nat → Int) (v : an_V) : Int := match v with
  | .inr (3, k, c) => ρ k.toNat + c
  | .inr (2, lo, _) => lo
  | _ => 0
/-- one change: an element (0), nothing but 0 in k places (1), in as many as number k tells (2), a copy by the told numbers 3, 5, 6 -/
def zc_a1 (ρ : Nat → Int) (u : zc_U) (g : Nat → Int) (x : Nat) : Int := match u with
  | (0, k, c, v) => if (x : Int) = ρ k + c then zc_av ρ v else g x
  | (1, k, c, _) => if c ≤ (x : Int) ∧ (x : Int) < c + (k : Int) then 0 else g x
  | (2, k, c, _) => if c ≤ (x : Int) ∧ (x : Int) < c + ρ k then 0 else g x
  | (_, k, c, _) => if ρ 5 + c ≤ (x : Int) ∧ (x : Int) < ρ 5 + c + ρ 6 then g ((x : Int) - (ρ 5 + c) + (ρ 3 + (k : Int))).toNat else g x
def zc_ap (ρ : Nat → Int) (g : Nat → Int) : List zc_U → Nat → Int
  | [] => g
  | u :: r => zc_a1 ρ u (zc_ap ρ g r)
def zc_vk (N : Nat) : an_V → Prop
  | .inr (3, k, _) => k.toNat < N
  | _ => True
def zc_uk (N : Nat) : zc_U → Prop
  | (0, k, _, v) => k < N ∧ zc_vk N v
  | (1, _, _, _) => True
  | (2, k, _, _) => k < N
  | _ => 7 ≤ N
/-- a result: an element read (0), a long as an int (1), as a byte, a short (2, 3), a long moved left (4), and with c (5), or (6) -/
def zc_mw (f0 : Nat → Int) (m : Nat) (x b : Int) : Int := match m with
  | 0 => f0 (x + b).toNat
  | 1 => (Int64.ofInt x).toInt32.toInt
  | 2 => (Int32.ofInt x).toInt8.toInt32.toInt
  | 3 => (Int32.ofInt x).toInt16.toInt32.toInt
  | 4 => (Int64.ofInt x <<< ((Int32.ofInt b).toInt64 &&& 63)).toInt
  | _ => (Int64.ofInt x &&& Int64.ofInt b).toInt
def zc_mv (f0 : Nat → Int) (m : Nat) (x b y : Int) : Int := if 6 ≤ m then (Int64.ofInt x ||| Int64.ofInt y).toInt else zc_mw f0 m x b
theorem zc_mv_y {f0 : Nat → Int} {m : Nat} {x b y y' : Int} (h : ¬ 6 ≤ m) : zc_mv f0 m x b y = zc_mv f0 m x b y' := by
  unfold zc_mv
  rw [if_neg h, if_neg h]
theorem zc_mv_w {f0 : Nat → Int} {m : Nat} {x b y : Int} (h : ¬ 6 ≤ m) : zc_mv f0 m x b y = zc_mw f0 m x b := by
  unfold zc_mv
  rw [if_neg h]
theorem zc_mv_o {f0 : Nat → Int} {x b y : Int} : zc_mv f0 6 x b y = (Int64.ofInt x ||| Int64.ofInt y).toInt := by
  unfold zc_mv
  rw [if_pos (Nat.le_refl 6)]
def zc_mk (N : Nat) (ρ : Nat → Int) (f0 : Nat → Int) (f : zb_F) : Prop := f.2.1 < N ∧ f.2.2.1 < N ∧ (6 ≤ f.1 → f.2.2.2.toNat < N) ∧ ρ f.2.1 = zc_mv f0 f.1 (ρ f.2.2.1) f.2.2.2 (ρ f.2.2.2.toNat)
def zc_row (ρ : Nat → Int) (g : Nat → Int) (us : List zc_U) (o : Option va_E) : Prop := ∃ f : Nat → Int64, o = some (.inl (1, 360, .inr (.inl f))) ∧ ∀ x, x < 360 → (f x).toInt = zc_ap ρ g us x
def zc_GR (N : Nat) (ρ : Nat → Int) (f0 g0 : Nat → Int) (G : zc_G) (σ : rf_S) : Prop := (∀ m, m ∈ G.1 → zc_mk N ρ f0 m) ∧ (∀ u, u ∈ G.2.1 → zc_uk N u) ∧ (∀ u, u ∈ G.2.2 → zc_uk N u) ∧ zc_row ρ f0 G.2.1 σ[61]? ∧ zc_row ρ g0 G.2.2 σ[88]?
/-- at the turn's start: below the sizes (numbers 80 to 85) both rows are alike, and bytes where the sort (numbers 74 to 79) is 0 -/
def zc_CI (ρ : Nat → Int) (f0 g0 : Nat → Int) : Prop := (∀ x, x < 360 → zb_lo64 ≤ f0 x ∧ f0 x ≤ zb_hi64) ∧ ∀ d : Nat, d < 6 → ∀ j : Nat, j < 60 → (j : Int) < ρ (80 + d) → f0 (60 * d + j) = g0 (60 * d + j) ∧ (ρ (74 + d) = 0 → -128 ≤ f0 (60 * d + j) ∧ f0 (60 * d + j) ≤ 127)
section
variable {N M : Nat} {ρ ρ' : Nat → Int} {f0 g0 : Nat → Int} {σ σ1 : rf_S} {G : zc_G}
theorem zc_CI_ext (hr : zb_ag N ρ ρ') (hN : 86 ≤ N) (h : zc_CI ρ f0 g0) : zc_CI ρ' f0 g0 := by
  refine ⟨h.1, fun d hd j hj h1 => ?_⟩
  rw [hr _ (by omega)] at h1 ⊢
  exact h.2 d hd j hj h1
theorem zc_av_ext {v : an_V} (hr : zb_ag N ρ ρ') (h : zc_vk N v) : zc_av ρ' v = zc_av ρ v := by
  match v, h with
  | .inr (3, k, c), h =>
    have h : k.toNat < N := h
    show ρ' k.toNat + c = ρ k.toNat + c
    rw [hr _ h]
  | .inr (2, _, _), _ => rfl
  | .inl _, _ => rfl
  | .inr (0, _, _), _ => rfl
  | .inr (1, _, _), _ => rfl
  | .inr (_ + 4, _, _), _ => rfl
theorem zc_vk_ext {v : an_V} (hN : N ≤ M) (h : zc_vk N v) : zc_vk M v := by
  match v, h with
  | .inr (3, k, c), h => exact Nat.lt_of_lt_of_le h hN
  | .inr (2, _, _), _ => trivial
  | .inl _, _ => trivial
  | .inr (0, _, _), _ => trivial
  | .inr (1, _, _), _ => trivial
  | .inr (_ + 4, _, _), _ => trivial
theorem zc_a1_ext {u : zc_U} {g : Nat → Int} (hr : zb_ag N ρ ρ') (h : zc_uk N u) : zc_a1 ρ' u g = zc_a1 ρ u g := by
  obtain ⟨kd, k, c, v⟩ := u
  funext x
  match kd, h with
  | 0, h =>
    obtain ⟨h1, h2⟩ := h
    show (if (x : Int) = ρ' k + c then zc_av ρ' v else g x) = if (x : Int) = ρ k + c then zc_av ρ v else g x
    rw [hr _ h1, zc_av_ext hr h2]
  | 1, _ => rfl
  | 2, h =>
    have h : k < N := h
    show (if c ≤ (x : Int) ∧ (x : Int) < c + ρ' k then 0 else g x) = if c ≤ (x : Int) ∧ (x : Int) < c + ρ k then 0 else g x
    rw [hr _ h]
  | m + 3, h =>
    have h : 7 ≤ N := h
    show (if ρ' 5 + c ≤ (x : Int) ∧ (x : Int) < ρ' 5 + c + ρ' 6 then g ((x : Int) - (ρ' 5 + c) + (ρ' 3 + (k : Int))).toNat else g x) = if ρ 5 + c ≤ (x : Int) ∧ (x : Int) < ρ 5 + c + ρ 6 then g ((x : Int) - (ρ 5 + c) + (ρ 3 + (k : Int))).toNat else g x
    rw [hr 5 (by omega), hr 6 (by omega), hr 3 (by omega)]
theorem zc_ap_ext {g : Nat → Int} (hr : zb_ag N ρ ρ') : ∀ {us : List zc_U}, (∀ u, u ∈ us → zc_uk N u) → zc_ap ρ' g us = zc_ap ρ g us
  | [], _ => rfl
  | u :: r, h => by
    show zc_a1 ρ' u (zc_ap ρ' g r) = zc_a1 ρ u (zc_ap ρ g r)
    rw [zc_ap_ext hr (fun w hw => h w (List.mem_cons_of_mem _ hw)), zc_a1_ext hr (h u List.mem_cons_self)]
theorem zc_uk_ext {u : zc_U} (hN : N ≤ M) (h : zc_uk N u) : zc_uk M u := by
  obtain ⟨kd, k, c, v⟩ := u
  match kd, h with
  | 0, h =>
    exact ⟨Nat.lt_of_lt_of_le h.1 hN, zc_vk_ext hN h.2⟩
  | 1, _ => trivial
  | 2, h => exact Nat.lt_of_lt_of_le h hN
  | m + 3, h => exact Nat.le_trans h hN
theorem zc_mk_ext {f : zb_F} (hN : N ≤ M) (hr : zb_ag N ρ ρ') (h : zc_mk N ρ f0 f) : zc_mk M ρ' f0 f := by
  obtain ⟨h1, h2, h3, h4⟩ := h
  refine ⟨by omega, by omega, fun h6 => by have := h3 h6; omega, ?_⟩
  rw [hr _ h1, hr _ h2, h4]
  by_cases h6 : 6 ≤ f.1
  · rw [hr _ (h3 h6)]
  · exact zc_mv_y h6
theorem zc_row_ext {g : Nat → Int} {us : List zc_U} {o : Option va_E} (hr : zb_ag N ρ ρ') (hu : ∀ u, u ∈ us → zc_uk N u) (h : zc_row ρ g us o) : zc_row ρ' g us o := by
  obtain ⟨f, h1, h2⟩ := h
  exact ⟨f, h1, fun x hx => by rw [zc_ap_ext hr hu]; exact h2 x hx⟩
theorem zc_GR_ext (hN : N ≤ M) (hr : zb_ag N ρ ρ') (h1 : σ1[61]? = σ[61]?) (h2 : σ1[88]? = σ[88]?) (h : zc_GR N ρ f0 g0 G σ) : zc_GR M ρ' f0 g0 G σ1 := ⟨fun m hm => zc_mk_ext hN hr (h.1 m hm), fun u hu => zc_uk_ext hN (h.2.1 u hu), fun u hu => zc_uk_ext hN (h.2.2.1 u hu), by rw [h1]; exact zc_row_ext hr h.2.1 h.2.2.2.1, by rw [h2]; exact zc_row_ext hr h.2.2.1 h.2.2.2.2⟩
end
/-! results found again -/
noncomputable def zc_opn (env : zb_N) (ms : List zb_F) (m a : Nat) (b : Int) (bd : Int × Int) : zb_N × Nat × List zb_F := match zb_fnd m a b ms with
  | some t => (env, t, ms)
  | none => ((env.1 ++ [bd], env.2), env.1.length, (m, env.1.length, a, b) :: ms)
theorem zc_opn_ok {N : Nat} {ρ : Nat → Int} {f0 : Nat → Int} {env : zb_N} {ms : List zb_F} {m a : Nat} {b res : Int} {bd : Int × Int} (he : zb_en N ρ env) (hm : ∀ f, f ∈ ms → zc_mk N ρ f0 f) (ha : a < N) (hb : 6 ≤ m → b.toNat < N) (hres : res = zc_mv f0 m (ρ a) b (ρ b.toNat)) (h1 : bd.1 ≤ res) (h2 : res ≤ bd.2) :
    ∃ M ρ', N ≤ M ∧ zb_ag N ρ ρ' ∧ zb_en M ρ' (zc_opn env ms m a b bd).1 ∧ (zc_opn env ms m a b bd).2.1 < M ∧ ρ' (zc_opn env ms m a b bd).2.1 = res ∧ ∀ f, f ∈ (zc_opn env ms m a b bd).2.2 → zc_mk M ρ' f0 f := by
  unfold zc_opn
  split
  case h_1 t ht =>
    have hf := hm _ (zb_fnd_ok ht)
    exact ⟨N, ρ, Nat.le_refl _, zb_ag_refl _ _, he, hf.1, by rw [hres]; exact hf.2.2.2, hm⟩
  case h_2 =>
    have hN : env.1.length = N := he.1
    have hag : zb_ag N ρ (zb_ru ρ N res) := zb_ru_ag _
    refine ⟨N + 1, zb_ru ρ N res, Nat.le_succ _, hag, zb_en_app (b := bd) (fs := []) he h1 h2 (fun f hf => absurd hf List.not_mem_nil), by rw [hN]; exact Nat.lt_succ_self _, by rw [hN]; exact zb_ru_at _, fun f hf => ?_⟩
    rcases List.mem_cons.mp hf with e | hf
    · rw [e, hN]
      refine ⟨Nat.lt_succ_self _, Nat.lt_succ_of_lt ha, fun h6 => Nat.lt_succ_of_lt (hb h6), ?_⟩
      show zb_ru ρ N res N = zc_mv f0 m (zb_ru ρ N res a) b (zb_ru ρ N res b.toNat)
      rw [zb_ru_at, hag a ha]
      refine hres.trans ?_
      by_cases h6 : 6 ≤ m
      · rw [hag _ (hb h6)]
      · exact zc_mv_y h6
    · exact zc_mk_ext (Nat.le_succ _) hag (hm f hf)
/-! differences: what is known of a new one at once -/
noncomputable def zc_nw (Z J : Int × Int) : Bool := zb_le zb_lo32 Z.1 && (zb_le Z.2 zb_hi32 && (zb_le zb_lo32 J.1 && (zb_le J.2 zb_hi32 && (zb_le zb_lo32 (Z.1 - J.2) && zb_le (Z.2 - J.1) zb_hi32))))
/-- a number's name as it stands -/
noncomputable def zc_q (env : zb_N) (k : Nat) : Option zb_q := zb_pi env (.inr (0, Int.ofNat k, 0))
noncomputable def zc_entk (env : zb_N) (k j : Nat) (c : Int) : Bool := match zc_q env k, zc_q env j with
  | some p, some q => zb_ent env.2 p q c
  | _, _ => false
noncomputable def zc_sf1 (env : zb_N) (t z n : Nat) (Z J : Int × Int) (f : zb_F) : List zb_F := bif Nat.beq f.1 0 && (Nat.beq f.2.1 z && Nat.blt f.2.2.1 env.1.length) then [(0, t, f.2.2.1, f.2.2.2 - J.1)] else bif Nat.beq f.1 6 && (Nat.beq f.2.2.1 z && !(Nat.beq f.2.1 t)) then (match zb_nth env.1 f.2.2.2.toNat with
    | some I => bif zc_nw Z I then (bif zc_entk env n f.2.1 0 then [(0, f.2.2.2.toNat, t, 0)] else []) ++ (bif zc_entk env f.2.1 n (-1) then [(0, t, f.2.2.2.toNat, -1)] else []) else []
    | none => []) else []
noncomputable def zc_sf (env : zb_N) (t z n : Nat) (Z J : Int × Int) (fs : List zb_F) : List zb_F := List.rec (motive := fun _ => List zb_F) [] (fun f _ ih => zc_sf1 env t z n Z J f ++ ih) fs
noncomputable def zc_str (env : zb_N) (t z n : Nat) : zb_N := match zb_nth env.1 z, zb_nth env.1 n with
  | some Z, some J => bif zc_nw Z J && zb_any (fun f => Nat.beq f.1 6 && (Nat.beq f.2.1 t && (Nat.beq f.2.2.1 z && zb_ieq f.2.2.2 (n : Int)))) env.2 then (env.1, ((0, t, z, -J.1) :: zc_sf env t z n Z J env.2) ++ env.2) else env
  | _, _ => env
section
variable {N : Nat} {ρ : Nat → Int} {env : zb_N}
theorem zc_q_ok {k : Nat} {q : zb_q} (he : zb_en N ρ env) (h : zc_q env k = some q) : zb_qk N ρ q (ρ k) ∧ k < N := by
  have h : (match zb_nth env.1 (Int.ofNat k).toNat with
    | some b => some (some ((Int.ofNat k).toNat, (0 : Int)), b.1 + 0, b.2 + 0)
    | none => none) = some q := h
  split at h
  case h_2 => cases h
  case h_1 b hb =>
  cases h
  rw [zb_nth_eq] at hb
  have hb : env.1[k]? = some b := hb
  have hk : k < N := by rw [← he.1]; exact (List.getElem?_eq_some_iff.mp hb).1
  have := he.2.1 k b hb
  refine ⟨⟨by dsimp only; omega, by dsimp only; omega, fun k' c hkc => ?_⟩, hk⟩
  cases hkc
  exact ⟨hk, by show ρ k + 0 = ρ k; omega⟩
theorem zc_entk_ok {k j : Nat} {c : Int} (he : zb_en N ρ env) (h : zc_entk env k j c = true) : ρ k ≤ ρ j + c := by
  unfold zc_entk at h
  split at h
  case h_2 => cases h
  case h_1 p q hp hq => exact zb_ent_ok he h (zc_q_ok he hp).1 (zc_q_ok he hq).1
theorem zc_fk6 {t z : Nat} {c : Int} (h : zb_fk N ρ (6, t, z, c)) : t < N ∧ z < N ∧ c.toNat < N ∧ ρ t = (Int32.ofInt (ρ z) - Int32.ofInt (ρ c.toNat)).toInt := by
  obtain ⟨h1, h2, h3, h4⟩ := (h : t < N ∧ z < N ∧ (1 < 9 → c.toNat < N) ∧ ρ t = zb_ov 1 (ρ z) c (ρ c.toNat))
  refine ⟨h1, h2, h3 (by decide), ?_⟩
  unfold zb_ov at h4
  rw [if_pos (by decide)] at h4
  exact h4
theorem zc_diff {Z J : Int × Int} {t z n : Nat} (h : zc_nw Z J = true) (hz : Z.1 ≤ ρ z ∧ ρ z ≤ Z.2) (hn : J.1 ≤ ρ n ∧ ρ n ≤ J.2) (hf : ρ t = (Int32.ofInt (ρ z) - Int32.ofInt (ρ n)).toInt) : ρ t = ρ z - ρ n := by
  have h1 := an_and h
  have h2 := an_and h1.2
  have h3 := an_and h2.2
  have h4 := an_and h3.2
  have h5 := an_and h4.2
  have a1 := zb_le_of h1.1
  have a2 := zb_le_of h2.1
  have a3 := zb_le_of h3.1
  have a4 := zb_le_of h4.1
  have a5 := zb_le_of h5.1
  have a6 := zb_le_of h5.2
  rw [zb_lo32_eq] at a1 a3 a5
  rw [zb_hi32_eq] at a2 a4 a6
  have ez : (Int32.ofInt (ρ z)).toInt = ρ z := Int32.toInt_ofInt_of_le (by omega) (by omega)
  have en : (Int32.ofInt (ρ n)).toInt = ρ n := Int32.toInt_ofInt_of_le (by omega) (by omega)
  rw [hf, zb_sub' (by omega) (by omega), ez, en]
theorem zc_sf1_ok {t z n : Nat} {Z J : Int × Int} {f g : zb_F} (he : zb_en N ρ env) (hz : Z.1 ≤ ρ z ∧ ρ z ≤ Z.2) (hn : J.1 ≤ ρ n ∧ ρ n ≤ J.2) (ht : t < N) (hd : ρ t = ρ z - ρ n) (hf : f ∈ env.2) (h : g ∈ zc_sf1 env t z n Z J f) : zb_fk N ρ g := by
  unfold zc_sf1 at h
  cases hc : (Nat.beq f.1 0 && (Nat.beq f.2.1 z && Nat.blt f.2.2.1 env.1.length)) with
  | true =>
    rw [hc, cond_true] at h
    have h1 := an_and hc
    have h2 := an_and h1.2
    rw [List.mem_singleton.mp h]
    have hk := he.2.2 f hf
    obtain ⟨k, a, b, c⟩ := f
    have e0 : k = 0 := Nat.eq_of_beq_eq_true h1.1
    have e1 : a = z := Nat.eq_of_beq_eq_true h2.1
    subst e0
    subst e1
    obtain ⟨k1, k2, k3⟩ := hk
    exact ⟨ht, k2, by show ρ t ≤ ρ b + (c - J.1); omega⟩
  | false =>
    rw [hc, cond_false] at h
    cases hc2 : (Nat.beq f.1 6 && (Nat.beq f.2.2.1 z && !(Nat.beq f.2.1 t))) with
    | false => rw [hc2, cond_false] at h; exact absurd h List.not_mem_nil
    | true =>
      rw [hc2, cond_true] at h
      have h1 := an_and hc2
      have h2 := an_and h1.2
      have hk := he.2.2 f hf
      obtain ⟨k, u, b, c⟩ := f
      have e0 : k = 6 := Nat.eq_of_beq_eq_true h1.1
      have e1 : b = z := Nat.eq_of_beq_eq_true h2.1
      subst e0
      subst e1
      dsimp only at h
      split at h
      case h_2 => exact absurd h List.not_mem_nil
      case h_1 I hI =>
      rw [zb_nth_eq] at hI
      have bI := he.2.1 _ _ hI
      have hiN : c.toNat < N := by rw [← he.1]; exact (List.getElem?_eq_some_iff.mp hI).1
      cases hw : zc_nw Z I with
      | false => rw [hw, cond_false] at h; exact absurd h List.not_mem_nil
      | true =>
        rw [hw, cond_true] at h
        have hu := zc_diff hw hz bI (zc_fk6 hk).2.2.2
        rcases List.mem_append.mp h with h | h
        · cases h3 : zc_entk env n u 0 with
          | false => rw [h3, cond_false] at h; exact absurd h List.not_mem_nil
          | true =>
            rw [h3, cond_true] at h
            rw [List.mem_singleton.mp h]
            have := zc_entk_ok he h3
            exact ⟨hiN, ht, by show ρ c.toNat ≤ ρ t + 0; omega⟩
        · cases h3 : zc_entk env u n (-1) with
          | false => rw [h3, cond_false] at h; exact absurd h List.not_mem_nil
          | true =>
            rw [h3, cond_true] at h
            rw [List.mem_singleton.mp h]
            have := zc_entk_ok he h3
            exact ⟨ht, hiN, by show ρ t ≤ ρ c.toNat + (-1); omega⟩
theorem zc_sf_ok {t z n : Nat} {Z J : Int × Int} {g : zb_F} (he : zb_en N ρ env) (hz : Z.1 ≤ ρ z ∧ ρ z ≤ Z.2) (hn : J.1 ≤ ρ n ∧ ρ n ≤ J.2) (ht : t < N) (hd : ρ t = ρ z - ρ n) : ∀ {fs : List zb_F}, (∀ f, f ∈ fs → f ∈ env.2) → g ∈ zc_sf env t z n Z J fs → zb_fk N ρ g
  | [], _, h => absurd h List.not_mem_nil
  | f :: fs, hfs, h => by
    have h : g ∈ zc_sf1 env t z n Z J f ++ zc_sf env t z n Z J fs := h
    rcases List.mem_append.mp h with h | h
    · exact zc_sf1_ok he hz hn ht hd (hfs f List.mem_cons_self) h
    · exact zc_sf_ok he hz hn ht hd (fun f hf => hfs f (List.mem_cons_of_mem _ hf)) h
theorem zc_str_ok {t z n : Nat} (he : zb_en N ρ env) : zb_en N ρ (zc_str env t z n) := by
  unfold zc_str
  split
  case h_2 => exact he
  case h_1 Z J hZ hJ =>
  rw [zb_nth_eq] at hZ hJ
  cases hc : (zc_nw Z J && zb_any (fun f => Nat.beq f.1 6 && (Nat.beq f.2.1 t && (Nat.beq f.2.2.1 z && zb_ieq f.2.2.2 (n : Int)))) env.2) with
  | false => exact he
  | true =>
    rw [cond_true]
    have h1 := an_and hc
    obtain ⟨f, f1, f2⟩ := zb_any_ok h1.2
    have g1 := an_and f2
    have g2 := an_and g1.2
    have g3 := an_and g2.2
    have hk := he.2.2 f f1
    obtain ⟨k, a, b, c⟩ := f
    have e0 : k = 6 := Nat.eq_of_beq_eq_true g1.1
    have e1 : a = t := Nat.eq_of_beq_eq_true g2.1
    have e2 : b = z := Nat.eq_of_beq_eq_true g3.1
    have e3 : c = (n : Int) := zb_ieq_of g3.2
    subst e0
    subst e1
    subst e2
    subst e3
    have bz := he.2.1 _ _ hZ
    have bn := he.2.1 _ _ hJ
    have hk6 := zc_fk6 hk
    rw [Int.toNat_natCast] at hk6
    have hd := zc_diff h1.1 bz bn hk6.2.2.2
    have ht : a < N := hk6.1
    refine ⟨he.1, he.2.1, fun g hg => ?_⟩
    rcases List.mem_append.mp hg with hg | hg
    · rcases List.mem_cons.mp hg with e | hg
      · rw [e]
        exact ⟨ht, hk6.2.1, by show ρ a ≤ ρ b + (-J.1); omega⟩
      · exact zc_sf_ok he bz bn ht hd (fun f hf => hf) hg
    · exact he.2.2 g hg
/-- a + n is no more than z: by a difference that is known -/
noncomputable def zc_ls1 (env : zb_N) (x y z : Nat) : Bool := match zb_nth env.1 z, zb_nth env.1 x with
  | some Z, some X => zc_nw Z X && zb_any (fun f => Nat.beq f.1 6 && (Nat.beq f.2.2.1 z && (zb_ieq f.2.2.2 (x : Int) && zc_entk env y f.2.1 0))) env.2
  | _, _ => false
noncomputable def zc_ls (env : zb_N) (a n z : Nat) : Bool := zc_ls1 env a n z || zc_ls1 env n a z
theorem zc_ls1_ok {x y z : Nat} (he : zb_en N ρ env) (h : zc_ls1 env x y z = true) : ρ x + ρ y ≤ ρ z := by
  unfold zc_ls1 at h
  split at h
  case h_2 => cases h
  case h_1 Z X hZ hX =>
  rw [zb_nth_eq] at hZ hX
  have h1 := an_and h
  obtain ⟨f, f1, f2⟩ := zb_any_ok h1.2
  have g1 := an_and f2
  have g2 := an_and g1.2
  have g3 := an_and g2.2
  have hk := he.2.2 f f1
  obtain ⟨k, a, b, c⟩ := f
  have e0 : k = 6 := Nat.eq_of_beq_eq_true g1.1
  have e2 : b = z := Nat.eq_of_beq_eq_true g2.1
  have e3 : c = (x : Int) := zb_ieq_of g3.1
  subst e0
  subst e2
  subst e3
  have hk6 := zc_fk6 hk
  rw [Int.toNat_natCast] at hk6
  have hd := zc_diff h1.1 (he.2.1 _ _ hZ) (he.2.1 _ _ hX) hk6.2.2.2
  have := zc_entk_ok he g3.2
  dsimp only at this
  omega
theorem zc_ls_ok {a n z : Nat} (he : zb_en N ρ env) (h : zc_ls env a n z = true) : ρ a + ρ n ≤ ρ z := by
  unfold zc_ls at h
  rw [Bool.or_eq_true] at h
  rcases h with h | h
  · exact zc_ls1_ok he h
  · have := zc_ls1_ok he h
    omega
end
