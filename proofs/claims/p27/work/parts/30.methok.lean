/-! what is used at calls holds; what is shown of a body holds of its calls -/
section
variable {T : zb_T} {len : Nat} {loc : Nat → Nat × Nat} {N : Nat} {ρ : Nat → Int} {env : zb_N} {L' : rf_L} {st' : List Value} {σ : rf_S}
def zb_r2 (N nP : Nat) (ρ ρB : Nat → Int) : Nat → Int := fun k => if k < N then ρ k else ρB (nP + (k - N))
theorem zb_r2_ag {nP : Nat} {ρB : Nat → Int} : zb_ag N ρ (zb_r2 N nP ρ ρB) := fun k hk => by
  unfold zb_r2
  rw [if_pos hk]
theorem zb_sx_ok {ds : List an_V} {srcs : List (Nat × Nat)} {MB j : Nat} {ρB : Nat → Int} {v : an_V} (hd : zb_dok loc 0 ds srcs N ρ L' st' σ) (hag : zb_ag ds.length (zb_rA loc 0 ρ srcs L' st' σ) ρB) (hMB : ds.length ≤ MB) (hj : j < MB) (h : zb_sx N ds.length ds j = some v) : (∀ k d, v = .inr (0, k, d) → k.toNat < N + (MB - ds.length) ∧ ρB j = zb_r2 N ds.length ρ ρB k.toNat + d) ∧ (∀ lo hi, v = .inr (1, lo, hi) → lo ≤ ρB j ∧ ρB j ≤ hi) := by
  unfold zb_sx at h
  cases hc : Nat.blt j ds.length with
  | true =>
    have hj2 : j < ds.length := Nat.le_of_ble_eq_true hc
    rw [hc, cond_true, zb_nth_eq] at h
    have hlt : j < srcs.length := by rw [← hd.2.1]; exact hj2
    have hs : srcs[j]? = some srcs[j] := List.getElem?_eq_getElem hlt
    obtain ⟨w, w1, w2⟩ := hd.2.2 _ _ _ hs h
    have e : ρB j = zb_int (some w) := by
      rw [hag j hj2]
      unfold zb_rA
      rw [if_neg (Nat.not_lt_zero _), Nat.sub_zero, hs]
      show zb_int (zb_cw loc L' st' σ srcs[j]) = _
      rw [w1]
    refine ⟨fun k d hv => ?_, fun lo hi hv => ?_⟩
    · subst hv
      obtain ⟨h1, x, rfl, h2⟩ := w2
      refine ⟨by omega, ?_⟩
      rw [e, zb_r2_ag _ h1]
      exact h2
    · subst hv
      obtain ⟨x, rfl, h1, h2⟩ := w2
      rw [e]
      exact ⟨h1, h2⟩
  | false =>
    have hj2 : ¬ j < ds.length := fun q => by rw [show Nat.blt j ds.length = true from Nat.ble_eq_true_of_le q] at hc; cases hc
    rw [hc, cond_false] at h
    cases h
    refine ⟨fun k d hv => ?_, fun lo hi hv => by cases hv⟩
    cases hv
    rw [Int.toNat_natCast]
    refine ⟨by omega, ?_⟩
    unfold zb_r2
    rw [if_neg (by omega), show ds.length + (N + (j - ds.length) - N) = j by omega]
    omega
theorem zb_sb_ok {ds : List an_V} {srcs : List (Nat × Nat)} {MB : Nat} {ρB : Nat → Int} {a a' : an_V} {w : Value} (hd : zb_dok loc 0 ds srcs N ρ L' st' σ) (hag : zb_ag ds.length (zb_rA loc 0 ρ srcs L' st' σ) ρB) (hMB : ds.length ≤ MB) (h : zb_sb N ds.length ds a = some a') (ha : zb_g MB ρB a w) : zb_g (N + (MB - ds.length)) (zb_r2 N ds.length ρ ρB) a' w := by
  rcases a with v | ⟨k, x, y⟩
  · cases h; exact ha
  · match k, h, ha with
    | 0, h, ha =>
      obtain ⟨h1, z, rfl, h2⟩ := ha
      have h : (match zb_sx N ds.length ds x.toNat with
        | some (.inr (0, k, d)) => some (.inr (0, k, d + y))
        | some (.inr (1, lo, hi)) => some (.inr (1, lo + y, hi + y))
        | _ => none) = some a' := h
      split at h
      case h_1 k d hv =>
        cases h
        obtain ⟨g1, -⟩ := zb_sx_ok hd hag hMB h1 hv
        obtain ⟨g2, g3⟩ := g1 k d rfl
        exact ⟨g2, z, rfl, by omega⟩
      case h_2 lo hi hv =>
        cases h
        obtain ⟨-, g1⟩ := zb_sx_ok hd hag hMB h1 hv
        have g2 := g1 lo hi rfl
        exact ⟨z, rfl, by omega, by omega⟩
      case h_3 => cases h
    | 1, h, ha => cases h; exact ha
    | 2, h, ha => cases h; exact ha
    | 3, h, ha => cases h
    | 4, h, ha => cases h; exact ha
    | 5, h, ha => cases h; exact ha
    | k + 6, h, ha => exact ha.elim
theorem zb_sf_ok {ds : List an_V} {srcs : List (Nat × Nat)} {MB : Nat} {ρB : Nat → Int} {f g : zb_F} (hd : zb_dok loc 0 ds srcs N ρ L' st' σ) (hag : zb_ag ds.length (zb_rA loc 0 ρ srcs L' st' σ) ρB) (hMB : ds.length ≤ MB) (hf : zb_fk MB ρB f) (hg : g ∈ zb_sf N ds.length ds f) : zb_fk (N + (MB - ds.length)) (zb_r2 N ds.length ρ ρB) g := by
  obtain ⟨k, a, b, c⟩ := f
  unfold zb_sf at hg
  split at hg
  case h_3 => exact absurd hg List.not_mem_nil
  case h_1 m x j y e0 ea eb =>
    have e0 : k = 3 := e0
    subst e0
    obtain ⟨h1, h2, h3⟩ := hf
    rw [cond_eq_ite] at hg
    split at hg
    case isFalse => exact absurd hg List.not_mem_nil
    case isTrue hx =>
    have hx := zb_ieq_of hx
    subst hx
    unfold zb_sfJ at hg
    rw [cond_eq_ite] at hg
    split at hg
    case isFalse => exact absurd hg List.not_mem_nil
    case isTrue hi =>
    rw [List.mem_singleton.mp hg]
    have key : ∀ i, i < 7 → j.toNat + i < N + (MB - ds.length) ∧ zb_r2 N ds.length ρ ρB (j.toNat + i) = ρB (b + i) := fun i hi7 => by
      have g := zb_every_ok hi i (zb_mem7 hi7)
      split at g
      case h_2 => cases g
      case h_1 n z hs =>
      have hs : zb_sx N ds.length ds (b + i) = some (.inr (0, n, z)) := hs
      have g := an_and g
      have e1 := Nat.eq_of_beq_eq_true g.1
      have e2 := zb_ieq_of g.2
      subst e2
      obtain ⟨q1, -⟩ := zb_sx_ok hd hag hMB (by omega) hs
      obtain ⟨q2, q3⟩ := q1 n 0 rfl
      rw [e1] at q2 q3
      exact ⟨q2, by omega⟩
    obtain ⟨q1, -⟩ := zb_sx_ok hd hag hMB h1 ea
    obtain ⟨q2, q3⟩ := q1 m 0 rfl
    exact ⟨q2, (key 6 (by omega)).1, zb_Jv_eq (by omega) (fun i hi7 => (key i hi7).2) h3⟩
  case h_2 k x j y e0 ea eb =>
  have e0 : _ = 0 := e0
  subst e0
  obtain ⟨h1, h2, h3⟩ := hf
  rw [List.mem_singleton.mp hg]
  obtain ⟨g1, -⟩ := zb_sx_ok hd hag hMB h1 ea
  obtain ⟨g2, -⟩ := zb_sx_ok hd hag hMB h2 eb
  obtain ⟨i1, i2⟩ := g1 k x rfl
  obtain ⟨i3, i4⟩ := g2 j y rfl
  exact ⟨i1, i3, by dsimp only; omega⟩
theorem zb_fm_mem {α β : Type} {f : α → List β} : ∀ {l : List α} {g : β}, g ∈ zb_fm f l → ∃ a, a ∈ l ∧ g ∈ f a
  | [], _, h => absurd h List.not_mem_nil
  | a :: l, g, h => by
    have h : g ∈ f a ++ zb_fm f l := h
    rcases List.mem_append.mp h with h | h
    · exact ⟨a, List.mem_cons_self, h⟩
    · obtain ⟨b, b1, b2⟩ := zb_fm_mem h
      exact ⟨b, List.mem_cons_of_mem _ b1, b2⟩
theorem zb_pm1_ok {nP i : Nat} {ds dt : List an_V} {a v : an_V} (h : zb_pm1 N nP ds i a dt = some v) : zb_sb N nP ds a = some v ∨ ∃ j c d t, a = .inr (0, j, c) ∧ dt = d :: t ∧ (Nat.beq j.toNat i && (zb_ieq c 0 && zb_isI d)) = true ∧ some d = some v := by
  unfold zb_pm1 at h
  split at h
  · rename_i j c d t
    cases hc : (Nat.beq j.toNat i && (zb_ieq c 0 && zb_isI d)) with
    | false => rw [hc] at h; exact Or.inl h
    | true => rw [hc] at h; exact Or.inr ⟨_, _, _, _, rfl, rfl, hc, h⟩
  · exact Or.inl h
theorem zb_pm_ok {ds : List an_V} {srcs : List (Nat × Nat)} {MB : Nat} {ρB : Nat → Int} (hd : zb_dok loc 0 ds srcs N ρ L' st' σ) (hag : zb_ag ds.length (zb_rA loc 0 ρ srcs L' st' σ) ρB) (hMB : ds.length ≤ MB) : ∀ {D D' : zb_D} (i0 : Nat) (dt : List an_V), dt = ds.drop i0 → zb_pm N ds.length ds D i0 dt = some D' → ∀ (i : Nat) (a : an_V), D[i]? = some a → ∃ a', D'[i]? = some a' ∧ ∀ w, zb_g MB ρB a w → zb_g (N + (MB - ds.length)) (zb_r2 N ds.length ρ ρB) a' w
  | [], _, _, _, _, _, i, a, h => by simp at h
  | a0 :: D, D', i0, dt, hdt, h, i, a, ha => by
    have h : zb_oc (zb_pm1 N ds.length ds i0 a0 dt) (zb_pm N ds.length ds D (i0 + 1) dt.tail) = some D' := h
    obtain ⟨v, vs, hv, hvs, rfl⟩ := zb_oc_some h
    match i, ha with
    | i + 1, ha =>
      simp only [List.getElem?_cons_succ] at ha ⊢
      exact zb_pm_ok hd hag hMB (i0 + 1) dt.tail (by rw [hdt, List.tail_drop]) hvs i a ha
    | 0, ha =>
      simp only [List.getElem?_cons_zero, Option.some.injEq] at ha ⊢
      subst ha
      refine ⟨v, rfl, fun w hw => ?_⟩
      have hcase := zb_pm1_ok hv
      rcases hcase with hv2 | ⟨j, c, d, t, ea, edt, hc, hv2⟩
      · exact zb_sb_ok hd hag hMB hv2 hw
      · subst ea
        have ed : d = v := Option.some.inj hv2
        subst ed
        have k1 := an_and hc
        have k2 := an_and k1.2
        have e1 : j.toNat = i0 := Nat.eq_of_beq_eq_true k1.1
        have e2 := zb_ieq_of k2.1
        obtain ⟨g1, x, rfl, g2⟩ := hw
        have hdi : ds[i0]? = some d := by
          rw [← List.head?_drop, ← hdt, edt]
          rfl
        have hlt : i0 < ds.length := (List.getElem?_eq_some_iff.mp hdi).1
        have hsx : zb_sx N ds.length ds i0 = some d := by
          unfold zb_sx
          rw [show Nat.blt i0 ds.length = true from Nat.ble_eq_true_of_le hlt, cond_true, zb_nth_eq, hdi]
        obtain ⟨q1, q2⟩ := zb_sx_ok hd hag hMB (by omega) hsx
        rw [e1] at g2
        rcases d with d | ⟨kk, lo, hi⟩
        · cases k2.2
        · match kk, k2.2, q1, q2 with
          | 0, _, q1, q2 =>
            obtain ⟨r1, r2⟩ := q1 lo hi rfl
            exact ⟨r1, x, rfl, by omega⟩
          | 1, _, q1, q2 =>
            obtain ⟨r1, r2⟩ := q2 lo hi rfl
            exact ⟨x, rfl, by omega, by omega⟩
          | kk + 2, q, _, _ => cases q
theorem zb_pst_ok {ds : List an_V} {srcs : List (Nat × Nat)} {MB : Nat} {ρB : Nat → Int} {B : zb_A} {r : zb_N × Option an_V × zb_D} {rv : Option Value} {σ1 : rf_S} (he : zb_en N ρ env) (hd : zb_dok loc 0 ds srcs N ρ L' st' σ) (hag : zb_ag ds.length (zb_rA loc 0 ρ srcs L' st' σ) ρB) (hMB : ds.length ≤ MB) (h : zb_pst env ds B = some r) (h1 : zb_en MB ρB B.1) (h2 : zb_gl MB ρB B.2.2.1 rv.toList) (h3 : zb_ss T len B.2.2.2.1 MB ρB σ1) : zb_en (N + (MB - ds.length)) (zb_r2 N ds.length ρ ρB) r.1 ∧ zb_gl (N + (MB - ds.length)) (zb_r2 N ds.length ρ ρB) r.2.1.toList rv.toList ∧ zb_ss T len r.2.2 (N + (MB - ds.length)) (zb_r2 N ds.length ρ ρB) σ1 := by
  unfold zb_pst at h
  rw [he.1] at h
  obtain ⟨D, d1, d2⟩ := zb_bnd_some h
  have hen : zb_en (N + (MB - ds.length)) (zb_r2 N ds.length ρ ρB) (env.1 ++ B.1.1.drop ds.length, zb_fm (zb_sf N ds.length ds) B.1.2 ++ env.2) := by
    refine ⟨by rw [List.length_append, List.length_drop, he.1, h1.1], fun k b hk => ?_, fun f hf => ?_⟩
    · by_cases hkN : k < N
      · rw [List.getElem?_append_left (by rw [he.1]; exact hkN)] at hk
        rw [zb_r2_ag k hkN]
        exact he.2.1 k b hk
      · rw [List.getElem?_append_right (by rw [he.1]; omega), he.1, List.getElem?_drop] at hk
        unfold zb_r2
        rw [if_neg hkN]
        exact h1.2.1 _ b hk
    · rcases List.mem_append.mp hf with hf | hf
      · obtain ⟨g, g1, g2⟩ := zb_fm_mem hf
        exact zb_sf_ok hd hag hMB (h1.2.2 g g1) g2
      · exact zb_fk_ext (by omega) zb_r2_ag (he.2.2 f hf)
  obtain ⟨e', p1, p2⟩ := zb_prop2_ok hen
  have hss : zb_ss T len D (N + (MB - ds.length)) (zb_r2 N ds.length ρ ρB) σ1 := by
    refine ⟨h3.1, fun r t ht => ?_⟩
    obtain ⟨o, o1, o2⟩ := h3.2 r t ht
    refine ⟨o, o1, ?_⟩
    rcases t with ⟨k, n, d⟩ | ⟨ci, gs⟩
    · show zb_rw D _ _ k n d o
      have o2 : zb_rw B.2.2.2.1 MB ρB k n d o := o2
      unfold zb_rw at o2 ⊢
      split at o2
      case h_2 => exact o2
      case h_1 b x =>
        obtain ⟨i1, f, rfl, i3⟩ := o2
        refine ⟨i1, f, rfl, fun j hj => ?_⟩
        obtain ⟨c, c1, c2⟩ := i3 j hj
        obtain ⟨a', b1, b2⟩ := zb_pm_ok hd hag hMB 0 ds rfl d1 _ _ c1
        exact ⟨a', b1, b2 _ c2⟩
    · rcases o with o | ⟨cj, fs⟩
      · exact o2.elim
      · refine ⟨o2.1, o2.2.1, fun c g hg => ?_⟩
        obtain ⟨w, w1, w2⟩ := o2.2.2 c g hg
        refine ⟨w, w1, ?_⟩
        obtain ⟨k, s, v0⟩ := g
        match k, w2 with
        | 0, w2 =>
          obtain ⟨a0, a1, a2⟩ := w2
          obtain ⟨a', b1, b2⟩ := zb_pm_ok hd hag hMB 0 ds rfl d1 _ _ a1
          exact ⟨a', b1, b2 _ a2⟩
        | k + 1, w2 => exact w2
  rw [p1] at d2
  have d2 : (match B.2.2.1 with
    | [] => some (e', none, D)
    | [a] => zb_bnd (zb_sb N ds.length ds a) fun a => some (e', some a, D)
    | _ => none) = some r := d2
  split at d2
  case h_1 hB =>
    cases d2
    rw [hB] at h2
    exact ⟨p2, by rw [zb_gl_nil h2]; exact trivial, hss⟩
  case h_2 a hB =>
    obtain ⟨a', e1, e2⟩ := zb_bnd_some d2
    cases e2
    rw [hB] at h2
    cases rv with
    | none => exact h2.elim
    | some v => exact ⟨p2, ⟨zb_sb_ok hd hag hMB e1 h2.1, trivial⟩, hss⟩
  case h_3 => cases d2
/-! sums -/
theorem zb_eb_ok {q : zb_q} {a c z : Int} (hq : zb_qk N ρ q z) : (zb_eb a q c).1 ≤ a * z + c ∧ a * z + c ≤ (zb_eb a q c).2 := by
  have h1 := hq.1
  have h2 := hq.2.1
  unfold zb_eb
  cases h : zb_le 0 a with
  | true =>
    have h := zb_le_of h
    have m1 : a * q.2.1 ≤ a * z := Int.mul_le_mul_of_nonneg_left h1 h
    have m2 : a * z ≤ a * q.2.2 := Int.mul_le_mul_of_nonneg_left h2 h
    exact ⟨by show a * q.2.1 + c ≤ _; omega, by show _ ≤ a * q.2.2 + c; omega⟩
  | false =>
    have h : a < 0 := zb_le_not (by rw [h]; exact Bool.false_ne_true)
    have m1 : a * q.2.2 ≤ a * z := Int.mul_le_mul_of_nonpos_left (by omega) h2
    have m2 : a * z ≤ a * q.2.1 := Int.mul_le_mul_of_nonpos_left (by omega) h1
    exact ⟨by show a * q.2.2 + c ≤ _; omega, by show _ ≤ a * q.2.1 + c; omega⟩
theorem zb_els_ok {a c s b d z w : Int} {q p : zb_q} (he : zb_en N ρ env) (h : zb_els env.2 a q c s b p d = true) (hq : zb_qk N ρ q z) (hp : zb_qk N ρ p w) : a * z + c + s ≤ b * w + d := by
  unfold zb_els at h
  rw [Bool.or_eq_true] at h
  rcases h with h | h
  · have h := zb_le_of h
    have h1 := zb_eb_ok (a := a) (c := c) hq
    have h2 := zb_eb_ok (a := b) (c := d) hp
    omega
  · have h := an_and h
    have e := zb_ieq_of h.1
    subst e
    have h := h.2
    cases h1 : zb_le 1 a with
    | true =>
      rw [h1] at h
      have h1 := zb_le_of h1
      have h2 := zb_ent_ok he h hq hp
      have m1 : a * z ≤ a * (w + (d - c - s) / a) := Int.mul_le_mul_of_nonneg_left h2 (by omega)
      have m2 : a * ((d - c - s) / a) ≤ d - c - s := Int.mul_ediv_self_le (by omega)
      rw [Int.mul_add] at m1
      omega
    | false =>
      rw [h1] at h
      cases h3 : zb_le a (-1) with
      | true =>
        rw [h3] at h
        have h3 := zb_le_of h3
        have h2 := zb_ent_ok he h hp hq
        have m1 : (-a) * w ≤ (-a) * (z + (d - c - s) / (-a)) := Int.mul_le_mul_of_nonneg_left h2 (by omega)
        have m2 : (-a) * ((d - c - s) / (-a)) ≤ d - c - s := Int.mul_ediv_self_le (by omega)
        rw [Int.mul_add] at m1
        have n1 : (-a) * w = -(a * w) := Int.neg_mul a w
        have n2 : (-a) * z = -(a * z) := Int.neg_mul a z
        omega
      | false =>
        rw [h3] at h
        have h := zb_le_of h
        have g1 : ¬ 1 ≤ a := fun q => by rw [zb_le_to q] at h1; cases h1
        have g2 : ¬ a ≤ -1 := fun q => by rw [zb_le_to q] at h3; cases h3
        have e : a = 0 := by omega
        subst e
        rw [Int.zero_mul, Int.zero_mul]
        omega
theorem zb_eq_ok {n0 : Nat} {ds : List an_V} {srcs : List (Nat × Nat)} {e : zb_E} {q : zb_q} (he : zb_en N ρ env) (hd : zb_dok loc n0 ds srcs N ρ L' st' σ) (h : zb_eq env n0 ds e = some q) : ∃ z, zb_qk N ρ q z ∧ e.1 * z + e.2.2 = zb_ev (zb_rA loc n0 ρ srcs L' st' σ) e := by
  unfold zb_eq at h
  cases hc : zb_ieq e.1 0 with
  | true =>
    rw [hc] at h
    cases h
    have e0 := zb_ieq_of hc
    refine ⟨0, zb_qk_const 0, ?_⟩
    unfold zb_ev
    rw [e0, Int.zero_mul, Int.zero_mul]
  | false =>
    rw [hc] at h
    have h : (match zb_dl n0 ds e.2.1 with
      | some d => zb_pi env d
      | none => none) = some q := h
    split at h
    case h_2 => cases h
    case h_1 d hdl => exact ⟨_, zb_dl_ok he hd hdl h, rfl⟩
theorem zb_dok_nil {n0 : Nat} (h : n0 ≤ N) : zb_dok loc n0 [] [] N ρ L' st' σ := ⟨h, rfl, fun i s d hs => by simp at hs⟩
/-- of the first numbers alone -/
theorem zb_eq_ok0 {n0 : Nat} {e : zb_E} {q : zb_q} {ρ0 : Nat → Int} (he : zb_en N ρ env) (h0 : n0 ≤ N) (hag : zb_ag n0 ρ0 ρ) (h : zb_eq env n0 [] e = some q) : ∃ z, zb_qk N ρ q z ∧ e.1 * z + e.2.2 = zb_ev ρ0 e := by
  unfold zb_eq at h
  cases hc : zb_ieq e.1 0 with
  | true =>
    rw [hc] at h
    cases h
    have e0 := zb_ieq_of hc
    refine ⟨0, zb_qk_const 0, ?_⟩
    unfold zb_ev
    rw [e0, Int.zero_mul, Int.zero_mul]
  | false =>
    rw [hc] at h
    have h : (match zb_dl n0 [] e.2.1 with
      | some d => zb_pi env d
      | none => none) = some q := h
    split at h
    case h_2 => cases h
    case h_1 d hdl =>
      have g := zb_dl_ok (loc := fun _ => (0, 0)) (L' := []) (st' := []) (σ := []) he (zb_dok_nil h0) hdl h
      have hlt : e.2.1 < n0 := by
        unfold zb_dl at hdl
        cases hb : Nat.blt e.2.1 n0 with
        | true => exact Nat.le_of_ble_eq_true hb
        | false => rw [hb] at hdl; cases hdl
      rw [zb_rA_lt hlt, hag _ hlt] at g
      exact ⟨_, g, rfl⟩
end
