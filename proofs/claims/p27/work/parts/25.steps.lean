/-! each step of the abstract machine is among the ways of the boxes -/
section
variable {T : zb_T} {len : Nat} {wr : Nat → Bool} {N : Nat} {ρ : Nat → Int} {SA : rf_A} {env : zb_N} {L : zb_L} {L' : rf_L} {st : List an_V} {st' : List Value} {D : zb_D} {σ : rf_S} {ws : List zb_C}
def zb_In (T : zb_T) (len : Nat) (wr : Nat → Bool) (N : Nat) (ρ : Nat → Int) (SA : rf_A) (E : rf_E) (ws : List zb_C) (L' : rf_L) (st' : List Value) (σ : rf_S) : Prop := ∃ w, w ∈ ws ∧ ∃ M ρ', N ≤ M ∧ zb_ag N ρ ρ' ∧ zb_en M ρ' w.1 ∧ ∃ r, rf_stp SA E L' st' σ = some r ∧ r.1 = w.2.1 ∧ zb_gL M ρ' w.2.2.1 r.2.1 ∧ zb_gl M ρ' w.2.2.2.1 r.2.2.1 ∧ zb_ss T len w.2.2.2.2 M ρ' r.2.2.2 ∧ ∀ q, wr q = false → r.2.2.2[q]? = σ[q]?
/-- one way, nothing written -/
theorem zb_one {E : rf_E} {e : zb_N} {nxt : Nat} {L1 : zb_L} {st1 : List an_V} {L2 : rf_L} {st2 : List Value} (hw : (e, nxt, L1, st1, D) ∈ ws) (he : zb_en N ρ e) (hr : rf_stp SA E L' st' σ = some (nxt, L2, st2, σ)) (h1 : zb_gL N ρ L1 L2) (h2 : zb_gl N ρ st1 st2) (hσ : zb_ss T len D N ρ σ) : zb_In T len wr N ρ SA E ws L' st' σ := ⟨_, hw, N, ρ, Nat.le_refl _, zb_ag_refl _ _, he, _, hr, rfl, h1, h2, hσ, fun _ _ => rfl⟩
theorem zb_s0 {a : Int} {b c x nxt : Nat} {sw : List (Int × Nat)} (he : zb_en N ρ env) (hL : zb_gL N ρ L L') (hst : zb_gl N ρ st st') (hσ : zb_ss T len D N ρ σ) (hs : zb_o0 a nxt env L st D = some ws) : zb_In T len wr N ρ SA (0, a, b, c, x, nxt, sw) ws L' st' σ := by
  obtain ⟨h1, h2⟩ := zb_cond hs
  cases h2
  have hf := zb_fit_of h1
  have e : (Int32.ofInt a).toInt = a := Int32.toInt_ofInt_of_le (by omega) (by omega)
  exact zb_one List.mem_cons_self he rfl hL ⟨⟨Int32.ofInt a, rfl, by rw [e]; exact Int.le_refl _, by rw [e]; exact Int.le_refl _⟩, hst⟩ hσ
theorem zb_s1 {a : Int} {b c x nxt : Nat} {sw : List (Int × Nat)} (he : zb_en N ρ env) (hL : zb_gL N ρ L L') (hst : zb_gl N ρ st st') (hσ : zb_ss T len D N ρ σ) (hs : zb_o1 a nxt env L st D = some ws) : zb_In T len wr N ρ SA (1, a, b, c, x, nxt, sw) ws L' st' σ := by
  obtain ⟨h1, h2⟩ := zb_cond hs
  cases h2
  have h1 := an_and h1
  have p1 := zb_le_of h1.1
  have p2 := zb_le_of h1.2
  rw [zb_lo64_eq] at p1
  rw [zb_hi64_eq] at p2
  have e : (Int64.ofInt a).toInt = a := Int64.toInt_ofInt_of_le (by omega) (by omega)
  exact zb_one List.mem_cons_self he rfl hL ⟨⟨Int64.ofInt a, rfl, by rw [e]; exact Int.le_refl _, by rw [e]; exact Int.le_refl _⟩, hst⟩ hσ
theorem zb_each_ok {k : Nat} {z : Int} (hk : ρ k = z) (he : zb_en N ρ env) : ∀ (n : Nat) (lo : Int), lo ≤ z → z < lo + (n : Int) → ∃ w, w ∈ zb_each env k lo n ∧ zb_en N ρ w.2 ∧ w.1 = z
  | 0, lo, h1, h2 => by omega
  | n + 1, lo, h1, h2 => by
    by_cases h : z = lo
    · exact ⟨_, List.mem_cons_self, zb_en_upd he (by rw [hk, h]; exact Int.le_refl _) (by rw [hk, h]; exact Int.le_refl _), h.symm⟩
    · obtain ⟨w, w1, w2, w3⟩ := zb_each_ok hk he n (lo + 1) (by omega) (by omega)
      exact ⟨w, List.mem_cons_of_mem _ w1, w2, w3⟩
theorem zb_s2 {sp : Bool} {a : Int} {b c x nxt : Nat} {sw : List (Int × Nat)} (he : zb_en N ρ env) (hL : zb_gL N ρ L L') (hst : zb_gl N ρ st st') (hσ : zb_ss T len D N ρ σ) (hs : zb_o2 sp b nxt env L st D = some ws) : zb_In T len wr N ρ SA (2, a, b, c, x, nxt, sw) ws L' st' σ := by
  unfold zb_o2 at hs
  split at hs
  case h_2 => cases hs
  case h_1 v hv =>
  obtain ⟨h1, h2⟩ := zb_cond hs
  obtain ⟨w, w1, w2⟩ := hL _ _ hv
  obtain ⟨y, rfl⟩ := zb_g_I w2 h1
  have hr : rf_stp SA (2, a, b, c, x, nxt, sw) L' st' σ = some (nxt, L', .int y :: st', σ) := by simp only [rf_stp, w1]
  have triv : zb_st1 env nxt L (v :: st) D = some ws → zb_In T len wr N ρ SA (2, a, b, c, x, nxt, sw) ws L' st' σ := fun h => by
    cases h
    exact zb_one List.mem_cons_self he hr hL ⟨w2, hst⟩ hσ
  cases sp with
  | false => exact triv h2
  | true =>
    rw [cond_true] at h2
    split at h2
    case h_2 => exact triv h2
    case h_1 k d lo hi hq =>
    rw [cond_eq_ite] at h2
    split at h2
    case isFalse => exact triv h2
    case isTrue =>
      cases h2
      obtain ⟨y', e, g1, g2, g3⟩ := zb_pi_ok he hq w2
      cases e
      obtain ⟨k1, k2⟩ := g3 k d rfl
      dsimp only at g1 g2
      obtain ⟨w, q1, q2, q3⟩ := zb_each_ok (k := k) rfl he (hi - lo + 1).toNat (lo - d) (by omega) (by omega)
      exact zb_one (List.mem_map.mpr ⟨w, q1, rfl⟩) q2 hr hL ⟨w2, hst⟩ hσ
theorem zb_s3 {a : Int} {b c x nxt : Nat} {sw : List (Int × Nat)} (he : zb_en N ρ env) (hL : zb_gL N ρ L L') (hst : zb_gl N ρ st st') (hσ : zb_ss T len D N ρ σ) (hs : zb_o3 b nxt env L st D = some ws) : zb_In T len wr N ρ SA (3, a, b, c, x, nxt, sw) ws L' st' σ := by
  unfold zb_o3 at hs
  split at hs
  case h_2 => cases hs
  case h_1 v hv =>
  obtain ⟨h1, h2⟩ := zb_cond hs
  cases h2
  obtain ⟨w, w1, w2⟩ := hL _ _ hv
  obtain ⟨y, rfl⟩ := zb_g_Lo w2 h1
  exact zb_one (L2 := L') (st2 := .long y :: st') List.mem_cons_self he (by simp only [rf_stp, w1]) hL ⟨w2, hst⟩ hσ
theorem zb_s4 {a : Int} {b c x nxt : Nat} {sw : List (Int × Nat)} (he : zb_en N ρ env) (hL : zb_gL N ρ L L') (hst : zb_gl N ρ st st') (hσ : zb_ss T len D N ρ σ) (hs : zb_o4 b nxt env L st D = some ws) : zb_In T len wr N ρ SA (4, a, b, c, x, nxt, sw) ws L' st' σ := by
  unfold zb_o4 at hs
  split at hs
  case h_2 => cases hs
  case h_1 v hv =>
  obtain ⟨h1, h2⟩ := zb_cond hs
  cases h2
  obtain ⟨w, w1, w2⟩ := hL _ _ hv
  obtain ⟨y, -, rfl⟩ := zb_g_R w2 h1
  exact zb_one (L2 := L') (st2 := .ref y :: st') List.mem_cons_self he (by simp only [rf_stp, w1]) hL ⟨w2, hst⟩ hσ
theorem zb_s5 {a : Int} {b c x nxt : Nat} {sw : List (Int × Nat)} (he : zb_en N ρ env) (hL : zb_gL N ρ L L') (hst : zb_gl N ρ st st') (hσ : zb_ss T len D N ρ σ) (hs : zb_o5 b nxt env L st D = some ws) : zb_In T len wr N ρ SA (5, a, b, c, x, nxt, sw) ws L' st' σ := by
  unfold zb_o5 at hs
  split at hs
  case h_2 => cases hs
  case h_1 v r =>
  obtain ⟨h1, h2⟩ := zb_cond hs
  obtain ⟨L1, g1, g2⟩ := zb_bnd_some h2
  cases g2
  obtain ⟨w, r1, rfl, w1, w2⟩ := zb_gl_cons hst
  obtain ⟨y, rfl⟩ := zb_g_I w1 h1
  exact zb_one (L2 := rf_set L' b (.int y)) (st2 := r1) List.mem_cons_self he rfl (zb_set_ok hL g1 w1) w2 hσ
theorem zb_s6 {a : Int} {b c x nxt : Nat} {sw : List (Int × Nat)} (he : zb_en N ρ env) (hL : zb_gL N ρ L L') (hst : zb_gl N ρ st st') (hσ : zb_ss T len D N ρ σ) (hs : zb_o6 b nxt env L st D = some ws) : zb_In T len wr N ρ SA (6, a, b, c, x, nxt, sw) ws L' st' σ := by
  unfold zb_o6 at hs
  split at hs
  case h_2 => cases hs
  case h_1 v r =>
  obtain ⟨h1, h2⟩ := zb_cond hs
  obtain ⟨L1, g1, g2⟩ := zb_bnd_some h2
  cases g2
  obtain ⟨w, r1, rfl, w1, w2⟩ := zb_gl_cons hst
  obtain ⟨y, -, rfl⟩ := zb_g_R w1 h1
  exact zb_one (L2 := rf_set L' b (.ref y)) (st2 := r1) List.mem_cons_self he rfl (zb_set_ok hL g1 w1) w2 hσ
theorem zb_s8 {a : Int} {b c x nxt : Nat} {sw : List (Int × Nat)} (he : zb_en N ρ env) (hL : zb_gL N ρ L L') (hst : zb_gl N ρ st st') (hσ : zb_ss T len D N ρ σ) (hs : zb_o8 a b nxt env L st D = some ws) : zb_In T len wr N ρ SA (8, a, b, c, x, nxt, sw) ws L' st' σ := by
  unfold zb_o8 at hs
  split at hs
  case h_2 => cases hs
  case h_1 v hv =>
  obtain ⟨q, q1, q2⟩ := zb_bnd_some hs
  obtain ⟨h1, h2⟩ := zb_cond q2
  obtain ⟨L1, g1, g2⟩ := zb_bnd_some h2
  cases g2
  obtain ⟨w, w1, w2⟩ := hL _ _ hv
  obtain ⟨y, rfl, w3⟩ := zb_pi_ok he q1 w2
  have hf := zb_fit_of h1
  have e : (Int32.ofInt a).toInt = a := Int32.toInt_ofInt_of_le (by omega) (by omega)
  exact zb_one (L2 := rf_set L' b (.int (y + Int32.ofInt a))) (st2 := st') List.mem_cons_self he (by simp only [rf_stp, w1]) (zb_set_ok hL g1 (zb_addc_ok w3 (fun k1 k2 => by rw [zb_add (by rw [e]; omega) (by rw [e]; omega), e]))) hst hσ
theorem zb_addf_ok {qx qy : zb_q} {x y : Int32} (he : zb_en N ρ env) (hx : zb_qk N ρ qx x.toInt) (hy : zb_qk N ρ qy y.toInt) : zb_g N ρ (zb_addf env.2 qx qy) (.int (x + y)) := by
  unfold zb_addf
  split
  case h_2 => exact zb_bin_ok 0 hx hy
  case h_1 k a j b hk hj =>
  split
  case h_2 => exact zb_bin_ok 0 hx hy
  case h_1 s hs =>
  cases hf : zb_fit (qx.2.1 + qy.2.1) (qx.2.2 + qy.2.2) with
  | false => exact zb_top_ok _
  | true =>
    have hf := zb_fit_of hf
    have g := zb_sm2_ok he env.2 he.2.2 _ hs
    obtain ⟨-, g1⟩ := hx.2.2 k a hk
    obtain ⟨-, g2⟩ := hy.2.2 j b hj
    have x1 := hx.1
    have x2 := hx.2.1
    have y1 := hy.1
    have y2 := hy.2.1
    refine ⟨x + y, rfl, ?_⟩
    rw [zb_add (by omega) (by omega)]
    exact ⟨by omega, zb_le_min (by omega) (by omega)⟩
theorem zb_fnd_ok {kd k : Nat} {c : Int} : ∀ {fs : List zb_F} {t : Nat}, zb_fnd kd k c fs = some t → (kd, t, k, c) ∈ fs
  | [], _, h => by cases h
  | f :: fs, t, h => by
    have h : (bif Nat.beq f.1 kd && (Nat.beq f.2.2.1 k && (zb_le f.2.2.2 c && zb_le c f.2.2.2)) then some f.2.1 else zb_fnd kd k c fs) = some t := h
    cases hb : (Nat.beq f.1 kd && (Nat.beq f.2.2.1 k && (zb_le f.2.2.2 c && zb_le c f.2.2.2))) with
    | true =>
      rw [hb] at h
      have h1 := an_and hb
      have h2 := an_and h1.2
      have h3 := an_and h2.2
      obtain ⟨f0, f1, f2, f3⟩ := f
      have e0 : f0 = kd := Nat.eq_of_beq_eq_true h1.1
      have e2 : f2 = k := Nat.eq_of_beq_eq_true h2.1
      have e3 : f3 = c := by
        have := zb_le_of h3.1
        have := zb_le_of h3.2
        dsimp only at *
        omega
      have e1 : f1 = t := Option.some.inj h
      subst e0
      subst e1
      subst e2
      subst e3
      exact List.mem_cons_self
    | false =>
      rw [hb] at h
      exact List.mem_cons_of_mem _ (zb_fnd_ok h)
theorem zb_vb_ok {r : an_V} {z : Int32} (he : zb_en N ρ env) (h : zb_g N ρ r (.int z)) : (zb_vb env r).1 ≤ z.toInt ∧ z.toInt ≤ (zb_vb env r).2 := by
  unfold zb_vb
  split
  case h_1 q hq =>
    obtain ⟨x, hx, h1⟩ := zb_pi_ok he hq h
    cases hx
    exact ⟨h1.1, h1.2.1⟩
  case h_2 => exact zb_32 z
theorem zb_opn_ok {m k : Nat} {c res : Int} {bd : Int × Int} (he : zb_en N ρ env) (hk : k < N) (hc : m < 9 → c.toNat < N) (hres : res = zb_ov m (ρ k) c (ρ c.toNat)) (h1 : bd.1 ≤ res) (h2 : res ≤ bd.2) : ∃ M ρ', N ≤ M ∧ zb_ag N ρ ρ' ∧ zb_en M ρ' (zb_opn env m k c bd).1 ∧ (zb_opn env m k c bd).2 < M ∧ ρ' (zb_opn env m k c bd).2 = res := by
  unfold zb_opn
  split
  case h_1 t ht =>
    have hf := he.2.2 _ (zb_fnd_ok ht)
    have e5 : 5 + m = m + 5 := Nat.add_comm 5 m
    rw [e5] at hf
    obtain ⟨t1, -, -, t4⟩ := hf
    exact ⟨N, ρ, Nat.le_refl _, zb_ag_refl _ _, he, t1, by rw [hres]; exact t4⟩
  case h_2 =>
    have hN : env.1.length = N := he.1
    have hag : zb_ag N ρ (zb_ru ρ N res) := zb_ru_ag _
    refine ⟨N + 1, zb_ru ρ N res, Nat.le_succ _, hag, ?_, by rw [hN]; exact Nat.lt_succ_self _, by rw [hN]; exact zb_ru_at _⟩
    refine zb_en_app (fs := [(5 + m, env.1.length, k, c)]) he h1 h2 (fun f hf => ?_)
    rw [List.mem_singleton.mp hf, hN, Nat.add_comm 5 m]
    refine ⟨Nat.lt_succ_self _, by omega, fun hm => by have := hc hm; omega, ?_⟩
    rw [zb_ru_at, hag k hk]
    refine hres.trans ?_
    by_cases hm : m < 9
    · rw [hag _ (hc hm)]
    · exact zb_ov_y hm
theorem zb_nrm_ok {q : zb_q} {k : Nat} {c : Int} {x : Int32} (he : zb_en N ρ env) (hq : zb_qk N ρ q x.toInt) (hk : q.1 = some (k, c)) : ∃ M ρ', N ≤ M ∧ zb_ag N ρ ρ' ∧ zb_en M ρ' (zb_nrm env q k c).1 ∧ (zb_nrm env q k c).2 < M ∧ ρ' (zb_nrm env q k c).2 = x.toInt := by
  obtain ⟨k1, k2⟩ := hq.2.2 k c hk
  unfold zb_nrm
  cases hc : (zb_le c 0 && zb_le 0 c) with
  | true =>
    have hc := an_and hc
    have c1 := zb_le_of hc.1
    have c2 := zb_le_of hc.2
    exact ⟨N, ρ, Nat.le_refl _, zb_ag_refl _ _, he, k1, by show ρ k = _; omega⟩
  | false =>
    refine zb_opn_ok he k1 (fun h => absurd h (by decide)) ?_ hq.1 hq.2.1
    show x.toInt = (Int32.ofInt (ρ k) + Int32.ofInt c).toInt
    rw [← Int32.ofInt_add, k2, Int32.ofInt_toInt]
theorem zb_in_nm {E : rf_E} {nxt : Nat} {r : List an_V} {r2 : List Value} {res : Int32} {e : zb_N × Nat} {M : Nat} {ρ' : Nat → Int} (hL : zb_gL N ρ L L') (h2 : zb_gl N ρ r r2) (hσ : zb_ss T len D N ρ σ) (hr : rf_stp SA E L' st' σ = some (nxt, L', .int res :: r2, σ)) (hs : zb_pu nxt L r D e = some ws) (hN : N ≤ M) (hag : zb_ag N ρ ρ') (he : zb_en M ρ' e.1) (ht : e.2 < M) (hv : ρ' e.2 = res.toInt) : zb_In T len wr N ρ SA E ws L' st' σ := by
  cases hs
  refine ⟨_, List.mem_cons_self, M, ρ', hN, hag, he, _, hr, rfl, zb_gL_ext hN hag hL, ⟨⟨?_, res, rfl, ?_⟩, zb_gl_ext hN hag h2⟩, zb_ss_ext hN hag hσ, fun _ _ => rfl⟩
  · rw [Int.toNat_natCast]; exact ht
  · rw [Int.toNat_natCast, hv, Int.add_zero]
theorem zb_s9c {a : Int} {b c x nxt : Nat} {sw : List (Int × Nat)} {qz qy : zb_q} {z0 y0 : Int32} {r : List an_V} {r2 : List Value} (he : zb_en N ρ env) (hL : zb_gL N ρ L L') (v2 : zb_gl N ρ r r2) (hσ : zb_ss T len D N ρ σ) (z3 : zb_qk N ρ qz z0.toInt) (y3 : zb_qk N ρ qy y0.toInt) (hb : b < 9) (hs : zb_o9c b nxt env L r D qz qy = some ws) : zb_In T len wr N ρ SA (9, a, b, c, x, nxt, sw) ws L' (.int y0 :: .int z0 :: r2) σ := by
  have hr : rf_stp SA (9, a, b, c, x, nxt, sw) L' (.int y0 :: .int z0 :: r2) σ = some (nxt, L', .int (rf_bin b z0 y0) :: r2, σ) := rfl
  have hbn := zb_bin_ok b z3 y3
  have hvb := zb_vb_ok he hbn
  have triv : zb_st1 env nxt L (zb_bin b qz qy :: r) D = some ws → zb_In T len wr N ρ SA (9, a, b, c, x, nxt, sw) ws L' (.int y0 :: .int z0 :: r2) σ := fun h => by
    cases h
    exact zb_one List.mem_cons_self he hr hL ⟨hbn, v2⟩ hσ
  have ez : Int32.ofInt z0.toInt = z0 := Int32.ofInt_toInt z0
  have ey : Int32.ofInt y0.toInt = y0 := Int32.ofInt_toInt y0
  unfold zb_o9c at hs
  split at hs
  case h_1 k d j f hk hj =>
    obtain ⟨M1, ρ1, n1, g1, e1, t1, w1⟩ := zb_nrm_ok he z3 hk
    obtain ⟨M2, ρ2, n2, g2, e2, t2, w2⟩ := zb_nrm_ok e1 (zb_qk_ext n1 g1 y3) hj
    have w1' : ρ2 (zb_nrm env qz k d).2 = z0.toInt := by rw [g2 _ t1]; exact w1
    obtain ⟨M3, ρ3, n3, g3, e3, t3, w3⟩ := zb_opn_ok (m := b) (k := (zb_nrm env qz k d).2) (c := (((zb_nrm (zb_nrm env qz k d).1 qy j f).2 : Nat) : Int)) (res := (rf_bin b z0 y0).toInt) (bd := zb_vb env (zb_bin b qz qy)) e2 (Nat.lt_of_lt_of_le t1 n2) (fun _ => by rw [Int.toNat_natCast]; exact t2) (by
      unfold zb_ov
      rw [if_pos hb, Int.toNat_natCast, w1', w2, ez, ey]) hvb.1 hvb.2
    exact zb_in_nm hL v2 hσ hr hs (Nat.le_trans n1 (Nat.le_trans n2 n3)) (zb_ag_trans n1 g1 (zb_ag_trans n2 g2 g3)) e3 t3 w3
  case h_2 k d hk hj =>
    cases hsg : zb_sing qy with
    | false => rw [hsg] at hs; exact triv hs
    | true =>
      rw [hsg, cond_true] at hs
      have hy := zb_sing_ok hsg y3
      have opc : ∀ b, b < 9 → zb_g N ρ (zb_bin b qz qy) (.int (rf_bin b z0 y0)) → rf_stp SA (9, a, b, c, x, nxt, sw) L' (.int y0 :: .int z0 :: r2) σ = some (nxt, L', .int (rf_bin b z0 y0) :: r2, σ) → zb_opc b nxt env L r D qz qy k d = some ws → zb_In T len wr N ρ SA (9, a, b, c, x, nxt, sw) ws L' (.int y0 :: .int z0 :: r2) σ := fun b hb hbn hr hs => by
        have hvb := zb_vb_ok he hbn
        obtain ⟨M1, ρ1, n1, g1, e1, t1, w1⟩ := zb_nrm_ok he z3 hk
        obtain ⟨M3, ρ3, n3, g3, e3, t3, w3⟩ := zb_opn_ok (m := 9 + b) (k := (zb_nrm env qz k d).2) (c := qy.2.1) (res := (rf_bin b z0 y0).toInt) (bd := zb_vb env (zb_bin b qz qy)) e1 t1 (fun h => absurd h (by omega)) (by
          unfold zb_ov
          rw [if_neg (by omega), if_pos (by omega), show 9 + b - 9 = b by omega, w1, hy.1, ez, ey]) hvb.1 hvb.2
        exact zb_in_nm hL v2 hσ hr hs (Nat.le_trans n1 n3) (zb_ag_trans n1 g1 g3) e3 t3 w3
      match b, hb, hs, hbn, hr with
      | 0, hb, hs, hbn, hr =>
        have hs : (bif zb_isN (zb_addc qz qy.2.1) then zb_st1 env nxt L (zb_addc qz qy.2.1 :: r) D else zb_opc 0 nxt env L r D qz qy k d) = some ws := hs
        cases hi : zb_isN (zb_addc qz qy.2.1) with
        | false => rw [hi] at hs; exact opc 0 hb hbn hr hs
        | true =>
          rw [hi] at hs
          cases hs
          refine zb_one List.mem_cons_self he hr hL ⟨zb_addc_ok z3 (fun h1 h2 => ?_), v2⟩ hσ
          rw [hy.1] at h1 h2 ⊢
          exact zb_add h1 h2
      | 1, hb, hs, hbn, hr =>
        have hs : (bif zb_isN (zb_addc qz (-qy.2.1)) then zb_st1 env nxt L (zb_addc qz (-qy.2.1) :: r) D else zb_opc 1 nxt env L r D qz qy k d) = some ws := hs
        cases hi : zb_isN (zb_addc qz (-qy.2.1)) with
        | false => rw [hi] at hs; exact opc 1 hb hbn hr hs
        | true =>
          rw [hi] at hs
          cases hs
          refine zb_one List.mem_cons_self he hr hL ⟨zb_addc_ok z3 (fun h1 h2 => ?_), v2⟩ hσ
          rw [hy.1] at h1 h2 ⊢
          show (z0 - y0).toInt = _
          rw [zb_sub' (by omega) (by omega)]
          omega
      | b + 2, hb, hs, hbn, hr => exact opc (b + 2) hb hbn hr hs
  case h_3 j d hk hj =>
    cases hsg : zb_sing qz with
    | false => rw [hsg] at hs; exact triv hs
    | true =>
      rw [hsg, cond_true] at hs
      have hz := zb_sing_ok hsg z3
      cases hi : (Nat.beq b 0 && zb_isN (zb_addc qy qz.2.1)) with
      | true =>
        rw [hi] at hs
        cases hs
        have hb0 := Nat.eq_of_beq_eq_true (an_and hi).1
        subst hb0
        refine zb_one List.mem_cons_self he hr hL ⟨zb_addc_ok y3 (fun h1 h2 => ?_), v2⟩ hσ
        rw [hz.1] at h1 h2 ⊢
        show (z0 + y0).toInt = _
        rw [zb_add (by omega) (by omega)]
        omega
      | false =>
        rw [hi, cond_false] at hs
        obtain ⟨M1, ρ1, n1, g1, e1, t1, w1⟩ := zb_nrm_ok he y3 hj
        obtain ⟨M3, ρ3, n3, g3, e3, t3, w3⟩ := zb_opn_ok (m := 18 + b) (k := (zb_nrm env qy j d).2) (c := qz.2.1) (res := (rf_bin b z0 y0).toInt) (bd := zb_vb env (zb_bin b qz qy)) e1 t1 (fun h => absurd h (by omega)) (by
          unfold zb_ov
          rw [if_neg (by omega), if_neg (by omega), if_pos (by omega), show 18 + b - 18 = b by omega, w1, hz.1, ez, ey]) hvb.1 hvb.2
        exact zb_in_nm hL v2 hσ hr hs (Nat.le_trans n1 n3) (zb_ag_trans n1 g1 g3) e3 t3 w3
  case h_4 => exact triv hs
theorem zb_s9 {fl : Bool} {a : Int} {b c x nxt : Nat} {sw : List (Int × Nat)} (he : zb_en N ρ env) (hL : zb_gL N ρ L L') (hst : zb_gl N ρ st st') (hσ : zb_ss T len D N ρ σ) (hs : zb_o9 fl b nxt env L st D = some ws) : zb_In T len wr N ρ SA (9, a, b, c, x, nxt, sw) ws L' st' σ := by
  unfold zb_o9 at hs
  split at hs
  case h_2 => cases hs
  case h_1 y z r =>
  obtain ⟨qz, z1, z2⟩ := zb_bnd_some hs
  obtain ⟨qy, y1, y2⟩ := zb_bnd_some z2
  obtain ⟨w, r1, rfl, w1, w2⟩ := zb_gl_cons hst
  obtain ⟨v, r2, rfl, v1, v2⟩ := zb_gl_cons w2
  obtain ⟨y0, rfl, y3⟩ := zb_pi_ok he y1 w1
  obtain ⟨z0, rfl, z3⟩ := zb_pi_ok he z1 v1
  cases hfl : (fl && Nat.blt b 9) with
  | true =>
    rw [hfl, cond_true] at y2
    exact zb_s9c he hL v2 hσ z3 y3 (Nat.le_of_ble_eq_true (an_and hfl).2) y2
  | false =>
  rw [hfl, cond_false] at y2
  have hr : rf_stp SA (9, a, b, c, x, nxt, sw) L' (.int y0 :: .int z0 :: r2) σ = some (nxt, L', .int (rf_bin b z0 y0) :: r2, σ) := rfl
  have triv : zb_st1 env nxt L (zb_bin b qz qy :: r) D = some ws → zb_In T len wr N ρ SA (9, a, b, c, x, nxt, sw) ws L' (.int y0 :: .int z0 :: r2) σ := fun h => by
    cases h
    exact zb_one List.mem_cons_self he hr hL ⟨zb_bin_ok b z3 y3, v2⟩ hσ
  match b, y2, hr, triv with
  | 0, y2, hr, triv =>
    cases y2
    exact zb_one List.mem_cons_self he hr hL ⟨zb_addf_ok he z3 y3, v2⟩ hσ
  | 1, y2, hr, triv =>
    have y2 : zb_subf nxt env L r D qz qy = some ws := y2
    unfold zb_subf at y2
    split at y2
    case h_2 => exact triv y2
    case h_1 k d hk =>
    cases hc : (zb_fit (qz.2.1 - qy.2.2) (qz.2.2 - qy.2.1) && !(zb_sing qy)) with
    | false => rw [hc] at y2; exact triv y2
    | true =>
      rw [hc] at y2
      cases y2
      have hf := zb_fit_of (an_and hc).1
      obtain ⟨k1, k2⟩ := y3.2.2 k d hk
      have g1 := y3.1
      have g2 := y3.2.1
      have g3 := z3.1
      have g4 := z3.2.1
      have es : (z0 - y0).toInt = z0.toInt - y0.toInt := zb_sub' (by omega) (by omega)
      have hN : env.1.length = N := he.1
      have hag : zb_ag N ρ (zb_ru ρ N (z0 - y0).toInt) := zb_ru_ag _
      refine ⟨_, List.mem_cons_self, N + 1, zb_ru ρ N (z0 - y0).toInt, Nat.le_succ _, hag, ?_, _, hr, rfl, zb_gL_ext (Nat.le_succ _) hag hL, ⟨?_, zb_gl_ext (Nat.le_succ _) hag v2⟩, zb_ss_ext (Nat.le_succ _) hag hσ, fun _ _ => rfl⟩
      · refine zb_en_app (fs := [(2, env.1.length, k, qz.2.2 - d)]) he (by dsimp only; omega) (by dsimp only; omega) (fun f hf => ?_)
        rw [List.mem_singleton.mp hf, hN]
        refine ⟨Nat.lt_succ_self _, by omega, ?_⟩
        rw [zb_ru_at, hag k k1]
        omega
      · refine ⟨by rw [hN]; show N < N + 1; omega, z0 - y0, rfl, ?_⟩
        rw [hN]
        show _ = zb_ru ρ N (z0 - y0).toInt N + 0
        rw [zb_ru_at]
        omega
  | b + 2, y2, hr, triv => exact triv y2
theorem zb_s10 {a : Int} {b c x nxt : Nat} {sw : List (Int × Nat)} (he : zb_en N ρ env) (hL : zb_gL N ρ L L') (hst : zb_gl N ρ st st') (hσ : zb_ss T len D N ρ σ) (hs : zb_o10 nxt env L st D = some ws) : zb_In T len wr N ρ SA (10, a, b, c, x, nxt, sw) ws L' st' σ := by
  unfold zb_o10 at hs
  split at hs
  case h_2 => cases hs
  case h_1 y z r =>
  obtain ⟨qz, z1, z2⟩ := zb_bnd_some hs
  obtain ⟨qy, y1, y2⟩ := zb_bnd_some z2
  obtain ⟨h1, h2⟩ := zb_cond y2
  obtain ⟨w, r1, rfl, w1, w2⟩ := zb_gl_cons hst
  obtain ⟨v, r2, rfl, v1, v2⟩ := zb_gl_cons w2
  obtain ⟨y0, rfl, y3⟩ := zb_pi_ok he y1 w1
  obtain ⟨z0, rfl, z3⟩ := zb_pi_ok he z1 v1
  have h0 := zb_not0_ok h1 y3
  have hr : rf_stp SA (10, a, b, c, x, nxt, sw) L' (.int y0 :: .int z0 :: r2) σ = some (nxt, L', .int (z0 / y0) :: r2, σ) := by simp only [rf_stp, decide_eq_false h0, cond_false]
  unfold zb_qn at h2
  split at h2
  case h_2 =>
    cases h2
    exact zb_one List.mem_cons_self he hr hL ⟨zb_quo_ok z3 y3, v2⟩ hσ
  case h_1 k hk =>
    cases hc : (zb_sing qy && (zb_le 1 qy.2.1 && zb_le 0 qz.2.1)) with
    | false =>
      rw [hc] at h2
      cases h2
      exact zb_one List.mem_cons_self he hr hL ⟨zb_quo_ok z3 y3, v2⟩ hσ
    | true =>
      rw [hc, cond_true] at h2
      have hc1 := an_and hc
      have hc2 := an_and hc1.2
      have p1 := zb_le_of hc2.1
      have p2 := zb_le_of hc2.2
      have e := zb_sing_ok hc1.1 y3
      obtain ⟨k1, k2⟩ := z3.2.2 k 0 hk
      have g1 := z3.1
      have g2 := z3.2.1
      have ed := zb_div (x := z0) (y := y0) (by omega) (by omega)
      have hN : env.1.length = N := he.1
      cases hf : zb_fnd 1 k qy.2.1 env.2 with
      | some t =>
        rw [hf] at h2
        cases h2
        obtain ⟨t1, -, -, -, t5⟩ := he.2.2 _ (zb_fnd_ok hf)
        refine zb_one List.mem_cons_self he hr hL ⟨⟨by rw [Int.toNat_natCast]; exact t1, _, rfl, ?_⟩, v2⟩ hσ
        have k3 : z0.toInt = ρ k := by omega
        rw [Int.toNat_natCast, ed, t5, e.1, k3, Int.add_zero]
      | none =>
      rw [hf] at h2
      cases h2
      have m1 : qz.2.1 / qy.2.1 ≤ (z0 / y0).toInt := by rw [ed, e.1]; exact Int.ediv_le_ediv (by omega) g1
      have m2 : (z0 / y0).toInt ≤ qz.2.2 / qy.2.1 := by rw [ed, e.1]; exact Int.ediv_le_ediv (by omega) g2
      have hag : zb_ag N ρ (zb_ru ρ N (z0 / y0).toInt) := zb_ru_ag _
      refine ⟨_, List.mem_cons_self, N + 1, zb_ru ρ N (z0 / y0).toInt, Nat.le_succ _, hag, ?_, _, hr, rfl, zb_gL_ext (Nat.le_succ _) hag hL, ⟨?_, zb_gl_ext (Nat.le_succ _) hag v2⟩, zb_ss_ext (Nat.le_succ _) hag hσ, fun _ _ => rfl⟩
      · refine zb_en_app (fs := [(1, env.1.length, k, qy.2.1)]) he m1 m2 (fun f hf => ?_)
        rw [List.mem_singleton.mp hf, hN]
        refine ⟨Nat.lt_succ_self _, by omega, by omega, ?_, ?_⟩
        · rw [hag k k1]; omega
        · rw [zb_ru_at, hag k k1, ed, e.1]
          congr 1
          omega
      · refine ⟨by rw [hN]; show N < N + 1; omega, z0 / y0, rfl, ?_⟩
        rw [hN]
        show _ = zb_ru ρ N (z0 / y0).toInt N + 0
        rw [zb_ru_at]
        omega
theorem zb_s11 {a : Int} {b c x nxt : Nat} {sw : List (Int × Nat)} (he : zb_en N ρ env) (hL : zb_gL N ρ L L') (hst : zb_gl N ρ st st') (hσ : zb_ss T len D N ρ σ) (hs : zb_o11 nxt env L st D = some ws) : zb_In T len wr N ρ SA (11, a, b, c, x, nxt, sw) ws L' st' σ := by
  unfold zb_o11 at hs
  split at hs
  case h_2 => cases hs
  case h_1 y z r =>
  obtain ⟨qz, z1, z2⟩ := zb_bnd_some hs
  obtain ⟨qy, y1, y2⟩ := zb_bnd_some z2
  obtain ⟨h1, h2⟩ := zb_cond y2
  obtain ⟨w, r1, rfl, w1, w2⟩ := zb_gl_cons hst
  obtain ⟨v, r2, rfl, v1, v2⟩ := zb_gl_cons w2
  obtain ⟨y0, rfl, y3⟩ := zb_pi_ok he y1 w1
  obtain ⟨z0, rfl, z3⟩ := zb_pi_ok he z1 v1
  have h0 := zb_not0_ok h1 y3
  have hr : rf_stp SA (11, a, b, c, x, nxt, sw) L' (.int y0 :: .int z0 :: r2) σ = some (nxt, L', .int (z0 - z0 / y0 * y0) :: r2, σ) := by simp only [rf_stp, decide_eq_false h0, cond_false]
  unfold zb_rn at h2
  split at h2
  case h_2 =>
    cases h2
    exact zb_one List.mem_cons_self he hr hL ⟨zb_rem_ok z3 y3, v2⟩ hσ
  case h_1 k hk =>
    cases hc : (zb_sing qy && (zb_le 1 qy.2.1 && zb_le 0 qz.2.1)) with
    | false =>
      rw [hc] at h2
      cases h2
      exact zb_one List.mem_cons_self he hr hL ⟨zb_rem_ok z3 y3, v2⟩ hσ
    | true =>
      rw [hc, cond_true] at h2
      have hc1 := an_and hc
      have hc2 := an_and hc1.2
      have p1 := zb_le_of hc2.1
      have p2 := zb_le_of hc2.2
      have e := zb_sing_ok hc1.1 y3
      obtain ⟨k1, k2⟩ := z3.2.2 k 0 hk
      have g1 := z3.1
      have g2 := z3.2.1
      have ed := zb_mod (x := z0) (y := y0) (by omega) (by omega)
      have hN : env.1.length = N := he.1
      cases hf : zb_fnd 4 k qy.2.1 env.2 with
      | some t =>
        rw [hf] at h2
        cases h2
        obtain ⟨t1, -, -, -, t5⟩ := he.2.2 _ (zb_fnd_ok hf)
        refine zb_one List.mem_cons_self he hr hL ⟨⟨by rw [Int.toNat_natCast]; exact t1, _, rfl, ?_⟩, v2⟩ hσ
        have k3 : z0.toInt = ρ k := by omega
        rw [Int.toNat_natCast, ed, t5, e.1, k3, Int.add_zero]
      | none =>
      rw [hf] at h2
      cases h2
      have hm := zb_rem_ok (M := N) (ρ' := ρ) z3 y3
      unfold zb_rem at hm
      rw [hc1.2, cond_true] at hm
      obtain ⟨x0, hx0, m1, m2⟩ := hm
      cases hx0
      have hag : zb_ag N ρ (zb_ru ρ N (z0 - z0 / y0 * y0).toInt) := zb_ru_ag _
      refine ⟨_, List.mem_cons_self, N + 1, zb_ru ρ N (z0 - z0 / y0 * y0).toInt, Nat.le_succ _, hag, ?_, _, hr, rfl, zb_gL_ext (Nat.le_succ _) hag hL, ⟨?_, zb_gl_ext (Nat.le_succ _) hag v2⟩, zb_ss_ext (Nat.le_succ _) hag hσ, fun _ _ => rfl⟩
      · refine zb_en_app (fs := [(4, env.1.length, k, qy.2.1)]) he m1 m2 (fun f hf => ?_)
        rw [List.mem_singleton.mp hf, hN]
        refine ⟨Nat.lt_succ_self _, by omega, by omega, ?_, ?_⟩
        · rw [hag k k1]; omega
        · rw [zb_ru_at, hag k k1, ed, e.1]
          congr 1
          omega
      · refine ⟨by rw [hN]; show N < N + 1; omega, z0 - z0 / y0 * y0, rfl, ?_⟩
        rw [hN]
        show _ = zb_ru ρ N (z0 - z0 / y0 * y0).toInt N + 0
        rw [zb_ru_at]
        omega
theorem zb_s12 {fl : Bool} {a : Int} {b c x nxt : Nat} {sw : List (Int × Nat)} (he : zb_en N ρ env) (hL : zb_gL N ρ L L') (hst : zb_gl N ρ st st') (hσ : zb_ss T len D N ρ σ) (hs : zb_o12 fl nxt env L st D = some ws) : zb_In T len wr N ρ SA (12, a, b, c, x, nxt, sw) ws L' st' σ := by
  unfold zb_o12 at hs
  split at hs
  case h_2 => cases hs
  case h_1 y r =>
  obtain ⟨q, q1, q2⟩ := zb_bnd_some hs
  obtain ⟨w, r1, rfl, w1, w2⟩ := zb_gl_cons hst
  obtain ⟨y0, rfl, y3⟩ := zb_pi_ok he q1 w1
  have triv : zb_st1 env nxt L (zb_neg q :: r) D = some ws → zb_In T len wr N ρ SA (12, a, b, c, x, nxt, sw) ws L' (.int y0 :: r1) σ := fun h => by
    cases h
    exact zb_one (L2 := L') (st2 := .int (-y0) :: r1) List.mem_cons_self he rfl hL ⟨zb_neg_ok y3, w2⟩ hσ
  cases fl with
  | false => exact triv q2
  | true =>
  have q2 : zb_o12c nxt env L r D q = some ws := q2
  unfold zb_o12c at q2
  split at q2
  case h_2 => exact triv q2
  case h_1 k d hk =>
  have hvb := zb_vb_ok he (zb_neg_ok (M := N) (ρ' := ρ) y3)
  obtain ⟨M1, ρ1, n1, g1, e1, t1, w1'⟩ := zb_nrm_ok he y3 hk
  obtain ⟨M3, ρ3, n3, g3, e3, t3, w3⟩ := zb_opn_ok (m := 27) (k := (zb_nrm env q k d).2) (c := 0) (res := (-y0).toInt) (bd := zb_vb env (zb_neg q)) e1 t1 (fun h => absurd h (by decide)) (by
    unfold zb_ov
    rw [if_neg (by decide), if_neg (by decide), if_neg (by decide), w1', Int32.ofInt_toInt]) hvb.1 hvb.2
  exact zb_in_nm hL w2 hσ (SA := SA) (E := (12, a, b, c, x, nxt, sw)) (res := -y0) rfl q2 (Nat.le_trans n1 n3) (zb_ag_trans n1 g1 g3) e3 t3 w3
theorem zb_s13 {a : Int} {b c x nxt : Nat} {sw : List (Int × Nat)} (he : zb_en N ρ env) (hL : zb_gL N ρ L L') (hst : zb_gl N ρ st st') (hσ : zb_ss T len D N ρ σ) (hs : zb_o13 nxt env L st D = some ws) : zb_In T len wr N ρ SA (13, a, b, c, x, nxt, sw) ws L' st' σ := by
  unfold zb_o13 at hs
  split at hs
  case h_1 k d r =>
    cases hs
    obtain ⟨w, r1, rfl, ⟨g1, y, rfl, g2⟩, w2⟩ := zb_gl_cons hst
    exact zb_one (L2 := L') (st2 := .long y.toInt64 :: r1) List.mem_cons_self he rfl hL ⟨⟨g1, y.toInt64, rfl, by rw [Int32.toInt_toInt64]; exact g2⟩, w2⟩ hσ
  case h_2 lo hi r =>
    cases hs
    obtain ⟨w, r1, rfl, ⟨y, rfl, g1, g2⟩, w2⟩ := zb_gl_cons hst
    exact zb_one (L2 := L') (st2 := .long y.toInt64 :: r1) List.mem_cons_self he rfl hL ⟨⟨y.toInt64, rfl, by rw [Int32.toInt_toInt64]; exact g1, by rw [Int32.toInt_toInt64]; exact g2⟩, w2⟩ hσ
  case h_3 => cases hs
theorem zb_l2i {y : Int64} (h1 : -2147483648 ≤ y.toInt) (h2 : y.toInt ≤ 2147483647) : y.toInt32.toInt = y.toInt := by
  rw [Int64.toInt_toInt32, Int.bmod_eq_of_le (by omega) (by omega)]
theorem zb_s14 {a : Int} {b c x nxt : Nat} {sw : List (Int × Nat)} (he : zb_en N ρ env) (hL : zb_gL N ρ L L') (hst : zb_gl N ρ st st') (hσ : zb_ss T len D N ρ σ) (hs : zb_o14 nxt env L st D = some ws) : zb_In T len wr N ρ SA (14, a, b, c, x, nxt, sw) ws L' st' σ := by
  unfold zb_o14 at hs
  split at hs
  case h_2 => cases hs
  case h_1 v r =>
  obtain ⟨q, q1, q2⟩ := zb_bnd_some hs
  obtain ⟨w, r1, rfl, w1, w2⟩ := zb_gl_cons hst
  obtain ⟨y, rfl, y3⟩ := zb_pl_ok he q1 w1
  cases hf : zb_fit q.2.1 q.2.2 with
  | false =>
    rw [hf] at q2
    cases q2
    exact zb_one (L2 := L') (st2 := .int y.toInt32 :: r1) List.mem_cons_self he rfl hL ⟨zb_top_ok _, w2⟩ hσ
  | true =>
    rw [hf] at q2
    have g := zb_fit_of hf
    obtain ⟨g1, g2, g3⟩ := y3
    have e := zb_l2i (y := y) (by omega) (by omega)
    dsimp only [cond_true] at q2
    split at q2
    case h_1 k d hk =>
      cases q2
      obtain ⟨k1, k2⟩ := g3 k d hk
      refine zb_one (L2 := L') (st2 := .int y.toInt32 :: r1) List.mem_cons_self he rfl hL ⟨⟨k1, y.toInt32, rfl, ?_⟩, w2⟩ hσ
      rw [e, Int.toNat_natCast]
      omega
    case h_2 =>
      cases q2
      exact zb_one (L2 := L') (st2 := .int y.toInt32 :: r1) List.mem_cons_self he rfl hL ⟨⟨y.toInt32, rfl, by rw [e]; exact g1, by rw [e]; exact g2⟩, w2⟩ hσ
theorem zb_s15 {a : Int} {b c x nxt : Nat} {sw : List (Int × Nat)} (he : zb_en N ρ env) (hL : zb_gL N ρ L L') (hst : zb_gl N ρ st st') (hσ : zb_ss T len D N ρ σ) (hs : zb_o15 nxt env L st D = some ws) : zb_In T len wr N ρ SA (15, a, b, c, x, nxt, sw) ws L' st' σ := by
  unfold zb_o15 at hs
  split at hs
  case h_2 => cases hs
  case h_1 v r =>
  obtain ⟨q1, q2⟩ := zb_cond hs
  cases q2
  obtain ⟨w, r1, rfl, w1, w2⟩ := zb_gl_cons hst
  obtain ⟨y, rfl⟩ := zb_g_I w1 q1
  have h1 := Int8.le_toInt y.toInt8
  have h2 := Int8.toInt_lt y.toInt8
  exact zb_one (L2 := L') (st2 := .int y.toInt8.toInt32 :: r1) List.mem_cons_self he rfl hL ⟨⟨_, rfl, by rw [Int8.toInt_toInt32]; exact h1, by rw [Int8.toInt_toInt32]; omega⟩, w2⟩ hσ
theorem zb_s16 {a : Int} {b c x nxt : Nat} {sw : List (Int × Nat)} (he : zb_en N ρ env) (hL : zb_gL N ρ L L') (hst : zb_gl N ρ st st') (hσ : zb_ss T len D N ρ σ) (hs : zb_o16 nxt env L st D = some ws) : zb_In T len wr N ρ SA (16, a, b, c, x, nxt, sw) ws L' st' σ := by
  unfold zb_o16 at hs
  split at hs
  case h_2 => cases hs
  case h_1 v r =>
  obtain ⟨q1, q2⟩ := zb_cond hs
  cases q2
  obtain ⟨w, r1, rfl, w1, w2⟩ := zb_gl_cons hst
  obtain ⟨y, rfl⟩ := zb_g_I w1 q1
  have h1 := Int16.le_toInt y.toInt16
  have h2 := Int16.toInt_lt y.toInt16
  exact zb_one (L2 := L') (st2 := .int y.toInt16.toInt32 :: r1) List.mem_cons_self he rfl hL ⟨⟨_, rfl, by rw [Int16.toInt_toInt32]; exact h1, by rw [Int16.toInt_toInt32]; omega⟩, w2⟩ hσ
theorem zb_s17 {a : Int} {b c x nxt : Nat} {sw : List (Int × Nat)} (he : zb_en N ρ env) (hL : zb_gL N ρ L L') (hst : zb_gl N ρ st st') (hσ : zb_ss T len D N ρ σ) (hs : zb_o17 nxt env L st D = some ws) : zb_In T len wr N ρ SA (17, a, b, c, x, nxt, sw) ws L' st' σ := by
  unfold zb_o17 at hs
  split at hs
  case h_2 => cases hs
  case h_1 y z r =>
  obtain ⟨q1, q2⟩ := zb_cond hs
  cases q2
  obtain ⟨w, r1, rfl, w1, w2⟩ := zb_gl_cons hst
  obtain ⟨v, r2, rfl, v1, v2⟩ := zb_gl_cons w2
  obtain ⟨x1, rfl⟩ := zb_g_Lo w1 (an_and q1).1
  obtain ⟨x2, rfl⟩ := zb_g_Lo v1 (an_and q1).2
  exact zb_one List.mem_cons_self he rfl hL ⟨zb_topL_ok _, v2⟩ hσ
theorem zb_s18 {a : Int} {b c x nxt : Nat} {sw : List (Int × Nat)} (he : zb_en N ρ env) (hL : zb_gL N ρ L L') (hst : zb_gl N ρ st st') (hσ : zb_ss T len D N ρ σ) (hs : zb_o18 nxt env L st D = some ws) : zb_In T len wr N ρ SA (18, a, b, c, x, nxt, sw) ws L' st' σ := by
  unfold zb_o18 at hs
  split at hs
  case h_2 => cases hs
  case h_1 y z r =>
  obtain ⟨q1, q2⟩ := zb_cond hs
  cases q2
  obtain ⟨w, r1, rfl, w1, w2⟩ := zb_gl_cons hst
  obtain ⟨v, r2, rfl, v1, v2⟩ := zb_gl_cons w2
  obtain ⟨x1, rfl⟩ := zb_g_I w1 (an_and q1).1
  obtain ⟨x2, rfl⟩ := zb_g_Lo v1 (an_and q1).2
  exact zb_one List.mem_cons_self he rfl hL ⟨zb_topL_ok _, v2⟩ hσ
theorem zb_s19 {a : Int} {b c x nxt : Nat} {sw : List (Int × Nat)} (he : zb_en N ρ env) (hL : zb_gL N ρ L L') (hst : zb_gl N ρ st st') (hσ : zb_ss T len D N ρ σ) (hs : zb_o19 nxt env L st D = some ws) : zb_In T len wr N ρ SA (19, a, b, c, x, nxt, sw) ws L' st' σ := by
  unfold zb_o19 at hs
  split at hs
  case h_2 => cases hs
  case h_1 y z r =>
  obtain ⟨qz, z1, z2⟩ := zb_bnd_some hs
  obtain ⟨qy, y1, y2⟩ := zb_bnd_some z2
  cases y2
  obtain ⟨w, r1, rfl, w1, w2⟩ := zb_gl_cons hst
  obtain ⟨v, r2, rfl, v1, v2⟩ := zb_gl_cons w2
  obtain ⟨x1, rfl, g1⟩ := zb_pl_ok he y1 w1
  obtain ⟨x2, rfl, g2⟩ := zb_pl_ok he z1 v1
  have key : x2.toInt < x1.toInt ∨ x2.toInt = x1.toInt ∨ x1.toInt < x2.toInt := by omega
  have hl := an_lcmp (z := x2) (y := x1)
  have hr : ∀ k : Int32, lg_cmp x2 x1 = k → rf_stp SA (19, a, b, c, x, nxt, sw) L' (.long x1 :: .long x2 :: r2) σ = some (nxt, L', .int k :: r2, σ) := fun k hk => by rw [← hk]; rfl
  rcases key with h | h | h
  · obtain ⟨e, e1, e2⟩ := zb_asl_ok (d := -1) he g2 g1 (by omega)
    exact zb_one (List.mem_append.mpr (Or.inl (List.mem_map.mpr ⟨(true, e), zb_ol_mem e1, rfl⟩))) e2 (hr _ (hl.2.2 h)) hL ⟨⟨-1, rfl, by decide, by decide⟩, v2⟩ hσ
  · obtain ⟨e, e1, e2⟩ := zb_aeq_ok he g2 g1 h
    exact zb_one (List.mem_append.mpr (Or.inr (List.mem_append.mpr (Or.inl (List.mem_map.mpr ⟨(true, e), zb_ol_mem e1, rfl⟩))))) e2 (hr _ (hl.2.1 h)) hL ⟨⟨0, rfl, by decide, by decide⟩, v2⟩ hσ
  · obtain ⟨e, e1, e2⟩ := zb_asl_ok (d := -1) he g1 g2 (by omega)
    exact zb_one (List.mem_append.mpr (Or.inr (List.mem_append.mpr (Or.inr (List.mem_map.mpr ⟨(true, e), zb_ol_mem e1, rfl⟩))))) e2 (hr _ (hl.1 h)) hL ⟨⟨1, rfl, by decide, by decide⟩, v2⟩ hσ
theorem zb_cat1 {v : an_V} {w : Value} {k : Nat} (h : Nat.beq (an_ct v) k = true) (hv : zb_g N ρ v w) : (w.category == k) = true := by
  rw [← zb_g_ct hv, Nat.eq_of_beq_eq_true h]
  exact beq_self_eq_true k
theorem zb_s20 {a : Int} {b c x nxt : Nat} {sw : List (Int × Nat)} (he : zb_en N ρ env) (hL : zb_gL N ρ L L') (hst : zb_gl N ρ st st') (hσ : zb_ss T len D N ρ σ) (hs : zb_o20 nxt env L st D = some ws) : zb_In T len wr N ρ SA (20, a, b, c, x, nxt, sw) ws L' st' σ := by
  unfold zb_o20 at hs
  split at hs
  case h_2 => cases hs
  case h_1 v r =>
  obtain ⟨q1, q2⟩ := zb_cond hs
  cases q2
  obtain ⟨w, r1, rfl, w1, w2⟩ := zb_gl_cons hst
  exact zb_one (L2 := L') (st2 := w :: w :: r1) List.mem_cons_self he (by simp only [rf_stp, zb_cat1 q1 w1, cond_true]) hL ⟨w1, w1, w2⟩ hσ
theorem zb_s21 {a : Int} {b c x nxt : Nat} {sw : List (Int × Nat)} (he : zb_en N ρ env) (hL : zb_gL N ρ L L') (hst : zb_gl N ρ st st') (hσ : zb_ss T len D N ρ σ) (hs : zb_o21 nxt env L st D = some ws) : zb_In T len wr N ρ SA (21, a, b, c, x, nxt, sw) ws L' st' σ := by
  unfold zb_o21 at hs
  split at hs
  case h_2 => cases hs
  case h_1 v u r =>
  obtain ⟨q1, q2⟩ := zb_cond hs
  cases q2
  obtain ⟨w, r1, rfl, w1, w2⟩ := zb_gl_cons hst
  obtain ⟨y, r2, rfl, y1, y2⟩ := zb_gl_cons w2
  exact zb_one (L2 := L') (st2 := w :: y :: w :: r2) List.mem_cons_self he (by simp only [rf_stp, zb_cat1 (an_and q1).1 w1, zb_cat1 (an_and q1).2 y1, Bool.and_self, cond_true]) hL ⟨w1, y1, w1, y2⟩ hσ
theorem zb_s22 {a : Int} {b c x nxt : Nat} {sw : List (Int × Nat)} (he : zb_en N ρ env) (hL : zb_gL N ρ L L') (hst : zb_gl N ρ st st') (hσ : zb_ss T len D N ρ σ) (hs : zb_o22 nxt env L st D = some ws) : zb_In T len wr N ρ SA (22, a, b, c, x, nxt, sw) ws L' st' σ := by
  unfold zb_o22 at hs
  split at hs
  case h_2 => cases hs
  case h_1 v u r =>
  obtain ⟨q1, q2⟩ := zb_cond hs
  cases q2
  obtain ⟨w, r1, rfl, w1, w2⟩ := zb_gl_cons hst
  obtain ⟨y, r2, rfl, y1, y2⟩ := zb_gl_cons w2
  exact zb_one (L2 := L') (st2 := w :: y :: w :: y :: r2) List.mem_cons_self he (by simp only [rf_stp, zb_cat1 (an_and q1).1 w1, zb_cat1 (an_and q1).2 y1, Bool.and_self, cond_true]) hL ⟨w1, y1, w1, y1, y2⟩ hσ
theorem zb_s23 {a : Int} {b c x nxt : Nat} {sw : List (Int × Nat)} (he : zb_en N ρ env) (hL : zb_gL N ρ L L') (hst : zb_gl N ρ st st') (hσ : zb_ss T len D N ρ σ) (hs : zb_o23 nxt env L st D = some ws) : zb_In T len wr N ρ SA (23, a, b, c, x, nxt, sw) ws L' st' σ := by
  unfold zb_o23 at hs
  split at hs
  case h_2 => cases hs
  case h_1 v r =>
  obtain ⟨q1, q2⟩ := zb_cond hs
  cases q2
  obtain ⟨w, r1, rfl, w1, w2⟩ := zb_gl_cons hst
  exact zb_one (L2 := L') (st2 := r1) List.mem_cons_self he (by simp only [rf_stp, zb_cat1 q1 w1, cond_true]) hL w2 hσ
theorem zb_s24 {a : Int} {b c x nxt : Nat} {sw : List (Int × Nat)} (he : zb_en N ρ env) (hL : zb_gL N ρ L L') (hst : zb_gl N ρ st st') (hσ : zb_ss T len D N ρ σ) (hs : zb_o24 nxt env L st D = some ws) : zb_In T len wr N ρ SA (24, a, b, c, x, nxt, sw) ws L' st' σ := by
  unfold zb_o24 at hs
  split at hs
  case h_2 => cases hs
  case h_1 v r =>
  obtain ⟨q1, q2⟩ := zb_cond hs
  cases q2
  obtain ⟨w, r1, rfl, w1, w2⟩ := zb_gl_cons hst
  exact zb_one (L2 := L') (st2 := r1) List.mem_cons_self he (by simp only [rf_stp, zb_cat1 q1 w1, cond_true]) hL w2 hσ
theorem zb_s25 {a : Int} {b c x nxt : Nat} {sw : List (Int × Nat)} (he : zb_en N ρ env) (hL : zb_gL N ρ L L') (hst : zb_gl N ρ st st') (hσ : zb_ss T len D N ρ σ) (hs : zb_o25 b c nxt env L st D = some ws) : zb_In T len wr N ρ SA (25, a, b, c, x, nxt, sw) ws L' st' σ := by
  unfold zb_o25 at hs
  split at hs
  case h_2 => cases hs
  case h_1 y r =>
  obtain ⟨q, q1, q2⟩ := zb_bnd_some hs
  cases q2
  obtain ⟨w, r1, rfl, w1, w2⟩ := zb_gl_cons hst
  obtain ⟨y0, rfl, y3⟩ := zb_pi_ok he q1 w1
  obtain ⟨v, v1, v2, v3⟩ := zb_cmp_ok (y := 0) b he y3 (zb_qk_const 0)
  exact zb_one (List.mem_map.mpr ⟨v, v1, rfl⟩) v3 (by simp only [rf_stp, v2]) hL w2 hσ
theorem zb_s26 {a : Int} {b c x nxt : Nat} {sw : List (Int × Nat)} (he : zb_en N ρ env) (hL : zb_gL N ρ L L') (hst : zb_gl N ρ st st') (hσ : zb_ss T len D N ρ σ) (hs : zb_o26 b c nxt env L st D = some ws) : zb_In T len wr N ρ SA (26, a, b, c, x, nxt, sw) ws L' st' σ := by
  unfold zb_o26 at hs
  split at hs
  case h_2 => cases hs
  case h_1 y z r =>
  obtain ⟨qz, z1, z2⟩ := zb_bnd_some hs
  obtain ⟨qy, y1, y2⟩ := zb_bnd_some z2
  cases y2
  obtain ⟨w, r1, rfl, w1, w2⟩ := zb_gl_cons hst
  obtain ⟨u, r2, rfl, u1, u2⟩ := zb_gl_cons w2
  obtain ⟨y0, rfl, y3⟩ := zb_pi_ok he y1 w1
  obtain ⟨z0, rfl, z3⟩ := zb_pi_ok he z1 u1
  obtain ⟨v, v1, v2, v3⟩ := zb_cmp_ok b he z3 y3
  exact zb_one (List.mem_map.mpr ⟨v, v1, rfl⟩) v3 (by simp only [rf_stp, v2]) hL u2 hσ
theorem zb_s27 {a : Int} {b c x nxt : Nat} {sw : List (Int × Nat)} (he : zb_en N ρ env) (hL : zb_gL N ρ L L') (hst : zb_gl N ρ st st') (hσ : zb_ss T len D N ρ σ) (hs : zb_st1 env c L st D = some ws) : zb_In T len wr N ρ SA (27, a, b, c, x, nxt, sw) ws L' st' σ := by
  cases hs
  exact zb_one List.mem_cons_self he rfl hL hst hσ
theorem zb_s28 {a : Int} {b c x nxt : Nat} {sw : List (Int × Nat)} (he : zb_en N ρ env) (hL : zb_gL N ρ L L') (hst : zb_gl N ρ st st') (hσ : zb_ss T len D N ρ σ) (hs : zb_o28 c sw env L st D = some ws) : zb_In T len wr N ρ SA (28, a, b, c, x, nxt, sw) ws L' st' σ := by
  unfold zb_o28 at hs
  split at hs
  case h_2 => cases hs
  case h_1 y r =>
  obtain ⟨q, q1, q2⟩ := zb_bnd_some hs
  cases q2
  obtain ⟨w, r1, rfl, w1, w2⟩ := zb_gl_cons hst
  obtain ⟨y0, rfl, y3⟩ := zb_pi_ok he q1 w1
  obtain ⟨v, v1, v2, v3⟩ := zb_sw_ok c y3.2.2 sw env q.2.1 q.2.2 he y3.1 y3.2.1
  exact zb_one (List.mem_map.mpr ⟨v, v1, rfl⟩) v3 (by simp only [rf_stp, v2]) hL w2 hσ
/-! the store -/
theorem zb_ss_obj {r ci : Nat} {ds : List zb_G} (hσ : zb_ss T len D N ρ σ) (h : T r = some (.inr (ci, ds))) : ∃ fs, σ[r]? = some (.inr (ci, fs)) ∧ zb_fos D N ρ ds fs := by
  obtain ⟨o, h1, h2⟩ := hσ.2 _ _ h
  rcases o with o | ⟨cj, fs⟩
  · exact h2.elim
  · obtain ⟨rfl, h3⟩ := h2
    exact ⟨fs, h1, h3⟩
theorem zb_fld_ok {b c r : Nat} {g : zb_G} (hσ : zb_ss T len D N ρ σ) (h : zb_fld T b c r = some g) : ∃ ds fs w, T r = some (.inr (b, ds)) ∧ ds[c]? = some g ∧ σ[r]? = some (.inr (b, fs)) ∧ zb_fos D N ρ ds fs ∧ fs[c]? = some w ∧ zb_fo D N ρ g w := by
  unfold zb_fld at h
  split at h
  case h_2 => cases h
  case h_1 ci ds ht =>
  obtain ⟨h1, h2⟩ := zb_cond h
  have e := Nat.eq_of_beq_eq_true h1
  subst e
  rw [zb_nth_eq] at h2
  obtain ⟨fs, f1, f2⟩ := zb_ss_obj hσ ht
  obtain ⟨w, w1, w2⟩ := f2.2 _ _ h2
  exact ⟨ds, fs, w, ht, h2, f1, f2, w1, w2⟩
theorem zb_rd_ok {g : zb_G} {v : an_V} {w : Value} (h : zb_rd D g = some v) (hw : zb_fo D N ρ g w) : zb_g N ρ v w := by
  obtain ⟨k, s, a⟩ := g
  match k, h, hw with
  | 0, h, hw =>
    obtain ⟨b, b1, b2⟩ := hw
    have h : zb_nth D s = some v := h
    rw [zb_nth_eq, b1] at h
    cases h
    exact b2
  | k + 1, h, hw =>
    have h : some a = some v := h
    cases h
    exact zb_g_ext (Nat.zero_le _) (fun _ hk => absurd hk (Nat.not_lt_zero _)) hw
theorem zb_s29 {a : Int} {b c x nxt : Nat} {sw : List (Int × Nat)} (he : zb_en N ρ env) (hL : zb_gL N ρ L L') (hst : zb_gl N ρ st st') (hσ : zb_ss T len D N ρ σ) (hs : zb_o29 T b c nxt env L st D = some ws) : zb_In T len wr N ρ SA (29, a, b, c, x, nxt, sw) ws L' st' σ := by
  unfold zb_o29 at hs
  split at hs
  case h_2 => cases hs
  case h_1 v r =>
  obtain ⟨q1, q2⟩ := zb_cond hs
  obtain ⟨gs, g1, g2⟩ := zb_bnd_some q2
  obtain ⟨vs, v1, v2⟩ := zb_bnd_some g2
  obtain ⟨w, w1, w2⟩ := zb_bnd_some v2
  cases w2
  obtain ⟨u, r1, rfl, u1, u2⟩ := zb_gl_cons hst
  obtain ⟨r0, m1, rfl⟩ := zb_g_R u1 q1
  obtain ⟨g, m2, m3⟩ := zb_map_ok g1 r0 m1
  obtain ⟨y, m4, m5⟩ := zb_map_ok v1 g m2
  obtain ⟨ds, fs, z, f1, f2, f3, f4, f5, f6⟩ := zb_fld_ok hσ m3
  have hz := zb_hull_ok w1 m4 (zb_rd_ok m5 f6)
  refine zb_one (L2 := L') (st2 := z :: r1) List.mem_cons_self he ?_ hL ⟨hz, u2⟩ hσ
  simp only [rf_stp, f3, f5, Nat.beq_refl, cond_true]
theorem zb_fo_put {s : Nat} {a : an_V} {g : zb_G} {w : Value} (hg : ∀ v, g ≠ (0, s, v)) (h : zb_fo D N ρ g w) : zb_fo (D.set s a) N ρ g w := by
  obtain ⟨k, s1, v⟩ := g
  match k, h, hg with
  | 0, h, hg =>
    obtain ⟨b, b1, b2⟩ := h
    refine ⟨b, ?_, b2⟩
    rw [List.getElem?_set, if_neg (fun q => hg v (by rw [q]))]
    exact b1
  | k + 1, h, hg => exact h
def zb_locO (T : zb_T) (loc : Nat → Nat × Nat) : Prop := ∀ (r ci : Nat) (ds : List zb_G) (c s : Nat) (v : an_V), T r = some (.inr (ci, ds)) → ds[c]? = some (0, s, v) → loc s = (r, c)
def zb_locR (T : zb_T) (loc : Nat → Nat × Nat) : Prop := ∀ (r n : Nat) (b x : Int), T r = some (.inl (0, n, .inr (9, b, x))) → ∀ j, j < n → loc (b.toNat + j) = (r, j)
def zb_loc (T : zb_T) (loc : Nat → Nat × Nat) : Prop := zb_locO T loc ∧ zb_locR T loc
/-- other rows' elements that are scalars stay -/
theorem zb_rw_put {D : zb_D} {k n s : Nat} {d : an_V} {o : va_E} {a : an_V} (hs : ∀ b x, d = .inr (9, b, x) → k = 0 → ∀ j, j < n → ¬ s = b.toNat + j) (h : zb_rw D N ρ k n d o) : zb_rw (D.set s a) N ρ k n d o := by
  unfold zb_rw at h ⊢
  split at h
  case h_1 b x =>
    obtain ⟨h1, f, h2, h3⟩ := h
    refine ⟨h1, f, h2, fun j hj => ?_⟩
    obtain ⟨c, c1, c2⟩ := h3 j hj
    refine ⟨c, ?_, c2⟩
    rw [List.getElem?_set, if_neg (hs b x rfl h1 j hj)]
    exact c1
  case h_2 => exact h
theorem zb_ss_put {loc : Nat → Nat × Nat} {r b c s : Nat} {ds : List zb_G} {fs : List Value} {v0 : an_V} {w : Value} {a : an_V} (hloc : zb_loc T loc) (hσ : zb_ss T len D N ρ σ) (ht : T r = some (.inr (b, ds))) (hg : ds[c]? = some (0, s, v0)) (hf : σ[r]? = some (.inr (b, fs))) (ha : zb_g N ρ a w) : zb_ss T len (D.set s a) N ρ (σ.set r (.inr (b, fs.set c w))) := by
  have hls := hloc.1 r b ds c s v0 ht hg
  have hfos : zb_fos D N ρ ds fs := by
    obtain ⟨fs', f1, f2⟩ := zb_ss_obj hσ ht
    rw [hf] at f1
    cases f1
    exact f2
  obtain ⟨w0, w1, w2⟩ := hfos.2 c _ hg
  obtain ⟨a0, a1, a2⟩ := w2
  have hsl : s < D.length := (List.getElem?_eq_some_iff.mp a1).1
  have hrl : r < σ.length := (List.getElem?_eq_some_iff.mp hf).1
  have hcl : c < fs.length := (List.getElem?_eq_some_iff.mp w1).1
  refine ⟨by rw [List.length_set]; exact hσ.1, fun r1 t ht1 => ?_⟩
  by_cases hr : r1 = r
  · subst hr
    rw [ht] at ht1
    cases ht1
    refine ⟨.inr (b, fs.set c w), by rw [List.getElem?_set, if_pos rfl, if_pos hrl], rfl, by rw [List.length_set]; exact hfos.1, fun c1 g hg1 => ?_⟩
    by_cases hc : c1 = c
    · subst hc
      rw [hg] at hg1
      cases hg1
      exact ⟨w, by rw [List.getElem?_set, if_pos rfl, if_pos hcl], a, by rw [List.getElem?_set, if_pos rfl, if_pos hsl], ha⟩
    · obtain ⟨x, x1, x2⟩ := hfos.2 c1 g hg1
      refine ⟨x, by rw [List.getElem?_set, if_neg (fun q => hc q.symm)]; exact x1, zb_fo_put (fun v e => ?_) x2⟩
      subst e
      have := hloc.1 r1 b ds c1 s v ht hg1
      rw [hls] at this
      exact hc (by cases this; rfl)
  · obtain ⟨o, o1, o2⟩ := hσ.2 r1 t ht1
    refine ⟨o, by rw [List.getElem?_set, if_neg (fun q => hr q.symm)]; exact o1, ?_⟩
    rcases t with ⟨k1, n1, d1⟩ | ⟨ci, ds1⟩
    · refine zb_rw_put (fun b1 x1 e1 e2 j hj e3 => ?_) o2
      subst e1
      subst e2
      have := hloc.2 r1 n1 b1 x1 ht1 j hj
      rw [← e3, hls] at this
      exact hr (by cases this; rfl)
    · rcases o with o | ⟨cj, fs1⟩
      · exact o2.elim
      · refine ⟨o2.1, o2.2.1, fun c1 g hg1 => ?_⟩
        obtain ⟨x, x1, x2⟩ := o2.2.2 c1 g hg1
        refine ⟨x, x1, zb_fo_put (fun v e => ?_) x2⟩
        subst e
        have := hloc.1 r1 ci ds1 c1 s v ht1 hg1
        rw [hls] at this
        exact hr (by cases this; rfl)
theorem zb_ss_putA {r b c k s : Nat} {ds : List zb_G} {fs : List Value} {v0 : an_V} {w : Value} (hσ : zb_ss T len D N ρ σ) (ht : T r = some (.inr (b, ds))) (hg : ds[c]? = some (k + 1, s, v0)) (hf : σ[r]? = some (.inr (b, fs))) (ha : zb_g 0 zb_z0 v0 w) : zb_ss T len D N ρ (σ.set r (.inr (b, fs.set c w))) := by
  have hfos : zb_fos D N ρ ds fs := by
    obtain ⟨fs', f1, f2⟩ := zb_ss_obj hσ ht
    rw [hf] at f1
    cases f1
    exact f2
  obtain ⟨w0, w1, -⟩ := hfos.2 c _ hg
  have hrl : r < σ.length := (List.getElem?_eq_some_iff.mp hf).1
  have hcl : c < fs.length := (List.getElem?_eq_some_iff.mp w1).1
  refine ⟨by rw [List.length_set]; exact hσ.1, fun r1 t ht1 => ?_⟩
  by_cases hr : r1 = r
  · subst hr
    rw [ht] at ht1
    cases ht1
    refine ⟨.inr (b, fs.set c w), by rw [List.getElem?_set, if_pos rfl, if_pos hrl], rfl, by rw [List.length_set]; exact hfos.1, fun c1 g hg1 => ?_⟩
    by_cases hc : c1 = c
    · subst hc
      rw [hg] at hg1
      cases hg1
      exact ⟨w, by rw [List.getElem?_set, if_pos rfl, if_pos hcl], ha⟩
    · obtain ⟨x, x1, x2⟩ := hfos.2 c1 g hg1
      exact ⟨x, by rw [List.getElem?_set, if_neg (fun q => hc q.symm)]; exact x1, x2⟩
  · obtain ⟨o, o1, o2⟩ := hσ.2 r1 t ht1
    exact ⟨o, by rw [List.getElem?_set, if_neg (fun q => hr q.symm)]; exact o1, o2⟩
theorem zb_ss_row {r k n : Nat} {d : an_V} {o' : va_E} (hσ : zb_ss T len D N ρ σ) (ht : T r = some (.inl (k, n, d))) (hnc : zb_nc d = true) (ho : zb_ro k n d o') : zb_ss T len D N ρ (σ.set r o') := by
  obtain ⟨o0, o1, -⟩ := hσ.2 r _ ht
  have hrl : r < σ.length := (List.getElem?_eq_some_iff.mp o1).1
  refine ⟨by rw [List.length_set]; exact hσ.1, fun r1 t ht1 => ?_⟩
  by_cases hr : r1 = r
  · subst hr
    rw [ht] at ht1
    cases ht1
    exact ⟨o', by rw [List.getElem?_set, if_pos rfl, if_pos hrl], by show zb_rw D N ρ k n d o'; rw [zb_rw_nc hnc]; exact ho⟩
  · obtain ⟨o, p1, p2⟩ := hσ.2 r1 t ht1
    exact ⟨o, by rw [List.getElem?_set, if_neg (fun q => hr q.symm)]; exact p1, p2⟩
theorem zb_fty_ok {ty : FieldType} {v : an_V} {w : Value} (he : zb_en N ρ env) (h : zb_fty env ty v = true) (hv : zb_g N ρ v w) : rf_fit ty w = true := by
  unfold zb_fty at h
  split at h
  · obtain ⟨x, rfl⟩ := zb_g_I hv h; rfl
  · split at h
    case h_2 => cases h
    case h_1 q hq =>
    obtain ⟨x, rfl, g⟩ := zb_pi_ok he hq hv
    have h := an_and h
    have p1 := zb_le_of h.1
    have p2 := zb_le_of h.2
    have g1 := g.1
    have g2 := g.2.1
    have key : x.toInt = 0 ∨ x.toInt = 1 := by omega
    have key : x = 0 ∨ x = 1 := by
      rcases key with h | h
      · exact Or.inl (Int32.toInt_inj.mp h)
      · exact Or.inr (Int32.toInt_inj.mp h)
    exact decide_eq_true key
  · obtain ⟨r, -, rfl⟩ := zb_g_R hv h; rfl
  · obtain ⟨r, -, rfl⟩ := zb_g_R hv h; rfl
  · cases h
theorem zb_fr {r : Nat} {o : va_E} (h : wr r = true) : ∀ q, wr q = false → (σ.set r o)[q]? = σ[q]? := fun q hq => by
  rw [List.getElem?_set, if_neg (fun e => by rw [e, hq] at h; cases h)]
theorem zb_s30 {loc : Nat → Nat × Nat} {a : Int} {b c x nxt : Nat} {sw : List (Int × Nat)} (hloc : zb_loc T loc) (he : zb_en N ρ env) (hL : zb_gL N ρ L L') (hst : zb_gl N ρ st st') (hσ : zb_ss T len D N ρ σ) (hs : zb_o30 T wr b c nxt env L st D = some ws) : zb_In T len wr N ρ SA (30, a, b, c, x, nxt, sw) ws L' st' σ := by
  unfold zb_o30 at hs
  split at hs
  case h_2 => cases hs
  case h_1 v o r =>
  obtain ⟨q1, q2⟩ := zb_cond hs
  have q3 := an_and q1
  have q4 := an_and q3.2
  obtain ⟨gs, g1, g2⟩ := zb_bnd_some q2
  obtain ⟨w, r1, rfl, w1, w2⟩ := zb_gl_cons hst
  obtain ⟨u, r2, rfl, u1, u2⟩ := zb_gl_cons w2
  obtain ⟨r0, m1, rfl⟩ := zb_g_R u1 q3.1
  obtain ⟨g, m2, m3⟩ := zb_map_ok g1 r0 m1
  obtain ⟨ds, fs, z, f1, f2, f3, f4, f5, f6⟩ := zb_fld_ok hσ m3
  have hfit := zb_fty_ok he q4.1 w1
  have hwr := zb_every_ok q4.2 r0 m1
  have hcl : c < fs.length := (List.getElem?_eq_some_iff.mp f5).1
  have hr : rf_stp SA (30, a, b, c, x, nxt, sw) L' (w :: .ref r0 :: r2) σ = some (nxt, L', r2, σ.set r0 (.inr (b, fs.set c w))) := by
    simp only [rf_stp, f3, Nat.beq_refl, hfit, show Nat.blt c fs.length = true from Nat.ble_eq_true_of_le hcl, Bool.and_self, cond_true]
  split at g2
  case h_1 s v0 =>
    cases g2
    have := List.mem_singleton.mp m2
    subst this
    refine ⟨_, List.mem_cons_self, N, ρ, Nat.le_refl _, zb_ag_refl _ _, he, _, hr, rfl, hL, u2, ?_, zb_fr hwr⟩
    show zb_ss T len (zb_upd D s v) N ρ _
    rw [zb_upd_eq]
    exact zb_ss_put hloc hσ f1 f2 f3 w1
  case h_2 =>
    obtain ⟨k1, k2⟩ := zb_cond g2
    cases k2
    have k3 := zb_every_ok k1 g m2
    obtain ⟨k, s, v0⟩ := g
    match k, k3, f2 with
    | 0, k3, f2 => cases k3
    | k + 1, k3, f2 => exact ⟨_, List.mem_cons_self, N, ρ, Nat.le_refl _, zb_ag_refl _ _, he, _, hr, rfl, hL, u2, zb_ss_putA hσ f1 f2 f3 (zb_sub_ok he k3 w1), zb_fr hwr⟩
theorem zb_s31 {a : Int} {b c x nxt : Nat} {sw : List (Int × Nat)} (he : zb_en N ρ env) (hL : zb_gL N ρ L L') (hst : zb_gl N ρ st st') (hσ : zb_ss T len D N ρ σ) (hs : zb_o31 b nxt env L st D = some ws) : zb_In T len wr N ρ SA (31, a, b, c, x, nxt, sw) ws L' st' σ := by
  cases hs
  exact zb_one List.mem_cons_self he rfl hL ⟨rfl, hst⟩ hσ
theorem zb_ixs_ok {q : zb_q} {n : Nat} {i : Int32} (h : zb_ixs q n = true) (hq : zb_qk N ρ q i.toInt) : ¬ i < 0 ∧ i.toNatClampNeg < n ∧ rf_ixs i n = true ∧ (i.toNatClampNeg : Int) = i.toInt := by
  have h := an_and h
  have p1 := zb_le_of h.1
  have p2 := zb_le_of h.2
  have g1 := hq.1
  have g2 := hq.2.1
  have h0 : ¬ i < 0 := fun e => by
    have e := Int32.lt_iff_toInt_lt.mp e
    have e0 : (0 : Int32).toInt = 0 := rfl
    omega
  have h1 : (i.toNatClampNeg : Int) = i.toInt := by
    show ((i.toInt.toNat : Nat) : Int) = i.toInt
    omega
  have h2 : i.toNatClampNeg < n := by omega
  exact ⟨h0, h2, an_ixs h0 h2, h1⟩
theorem zb_rows_ok {k : Nat} {q : zb_q} {v : an_V} {vs : List an_V} {w : Value} (h : zb_rows T k q v = some vs) (hv : zb_g N ρ v w) : ∃ r n d, w = .ref r ∧ r ∈ zb_mem v ∧ T r = some (.inl (k, n, d)) ∧ zb_ixs q n = true ∧ d ∈ vs ∧ zb_nc d = true := by
  obtain ⟨h1, h2⟩ := zb_cond h
  obtain ⟨r, r1, rfl⟩ := zb_g_R hv h1
  obtain ⟨d, d1, d2⟩ := zb_map_ok h2 r r1
  split at d2
  case h_2 => cases d2
  case h_1 n d' hrow =>
  obtain ⟨k1, k2⟩ := zb_cond d2
  cases k2
  unfold zb_row at hrow
  split at hrow
  case h_2 => cases hrow
  case h_1 k' n' d'' ht =>
  obtain ⟨j1, j2⟩ := zb_cond hrow
  cases j2
  have j3 := an_and j1
  have := Nat.eq_of_beq_eq_true j3.1
  subst this
  exact ⟨r, n, d, rfl, r1, ht, k1, d1, j3.2⟩
theorem zb_ro0 {n : Nat} {d : an_V} {o : va_E} (h : zb_ro 0 n d o) : ∃ f, o = .inl (0, n, .inl f) ∧ ∀ j, j < n → zb_g 0 zb_z0 d (.int (f j)) := by
  unfold zb_ro at h
  split at h
  · obtain ⟨-, rfl, rfl, h⟩ := h; exact ⟨_, rfl, h⟩
  · exact absurd h.1 (by decide)
  · exact absurd h.1 (by decide)
  · exact h.elim
theorem zb_ro1 {n : Nat} {d : an_V} {o : va_E} (h : zb_ro 1 n d o) : ∃ f, o = .inl (1, n, .inr (.inl f)) ∧ ∀ j, j < n → zb_g 0 zb_z0 d (.long (f j)) := by
  unfold zb_ro at h
  split at h
  · exact absurd h.1 (by decide)
  · obtain ⟨-, rfl, rfl, h⟩ := h; exact ⟨_, rfl, h⟩
  · exact absurd h.1 (by decide)
  · exact h.elim
theorem zb_ro2 {n : Nat} {d : an_V} {o : va_E} (h : zb_ro 2 n d o) : ∃ f, o = .inl (2, n, .inr (.inr (.inr (.inr f)))) ∧ ∀ j, j < n → ∃ q, f j = some q ∧ zb_g 0 zb_z0 d (.ref q) := by
  unfold zb_ro at h
  split at h
  · exact absurd h.1 (by decide)
  · exact absurd h.1 (by decide)
  · obtain ⟨-, rfl, rfl, h⟩ := h; exact ⟨_, rfl, h⟩
  · exact h.elim
theorem zb_g0 {a : an_V} {w : Value} (h : zb_g 0 zb_z0 a w) : zb_g N ρ a w := zb_g_ext (Nat.zero_le _) (fun _ hk => absurd hk (Nat.not_lt_zero _)) h
theorem zb_isS {r : Nat} {t : (Nat × Nat × an_V) ⊕ (Nat × List zb_G)} (hlen : len ≤ 1000000) (hσ : zb_ss T len D N ρ σ) (h : T r = some t) : rf_isS r = false := by
  obtain ⟨o, h1, -⟩ := hσ.2 r t h
  have h2 : r < σ.length := (List.getElem?_eq_some_iff.mp h1).1
  rw [hσ.1] at h2
  unfold rf_isS
  cases hb : Nat.ble 1000000 r with
  | false => rfl
  | true => have := Nat.le_of_ble_eq_true hb; omega
theorem zb_bd : ∀ i, i < 32 → 0 ≤ (rf_bd i).toInt ∧ (rf_bd i).toInt ≤ 81 := by decide
theorem zb_ab : ∀ i, i < 8 → -1 ≤ (rf_ab i).toInt ∧ (rf_ab i).toInt ≤ 4 := by decide
theorem zb_stat_ok {sl : Bool} {LL : Nat} {xs : Nat → Int32} {q : zb_q} {j : Nat} {w : an_V} {i : Int32} (hsl : sl = true → zb_hs LL xs N ρ) (he : zb_en N ρ env) (hq : zb_qk N ρ q i.toInt) (h : zb_stat sl env q j = some w) : ∃ p, rf_SA LL xs j = some p ∧ rf_ixs i p.1 = true ∧ zb_g N ρ w (.int (p.2 i.toNatClampNeg)) := by
  unfold zb_stat at h
  split at h
  case h_1 =>
    obtain ⟨h1, h2⟩ := zb_cond h
    obtain ⟨g1, g2, g3, g4⟩ := zb_ixs_ok h1 hq
    refine ⟨_, rfl, g3, ?_⟩
    cases hs : zb_sing q with
    | true =>
      rw [hs] at h2
      cases h2
      have e := zb_sing_ok hs hq
      have e1 : q.2.1.toNat = i.toNatClampNeg := by omega
      rw [e1]
      exact ⟨_, rfl, Int.le_refl _, Int.le_refl _⟩
    | false =>
      rw [hs] at h2
      cases h2
      exact ⟨_, rfl, zb_bd _ g2⟩
  case h_2 =>
    obtain ⟨h1, h2⟩ := zb_cond h
    obtain ⟨g1, g2, g3, g4⟩ := zb_ixs_ok h1 hq
    refine ⟨_, rfl, g3, ?_⟩
    cases hs : zb_sing q with
    | true =>
      rw [hs] at h2
      cases h2
      have e := zb_sing_ok hs hq
      have e1 : q.2.1.toNat = i.toNatClampNeg := by omega
      rw [e1]
      exact ⟨_, rfl, Int.le_refl _, Int.le_refl _⟩
    | false =>
      rw [hs] at h2
      cases h2
      exact ⟨_, rfl, zb_ab _ g2⟩
  case h_3 =>
    obtain ⟨h1, h2⟩ := zb_cond h
    obtain ⟨s1, s2, s3, s4, s5⟩ := hsl h1
    split at h2
    case h_2 => cases h2
    case h_1 k c hk =>
    obtain ⟨h3, h4⟩ := zb_cond h2
    cases h4
    have h5 := an_and h3
    have h6 := an_and h5.2
    have e7 : k = 7 := Nat.eq_of_beq_eq_true h5.1
    subst e7
    have c0 := zb_le_of h6.1
    have c5 := zb_le_of h6.2
    obtain ⟨-, k2⟩ := hq.2.2 7 c hk
    have h0 : ¬ i < 0 := fun e => by
      have e := Int32.lt_iff_toInt_lt.mp e
      have e0 : (0 : Int32).toInt = 0 := rfl
      omega
    have e1 : (i.toNatClampNeg : Int) = i.toInt := by
      show ((i.toInt.toNat : Nat) : Int) = i.toInt
      omega
    have e2 : i.toNatClampNeg = (ρ 7).toNat + c.toNat := by omega
    have e3 : (1 + c).toNat = 1 + c.toNat := by omega
    refine ⟨_, rfl, an_ixs h0 (by show i.toNatClampNeg < LL; omega), ⟨by rw [e3]; omega, _, rfl, ?_⟩⟩
    show (xs i.toNatClampNeg).toInt = ρ (1 + c).toNat + 0
    rw [e3, s5 c.toNat (by omega), e2, Int.add_zero]
  case h_4 => cases h
theorem zb_ld_ok {a : Int} {b c x nxt : Nat} {sw : List (Int × Nat)} {q : zb_q} {o : an_V} {vs : List an_V} {w : an_V} {i : Int32} {u : Value} {r2 : List Value} {r : List an_V} (hlen : len ≤ 1000000) (he : zb_en N ρ env) (hL : zb_gL N ρ L L') (hr : zb_gl N ρ r r2) (hσ : zb_ss T len D N ρ σ) (hq : zb_qk N ρ q i.toInt) (hu : zb_g N ρ o u) (h1 : zb_rows T 0 q o = some vs) (h2 : zb_hull vs = some w) (hw : (env, nxt, L, w :: r, D) ∈ ws) : zb_In T len wr N ρ SA (32, a, b, c, x, nxt, sw) ws L' (.int i :: u :: r2) σ := by
  obtain ⟨r0, n, d, rfl, m1, m2, m3, m4, m5⟩ := zb_rows_ok h1 hu
  obtain ⟨o', o1, o2⟩ := hσ.2 _ _ m2
  obtain ⟨f, rfl, f2⟩ := zb_ro0 (Eq.mp (zb_rw_nc m5) o2)
  obtain ⟨g1, g2, g3, g4⟩ := zb_ixs_ok m3 hq
  exact zb_one hw he (an_st_H (zb_isS hlen hσ m2) o1 g3) hL ⟨zb_hull_ok h2 m4 (zb_g0 (f2 _ g2)), hr⟩ hσ
theorem zb_cell_ok {r0 n b : Nat} (hσ : zb_ss T len D N ρ σ) (h : zb_cell T r0 = some (n, b)) : ∃ (b' x : Int) (f : Nat → Int32), b = b'.toNat ∧ T r0 = some (.inl (0, n, .inr (9, b', x))) ∧ σ[r0]? = some (.inl (0, n, .inl f)) ∧ ∀ j, j < n → ∃ a, D[b + j]? = some a ∧ zb_g N ρ a (.int (f j)) := by
  unfold zb_cell at h
  split at h
  case h_2 => cases h
  case h_1 n' b' x ht =>
  cases h
  obtain ⟨o, o1, o2⟩ := hσ.2 _ _ ht
  have o2 : zb_rw D N ρ 0 n (.inr (9, b', x)) o := o2
  unfold zb_rw at o2
  obtain ⟨-, f, rfl, o3⟩ := o2
  exact ⟨b', x, f, rfl, ht, o1, o3⟩
theorem zb_cld_ok {a : Int} {b c x nxt r0 n bb : Nat} {sw : List (Int × Nat)} {q : zb_q} {i : Int32} {r2 : List Value} {r : List an_V} (hlen : len ≤ 1000000) (he : zb_en N ρ env) (hL : zb_gL N ρ L L') (hr : zb_gl N ρ r r2) (hσ : zb_ss T len D N ρ σ) (hq : zb_qk N ρ q i.toInt) (hc : zb_cell T r0 = some (n, bb)) (h : zb_cld nxt env L r D q n bb = some ws) : zb_In T len wr N ρ SA (32, a, b, c, x, nxt, sw) ws L' (.int i :: .ref r0 :: r2) σ := by
  obtain ⟨b', x', f, e1, ht, o1, o3⟩ := zb_cell_ok hσ hc
  obtain ⟨h1, h2⟩ := zb_cond h
  obtain ⟨g1, g2, g3, g4⟩ := zb_ixs_ok h1 hq
  obtain ⟨v, v1, v2⟩ := o3 _ g2
  have hs := an_st_H (SA := SA) (L' := L') (σ' := σ) (a := a) (b := b) (c := c) (x := x) (nxt := nxt) (sw := sw) (r2 := r2) (zb_isS hlen hσ ht) o1 g3
  cases hsg : zb_sing q with
  | true =>
    rw [hsg, cond_true, zb_nth_eq] at h2
    have e := zb_sing_ok hsg hq
    have e2 : q.2.1.toNat = i.toNatClampNeg := by omega
    rw [e2, v1] at h2
    cases h2
    exact zb_one List.mem_cons_self he hs hL ⟨v2, hr⟩ hσ
  | false =>
    rw [hsg, cond_false] at h2
    split at h2
    case h_2 => cases h2
    case h_1 k d hk =>
    obtain ⟨k1, k2⟩ := hq.2.2 k d hk
    have q1 := hq.1
    have q2 := hq.2.1
    obtain ⟨w, w1, w2, w3⟩ := zb_each_ok (k := k) rfl he (q.2.2 - q.2.1 + 1).toNat (q.2.1 - d) (by omega) (by omega)
    obtain ⟨y, y1, y2⟩ := zb_map_ok h2 w w1
    rw [zb_nth_eq, w3, k2] at y2
    have e2 : i.toInt.toNat = i.toNatClampNeg := rfl
    rw [e2, v1] at y2
    cases y2
    exact zb_one y1 w2 hs hL ⟨v2, hr⟩ hσ
theorem zb_s32 {sl : Bool} {LL : Nat} {xs : Nat → Int32} {a : Int} {b c x nxt : Nat} {sw : List (Int × Nat)} (hlen : len ≤ 1000000) (hsl : sl = true → zb_hs LL xs N ρ) (he : zb_en N ρ env) (hL : zb_gL N ρ L L') (hst : zb_gl N ρ st st') (hσ : zb_ss T len D N ρ σ) (hs : zb_o32 T sl nxt env L st D = some ws) : zb_In T len wr N ρ (rf_SA LL xs) (32, a, b, c, x, nxt, sw) ws L' st' σ := by
  unfold zb_o32 at hs
  split at hs
  case h_2 => cases hs
  case h_1 iv o r =>
  obtain ⟨q, q1, q2⟩ := zb_bnd_some hs
  obtain ⟨w, r1, rfl, w1, w2⟩ := zb_gl_cons hst
  obtain ⟨u, r2, rfl, u1, u2⟩ := zb_gl_cons w2
  obtain ⟨i, rfl, i2⟩ := zb_pi_ok he q1 w1
  split at q2
  case h_1 r0 =>
    cases h6 : rf_isS r0 with
    | true =>
      rw [h6] at q2
      obtain ⟨w, k1, k2⟩ := zb_bnd_some q2
      cases k2
      obtain ⟨p, p1, p2, p3⟩ := zb_stat_ok (xs := xs) hsl he i2 k1
      cases u1
      exact zb_one List.mem_cons_self he (an_st_S h6 p1 p2) hL ⟨p3, u2⟩ hσ
    | false =>
      rw [h6, cond_false] at q2
      cases hcl : zb_cell T r0 with
      | some nb =>
        obtain ⟨n, b0⟩ := nb
        rw [hcl] at q2
        cases u1
        exact zb_cld_ok hlen he hL u2 hσ i2 hcl q2
      | none =>
        rw [hcl] at q2
        obtain ⟨vs, k1, k2⟩ := zb_bnd_some q2
        obtain ⟨w, k3, k4⟩ := zb_bnd_some k2
        cases k4
        exact zb_ld_ok hlen he hL u2 hσ i2 u1 k1 k3 List.mem_cons_self
  case h_2 =>
    obtain ⟨vs, k1, k2⟩ := zb_bnd_some q2
    obtain ⟨w, k3, k4⟩ := zb_bnd_some k2
    cases k4
    exact zb_ld_ok hlen he hL u2 hσ i2 u1 k1 k3 List.mem_cons_self
theorem zb_s33 {a : Int} {b c x nxt : Nat} {sw : List (Int × Nat)} (he : zb_en N ρ env) (hL : zb_gL N ρ L L') (hst : zb_gl N ρ st st') (hσ : zb_ss T len D N ρ σ) (hs : zb_o33 T wr zb_isI 0 nxt env L st D = some ws) : zb_In T len wr N ρ SA (33, a, b, c, x, nxt, sw) ws L' st' σ := by
  unfold zb_o33 at hs
  split at hs
  case h_2 => cases hs
  case h_1 v iv o r =>
  obtain ⟨q, q1, q2⟩ := zb_bnd_some hs
  obtain ⟨vs, v1, v2⟩ := zb_bnd_some q2
  obtain ⟨k1, k2⟩ := zb_cond v2
  cases k2
  have k0 := an_and k1
  have k3 := an_and k0.2
  obtain ⟨w, r1, rfl, w1, w2⟩ := zb_gl_cons hst
  obtain ⟨u, r2, rfl, u1, u2⟩ := zb_gl_cons w2
  obtain ⟨z, r3, rfl, z1, z2⟩ := zb_gl_cons u2
  obtain ⟨i, rfl, i2⟩ := zb_pi_ok he q1 u1
  obtain ⟨r0, n, d, rfl, m1, m2, m3, m4, m5⟩ := zb_rows_ok v1 z1
  obtain ⟨o', o1, o2⟩ := hσ.2 _ _ m2
  obtain ⟨f, rfl, f2⟩ := zb_ro0 (Eq.mp (zb_rw_nc m5) o2)
  obtain ⟨g1, g2, g3, g4⟩ := zb_ixs_ok m3 i2
  have hd : zb_g 0 zb_z0 d w := zb_sub_ok he (zb_every_ok k3.1 d m4) w1
  obtain ⟨y, rfl⟩ := zb_g_I w1 k0.1
  refine ⟨_, List.mem_cons_self, N, ρ, Nat.le_refl _, zb_ag_refl _ _, he, (nxt, L', r3, σ.set r0 (.inl (0, n, .inl (upd f i.toNatClampNeg y)))), by simp only [rf_stp, o1, g3, cond_true], rfl, hL, z2, ?_, zb_fr (zb_every_ok k3.2 r0 m1)⟩
  refine zb_ss_row hσ m2 m5 ⟨rfl, rfl, rfl, fun j hj => ?_⟩
  unfold upd
  by_cases hji : j = i.toNatClampNeg
  · rw [if_pos hji]; exact hd
  · rw [if_neg hji]; exact f2 j hj
theorem zb_ss_cell {loc : Nat → Nat × Nat} {r n j : Nat} {b x : Int} {f : Nat → Int32} {y : Int32} {v : an_V} (hloc : zb_loc T loc) (hσ : zb_ss T len D N ρ σ) (ht : T r = some (.inl (0, n, .inr (9, b, x)))) (ho : σ[r]? = some (.inl (0, n, .inl f))) (hf : ∀ j, j < n → ∃ a, D[b.toNat + j]? = some a ∧ zb_g N ρ a (.int (f j))) (hj : j < n) (hv : zb_g N ρ v (.int y)) : zb_ss T len (D.set (b.toNat + j) v) N ρ (σ.set r (.inl (0, n, .inl (upd f j y)))) := by
  have hls := hloc.2 r n b x ht j hj
  have hrl : r < σ.length := (List.getElem?_eq_some_iff.mp ho).1
  obtain ⟨a0, a1, -⟩ := hf j hj
  have hsl : b.toNat + j < D.length := (List.getElem?_eq_some_iff.mp a1).1
  refine ⟨by rw [List.length_set]; exact hσ.1, fun r1 t ht1 => ?_⟩
  by_cases hr : r1 = r
  · subst hr
    rw [ht] at ht1
    cases ht1
    refine ⟨_, by rw [List.getElem?_set, if_pos rfl, if_pos hrl], rfl, upd f j y, rfl, fun j1 hj1 => ?_⟩
    unfold upd
    by_cases hjj : j1 = j
    · subst hjj
      rw [if_pos rfl]
      exact ⟨v, by rw [List.getElem?_set, if_pos rfl, if_pos hsl], hv⟩
    · rw [if_neg hjj]
      obtain ⟨c, c1, c2⟩ := hf j1 hj1
      exact ⟨c, by rw [List.getElem?_set, if_neg (by omega)]; exact c1, c2⟩
  · obtain ⟨o, o1, o2⟩ := hσ.2 r1 t ht1
    refine ⟨o, by rw [List.getElem?_set, if_neg (fun q => hr q.symm)]; exact o1, ?_⟩
    rcases t with ⟨k1, n1, d1⟩ | ⟨ci, ds1⟩
    · refine zb_rw_put (fun b1 x1 e1 e2 j1 hj1 e3 => ?_) o2
      subst e1
      subst e2
      have := hloc.2 r1 n1 b1 x1 ht1 j1 hj1
      rw [← e3, hls] at this
      exact hr (by cases this; rfl)
    · rcases o with o | ⟨cj, fs1⟩
      · exact o2.elim
      · refine ⟨o2.1, o2.2.1, fun c1 g hg1 => ?_⟩
        obtain ⟨w, w1, w2⟩ := o2.2.2 c1 g hg1
        refine ⟨w, w1, zb_fo_put (fun v e => ?_) w2⟩
        subst e
        have := hloc.1 r1 ci ds1 c1 (b.toNat + j) v ht1 hg1
        rw [hls] at this
        exact hr (by cases this; rfl)
theorem zb_s33c {loc : Nat → Nat × Nat} {a : Int} {b c x nxt : Nat} {sw : List (Int × Nat)} (hloc : zb_loc T loc) (he : zb_en N ρ env) (hL : zb_gL N ρ L L') (hst : zb_gl N ρ st st') (hσ : zb_ss T len D N ρ σ) (hs : zb_o33c T wr nxt env L st D = some ws) : zb_In T len wr N ρ SA (33, a, b, c, x, nxt, sw) ws L' st' σ := by
  unfold zb_o33c at hs
  split at hs
  case h_2 => exact zb_s33 he hL hst hσ hs
  case h_1 v iv r0 r =>
  split at hs
  case h_2 => exact zb_s33 he hL hst hσ hs
  case h_1 n b0 hcl =>
  obtain ⟨q, q1, q2⟩ := zb_bnd_some hs
  obtain ⟨k1, k2⟩ := zb_cond q2
  have k3 := an_and k1
  obtain ⟨w, r1, rfl, w1, w2⟩ := zb_gl_cons hst
  obtain ⟨u, r2, rfl, u1, u2⟩ := zb_gl_cons w2
  obtain ⟨z, r3, rfl, z1, z2⟩ := zb_gl_cons u2
  cases z1
  obtain ⟨y, rfl⟩ := zb_g_I w1 k3.1
  obtain ⟨i, rfl, i2⟩ := zb_pi_ok he q1 u1
  obtain ⟨b', x', f, e1, ht, o1, o3⟩ := zb_cell_ok hσ hcl
  subst e1
  obtain ⟨h1, h2⟩ := zb_cond k2
  obtain ⟨g1, g2, g3, g4⟩ := zb_ixs_ok h1 i2
  have hr : rf_stp SA (33, a, b, c, x, nxt, sw) L' (.int y :: .int i :: .ref r0 :: r3) σ = some (nxt, L', r3, σ.set r0 (.inl (0, n, .inl (upd f i.toNatClampNeg y)))) := by simp only [rf_stp, o1, g3, cond_true]
  have hss := zb_ss_cell hloc hσ ht o1 o3 g2 w1
  cases hsg : zb_sing q with
  | true =>
    rw [hsg, cond_true, zb_upd_eq] at h2
    have e := zb_sing_ok hsg i2
    have e2 : q.2.1.toNat = i.toNatClampNeg := by omega
    rw [e2] at h2
    cases h2
    exact ⟨_, List.mem_cons_self, N, ρ, Nat.le_refl _, zb_ag_refl _ _, he, _, hr, rfl, hL, z2, hss, zb_fr k3.2⟩
  | false =>
    rw [hsg, cond_false] at h2
    split at h2
    case h_2 => cases h2
    case h_1 k d hk =>
    cases h2
    obtain ⟨k4, k5⟩ := i2.2.2 k d hk
    have p1 := i2.1
    have p2 := i2.2.1
    obtain ⟨w, m1, m2, m3⟩ := zb_each_ok (k := k) rfl he (q.2.2 - q.2.1 + 1).toNat (q.2.1 - d) (by omega) (by omega)
    refine ⟨_, List.mem_map.mpr ⟨w, m1, rfl⟩, N, ρ, Nat.le_refl _, zb_ag_refl _ _, m2, _, hr, rfl, hL, z2, ?_, zb_fr k3.2⟩
    show zb_ss T len (zb_upd D (b'.toNat + (w.1 + d).toNat) v) N ρ _
    rw [zb_upd_eq, m3, k5]
    exact hss
theorem zb_s35 {a : Int} {b c x nxt : Nat} {sw : List (Int × Nat)} (he : zb_en N ρ env) (hL : zb_gL N ρ L L') (hst : zb_gl N ρ st st') (hσ : zb_ss T len D N ρ σ) (hs : zb_o33 T wr zb_isL 1 nxt env L st D = some ws) : zb_In T len wr N ρ SA (35, a, b, c, x, nxt, sw) ws L' st' σ := by
  unfold zb_o33 at hs
  split at hs
  case h_2 => cases hs
  case h_1 v iv o r =>
  obtain ⟨q, q1, q2⟩ := zb_bnd_some hs
  obtain ⟨vs, v1, v2⟩ := zb_bnd_some q2
  obtain ⟨k1, k2⟩ := zb_cond v2
  cases k2
  have k0 := an_and k1
  have k3 := an_and k0.2
  obtain ⟨w, r1, rfl, w1, w2⟩ := zb_gl_cons hst
  obtain ⟨u, r2, rfl, u1, u2⟩ := zb_gl_cons w2
  obtain ⟨z, r3, rfl, z1, z2⟩ := zb_gl_cons u2
  obtain ⟨i, rfl, i2⟩ := zb_pi_ok he q1 u1
  obtain ⟨r0, n, d, rfl, m1, m2, m3, m4, m5⟩ := zb_rows_ok v1 z1
  obtain ⟨o', o1, o2⟩ := hσ.2 _ _ m2
  obtain ⟨f, rfl, f2⟩ := zb_ro1 (Eq.mp (zb_rw_nc m5) o2)
  obtain ⟨g1, g2, g3, g4⟩ := zb_ixs_ok m3 i2
  have hd : zb_g 0 zb_z0 d w := zb_sub_ok he (zb_every_ok k3.1 d m4) w1
  obtain ⟨y, rfl⟩ := zb_g_Lo w1 k0.1
  refine ⟨_, List.mem_cons_self, N, ρ, Nat.le_refl _, zb_ag_refl _ _, he, (nxt, L', r3, σ.set r0 (.inl (1, n, .inr (.inl (vp_updL f i.toNatClampNeg y))))), by simp only [rf_stp, o1, g3, cond_true], rfl, hL, z2, ?_, zb_fr (zb_every_ok k3.2 r0 m1)⟩
  refine zb_ss_row hσ m2 m5 ⟨rfl, rfl, rfl, fun j hj => ?_⟩
  unfold vp_updL
  by_cases hji : j = i.toNatClampNeg
  · rw [if_pos hji]; exact hd
  · rw [if_neg hji]; exact f2 j hj
theorem zb_s34 {a : Int} {b c x nxt : Nat} {sw : List (Int × Nat)} (he : zb_en N ρ env) (hL : zb_gL N ρ L L') (hst : zb_gl N ρ st st') (hσ : zb_ss T len D N ρ σ) (hs : zb_o34 T 1 nxt env L st D = some ws) : zb_In T len wr N ρ SA (34, a, b, c, x, nxt, sw) ws L' st' σ := by
  unfold zb_o34 at hs
  split at hs
  case h_2 => cases hs
  case h_1 iv o r =>
  obtain ⟨q, q1, q2⟩ := zb_bnd_some hs
  obtain ⟨vs, v1, v2⟩ := zb_bnd_some q2
  obtain ⟨w, k1, k2⟩ := zb_bnd_some v2
  cases k2
  obtain ⟨w', r1, rfl, w1, w2⟩ := zb_gl_cons hst
  obtain ⟨u, r2, rfl, u1, u2⟩ := zb_gl_cons w2
  obtain ⟨i, rfl, i2⟩ := zb_pi_ok he q1 w1
  obtain ⟨r0, n, d, rfl, m1, m2, m3, m4, m5⟩ := zb_rows_ok v1 u1
  obtain ⟨o', o1, o2⟩ := hσ.2 _ _ m2
  obtain ⟨f, rfl, f2⟩ := zb_ro1 (Eq.mp (zb_rw_nc m5) o2)
  obtain ⟨g1, g2, g3, g4⟩ := zb_ixs_ok m3 i2
  exact zb_one (L2 := L') (st2 := .long (f i.toNatClampNeg) :: r2) List.mem_cons_self he (by simp only [rf_stp, o1, g3, cond_true]) hL ⟨zb_hull_ok k1 m4 (zb_g0 (f2 _ g2)), u2⟩ hσ
theorem zb_s36 {a : Int} {b c x nxt : Nat} {sw : List (Int × Nat)} (he : zb_en N ρ env) (hL : zb_gL N ρ L L') (hst : zb_gl N ρ st st') (hσ : zb_ss T len D N ρ σ) (hs : zb_o34 T 2 nxt env L st D = some ws) : zb_In T len wr N ρ SA (36, a, b, c, x, nxt, sw) ws L' st' σ := by
  unfold zb_o34 at hs
  split at hs
  case h_2 => cases hs
  case h_1 iv o r =>
  obtain ⟨q, q1, q2⟩ := zb_bnd_some hs
  obtain ⟨vs, v1, v2⟩ := zb_bnd_some q2
  obtain ⟨w, k1, k2⟩ := zb_bnd_some v2
  cases k2
  obtain ⟨w', r1, rfl, w1, w2⟩ := zb_gl_cons hst
  obtain ⟨u, r2, rfl, u1, u2⟩ := zb_gl_cons w2
  obtain ⟨i, rfl, i2⟩ := zb_pi_ok he q1 w1
  obtain ⟨r0, n, d, rfl, m1, m2, m3, m4, m5⟩ := zb_rows_ok v1 u1
  obtain ⟨o', o1, o2⟩ := hσ.2 _ _ m2
  obtain ⟨f, rfl, f2⟩ := zb_ro2 (Eq.mp (zb_rw_nc m5) o2)
  obtain ⟨g1, g2, g3, g4⟩ := zb_ixs_ok m3 i2
  obtain ⟨p, p1, p2⟩ := f2 _ g2
  exact zb_one (L2 := L') (st2 := .ref p :: r2) List.mem_cons_self he (by simp only [rf_stp, o1, g3, cond_true, p1]) hL ⟨zb_hull_ok k1 m4 (zb_g0 p2), u2⟩ hσ
theorem zb_row_ok {k r n : Nat} {d : an_V} (h : zb_row T k r = some (n, d)) : T r = some (.inl (k, n, d)) ∧ zb_nc d = true := by
  unfold zb_row at h
  split at h
  case h_2 => cases h
  case h_1 k' n' d' ht =>
  obtain ⟨j1, j2⟩ := zb_cond h
  cases j2
  have j3 := an_and j1
  have := Nat.eq_of_beq_eq_true j3.1
  subst this
  exact ⟨ht, j3.2⟩
theorem zb_len_const {n : Nat} (h : zb_fit (n : Int) (n : Int) = true) : zb_g N ρ (.inr (1, (n : Int), (n : Int))) (.int (Int32.ofNat n)) := by
  have h := zb_fit_of h
  refine ⟨_, rfl, ?_⟩
  have e : (Int32.ofNat n).toInt = (n : Int) := Int32.toInt_ofNat_of_lt (by omega)
  rw [e]
  exact ⟨Int.le_refl _, Int.le_refl _⟩
theorem zb_rlen_ok {r n : Nat} (hσ : zb_ss T len D N ρ σ) (h : zb_rlen T r = some n) : ∃ k g, σ[r]? = some (.inl (k, n, g)) ∧ Nat.blt k 3 = true ∧ ∃ t, T r = some t := by
  unfold zb_rlen at h
  split at h
  case h_2 => cases h
  case h_1 k n' d ht =>
  obtain ⟨j1, j2⟩ := zb_cond h
  cases j2
  obtain ⟨o, o1, o2⟩ := hσ.2 _ _ ht
  have o2 : zb_rw D N ρ k n d o := o2
  unfold zb_rw at o2
  split at o2
  case h_1 =>
    obtain ⟨rfl, f, rfl, -⟩ := o2
    exact ⟨_, _, o1, j1, _, ht⟩
  unfold zb_ro at o2
  split at o2
  · obtain ⟨rfl, rfl, rfl, -⟩ := o2; exact ⟨_, _, o1, j1, _, ht⟩
  · obtain ⟨rfl, rfl, rfl, -⟩ := o2; exact ⟨_, _, o1, j1, _, ht⟩
  · obtain ⟨rfl, rfl, rfl, -⟩ := o2; exact ⟨_, _, o1, j1, _, ht⟩
  · exact o2.elim
theorem zb_s38 {sl : Bool} {LL : Nat} {xs : Nat → Int32} {a : Int} {b c x nxt : Nat} {sw : List (Int × Nat)} (hlen : len ≤ 1000000) (hLL : LL < 2 ^ 31) (hsl : sl = true → zb_hs LL xs N ρ) (he : zb_en N ρ env) (hL : zb_gL N ρ L L') (hst : zb_gl N ρ st st') (hσ : zb_ss T len D N ρ σ) (hs : zb_o38 T sl nxt env L st D = some ws) : zb_In T len wr N ρ (rf_SA LL xs) (38, a, b, c, x, nxt, sw) ws L' st' σ := by
  unfold zb_o38 at hs
  have main : ∀ (r0 n : Nat) (r1 : List Value), zb_rlen T r0 = some n → rf_stp (rf_SA LL xs) (38, a, b, c, x, nxt, sw) L' (.ref r0 :: r1) σ = some (nxt, L', .int (Int32.ofNat n) :: r1, σ) := fun r0 n r1 h => by
    obtain ⟨k, g, k1, k2, t, k3⟩ := zb_rlen_ok hσ h
    have h6 := zb_isS hlen hσ k3
    simp only [rf_stp, h6, cond_false, k1, k2, cond_true]
  split at hs
  case h_1 r0 r =>
    obtain ⟨w, r1, rfl, w1, w2⟩ := zb_gl_cons hst
    cases w1
    cases h6 : rf_isS r0 with
    | true =>
      rw [h6] at hs
      dsimp only [cond_true] at hs
      split at hs
      case h_2 => cases hs
      case h_1 h7 =>
      obtain ⟨g1, g2⟩ := zb_cond hs
      cases g2
      obtain ⟨s1, s2, -⟩ := hsl g1
      refine zb_one (L2 := L') (st2 := .int (Int32.ofNat LL) :: r1) List.mem_cons_self he ?_ hL ⟨⟨(show (0 : Int).toNat < N from Nat.lt_of_lt_of_le (by decide) s1), _, rfl, ?_⟩, w2⟩ hσ
      · simp only [rf_stp, h6, cond_true]
        rw [h7]
        rfl
      · show (Int32.ofNat LL).toInt = ρ 0 + 0
        rw [Int32.toInt_ofNat_of_lt hLL, s2]
        omega
    | false =>
      rw [h6] at hs
      dsimp only [cond_false] at hs
      split at hs
      case h_2 => cases hs
      case h_1 n hn =>
      obtain ⟨g1, g2⟩ := zb_cond hs
      cases g2
      exact zb_one List.mem_cons_self he (main _ _ _ hn) hL ⟨zb_len_const g1, w2⟩ hσ
  case h_2 o r _ =>
    obtain ⟨w, r1, rfl, w1, w2⟩ := zb_gl_cons hst
    obtain ⟨g1, g2⟩ := zb_cond hs
    obtain ⟨ns, n1, n2⟩ := zb_bnd_some g2
    obtain ⟨r0, m1, rfl⟩ := zb_g_R w1 g1
    obtain ⟨m, m2, m3⟩ := zb_map_ok n1 r0 m1
    split at n2
    case h_2 => cases n2
    case h_1 n t =>
    obtain ⟨k1, k2⟩ := zb_cond n2
    cases k2
    have k3 := an_and k1
    have em : m = n := by
      rcases List.mem_cons.mp m2 with e | e
      · exact e
      · exact Nat.eq_of_beq_eq_true (zb_every_ok k3.1 m e)
    subst em
    exact zb_one List.mem_cons_self he (main _ _ _ m3) hL ⟨zb_len_const k3.2, w2⟩ hσ
  case h_3 => cases hs
theorem zb_cpy_ok {α : Type} {mk : α → Value} {d0 d1 : an_V} {f g : Nat → α} {sp dp n n0 n1 : Nat} (h : zb_sub ([], []) d0 d1 = true) (hf : ∀ j, j < n0 → zb_g 0 zb_z0 d0 (mk (f j))) (hg : ∀ j, j < n1 → zb_g 0 zb_z0 d1 (mk (g j))) (hs : sp + n ≤ n0) : ∀ j, j < n1 → zb_g 0 zb_z0 d1 (mk (va_cpy f g sp dp n j)) := fun j hj => by
  unfold va_cpy
  by_cases hc : dp ≤ j ∧ j < dp + n
  · rw [if_pos hc]; exact zb_sub_ok (zb_en_nil (ρ := zb_z0)) h (hf _ (by omega))
  · rw [if_neg hc]; exact hg j hj
theorem zb_cpk_ok {k : Nat} {qn qd qs : zb_q} {o1 o0 : an_V} {r0 r1 : Nat} (h : zb_cpk T wr env.2 k qn qd qs o1 o0 = true) (h0 : r0 ∈ zb_mem o0) (h1 : r1 ∈ zb_mem o1) : ∃ n0 d0 n1 d1, (T r0 = some (.inl (k, n0, d0)) ∧ zb_nc d0 = true) ∧ (T r1 = some (.inl (k, n1, d1)) ∧ zb_nc d1 = true) ∧ zb_sle env.2 qs qn (n0 : Int) = true ∧ zb_sle env.2 qd qn (n1 : Int) = true ∧ zb_sub ([], []) d0 d1 = true ∧ wr r1 = true := by
  unfold zb_cpk at h
  split at h
  case h_2 => cases h
  case h_1 s0 s1 hs0 hs1 =>
  have c1 := an_and h
  have c2 := an_and c1.2
  have c3 := an_and c2.2
  obtain ⟨⟨n0, d0⟩, a1, a2⟩ := zb_map_ok hs0 r0 h0
  obtain ⟨⟨n1, d1⟩, b1, b2⟩ := zb_map_ok hs1 r1 h1
  exact ⟨n0, d0, n1, d1, zb_row_ok a2, zb_row_ok b2, zb_every_ok c1.1 _ a1, zb_every_ok c2.1 _ b1, zb_every_ok (zb_every_ok c3.1 _ a1) _ b1, zb_every_ok c3.2 r1 h1⟩
theorem zb_pos {i : Int32} (h : 0 ≤ i.toInt) : decide (¬ i < 0) = true ∧ (i.toNatClampNeg : Int) = i.toInt := by
  refine ⟨decide_eq_true (fun e => ?_), ?_⟩
  · have e := Int32.lt_iff_toInt_lt.mp e
    have e0 : (0 : Int32).toInt = 0 := rfl
    omega
  · show ((i.toInt.toNat : Nat) : Int) = i.toInt
    omega
theorem zb_s43 {a : Int} {b c x nxt : Nat} {sw : List (Int × Nat)} (he : zb_en N ρ env) (hL : zb_gL N ρ L L') (hst : zb_gl N ρ st st') (hσ : zb_ss T len D N ρ σ) (hs : zb_o43 T wr nxt env L st D = some ws) : zb_In T len wr N ρ SA (43, a, b, c, x, nxt, sw) ws L' st' σ := by
  unfold zb_o43 at hs
  split at hs
  case h_2 => cases hs
  case h_1 nv dv o1 sv o0 r =>
  obtain ⟨qn, n1, n2⟩ := zb_bnd_some hs
  obtain ⟨qd, d1, d2⟩ := zb_bnd_some n2
  obtain ⟨qs, s1, s2⟩ := zb_bnd_some d2
  obtain ⟨k1, k2⟩ := zb_cond s2
  cases k2
  have c1 := an_and k1
  have c2 := an_and c1.2
  have c3 := an_and c2.2
  have c4 := an_and c3.2
  have c5 := an_and c4.2
  have c6 := an_and c5.2
  obtain ⟨w1, r1, rfl, g1, f1⟩ := zb_gl_cons hst
  obtain ⟨w2, r2, rfl, g2, f2⟩ := zb_gl_cons f1
  obtain ⟨w3, r3, rfl, g3, f3⟩ := zb_gl_cons f2
  obtain ⟨w4, r4, rfl, g4, f4⟩ := zb_gl_cons f3
  obtain ⟨w5, r5, rfl, g5, f5⟩ := zb_gl_cons f4
  obtain ⟨n, rfl, hn⟩ := zb_pi_ok he n1 g1
  obtain ⟨dp, rfl, hd⟩ := zb_pi_ok he d1 g2
  obtain ⟨sp, rfl, hsp⟩ := zb_pi_ok he s1 g4
  obtain ⟨a1, m1, rfl⟩ := zb_g_R g3 c6.1
  obtain ⟨a0, m0, rfl⟩ := zb_g_R g5 c5.1
  have p1 := zb_pos (i := n) (by have := zb_le_of c1.1; have := hn.1; omega)
  have p2 := zb_pos (i := dp) (by have := zb_le_of c2.1; have := hd.1; omega)
  have p3 := zb_pos (i := sp) (by have := zb_le_of c3.1; have := hsp.1; omega)
  have hcat : Nat.ble (rf_cat r5) 8 = true := by rw [← zb_gl_cat f5]; exact c4.1
  have c7 := c6.2
  rw [Bool.or_eq_true] at c7
  have e1 := hn.2.1
  have e2 := hd.2.1
  have e3 := hsp.2.1
  rcases c7 with c7 | c7
  · obtain ⟨n0, d0, n1', d1', t0, t1, l0', l1', sb, hw⟩ := zb_cpk_ok c7 m0 m1
    have l0 := zb_sle_ok he l0' hsp hn
    have l1 := zb_sle_ok he l1' hd hn
    obtain ⟨o0', q1, q2⟩ := hσ.2 _ _ t0.1
    obtain ⟨f, rfl, f9⟩ := zb_ro0 (Eq.mp (zb_rw_nc t0.2) q2)
    obtain ⟨o1', q3, q4⟩ := hσ.2 _ _ t1.1
    obtain ⟨g, rfl, g0⟩ := zb_ro0 (Eq.mp (zb_rw_nc t1.2) q4)
    have hle : (Nat.ble (sp.toNatClampNeg + n.toNatClampNeg) n0 && Nat.ble (dp.toNatClampNeg + n.toNatClampNeg) n1') = true := by
      rw [Bool.and_eq_true]
      exact ⟨Nat.ble_eq_true_of_le (by omega), Nat.ble_eq_true_of_le (by omega)⟩
    refine ⟨_, List.mem_cons_self, N, ρ, Nat.le_refl _, zb_ag_refl _ _, he, (nxt, L', r5, σ.set a1 (.inl (0, n1', .inl (va_cpy f g sp.toNatClampNeg dp.toNatClampNeg n.toNatClampNeg)))), by simp only [rf_stp, p1.1, p2.1, p3.1, hcat, Bool.and_self, cond_true, q1, q3, hle], rfl, hL, f5, ?_, zb_fr hw⟩
    exact zb_ss_row hσ t1.1 t1.2 ⟨rfl, rfl, rfl, zb_cpy_ok (mk := Value.int) sb f9 g0 (by omega)⟩
  · obtain ⟨n0, d0, n1', d1', t0, t1, l0', l1', sb, hw⟩ := zb_cpk_ok c7 m0 m1
    have l0 := zb_sle_ok he l0' hsp hn
    have l1 := zb_sle_ok he l1' hd hn
    obtain ⟨o0', q1, q2⟩ := hσ.2 _ _ t0.1
    obtain ⟨f, rfl, f9⟩ := zb_ro1 (Eq.mp (zb_rw_nc t0.2) q2)
    obtain ⟨o1', q3, q4⟩ := hσ.2 _ _ t1.1
    obtain ⟨g, rfl, g0⟩ := zb_ro1 (Eq.mp (zb_rw_nc t1.2) q4)
    have hle : (Nat.ble (sp.toNatClampNeg + n.toNatClampNeg) n0 && Nat.ble (dp.toNatClampNeg + n.toNatClampNeg) n1') = true := by
      rw [Bool.and_eq_true]
      exact ⟨Nat.ble_eq_true_of_le (by omega), Nat.ble_eq_true_of_le (by omega)⟩
    refine ⟨_, List.mem_cons_self, N, ρ, Nat.le_refl _, zb_ag_refl _ _, he, (nxt, L', r5, σ.set a1 (.inl (1, n1', .inr (.inl (va_cpy f g sp.toNatClampNeg dp.toNatClampNeg n.toNatClampNeg))))), by simp only [rf_stp, p1.1, p2.1, p3.1, hcat, Bool.and_self, cond_true, q1, q3, hle], rfl, hL, f5, ?_, zb_fr hw⟩
    exact zb_ss_row hσ t1.1 t1.2 ⟨rfl, rfl, rfl, zb_cpy_ok (mk := Value.long) sb f9 g0 (by omega)⟩
theorem zb_le_if {y z : Int32} : (if z < y then y else z).toInt = (if z.toInt < y.toInt then y.toInt else z.toInt) := by
  by_cases h : z < y
  · rw [if_pos h, if_pos (Int32.lt_iff_toInt_lt.mp h)]
  · rw [if_neg h, if_neg (fun q => h (Int32.lt_iff_toInt_lt.mpr q))]
theorem zb_le_if2 {y z : Int32} : (if y < z then y else z).toInt = (if y.toInt < z.toInt then y.toInt else z.toInt) := by
  by_cases h : y < z
  · rw [if_pos h, if_pos (Int32.lt_iff_toInt_lt.mp h)]
  · rw [if_neg h, if_neg (fun q => h (Int32.lt_iff_toInt_lt.mpr q))]
theorem zb_s44 {a : Int} {b c x nxt : Nat} {sw : List (Int × Nat)} (he : zb_en N ρ env) (hL : zb_gL N ρ L L') (hst : zb_gl N ρ st st') (hσ : zb_ss T len D N ρ σ) (hs : zb_o44 nxt env L st D = some ws) : zb_In T len wr N ρ SA (44, a, b, c, x, nxt, sw) ws L' st' σ := by
  unfold zb_o44 at hs
  split at hs
  case h_2 => cases hs
  case h_1 y z r =>
  obtain ⟨qz, z1, z2⟩ := zb_bnd_some hs
  obtain ⟨qy, y1, y2⟩ := zb_bnd_some z2
  obtain ⟨k1, k2⟩ := zb_cond y2
  cases k2
  obtain ⟨w, r1, rfl, w1, w2⟩ := zb_gl_cons hst
  obtain ⟨u, r2, rfl, u1, u2⟩ := zb_gl_cons w2
  obtain ⟨y0, rfl, y3⟩ := zb_pi_ok he y1 w1
  obtain ⟨z0, rfl, z3⟩ := zb_pi_ok he z1 u1
  rw [zb_gl_cat u2] at k1
  refine zb_one (L2 := L') (st2 := .int (if z0 < y0 then y0 else z0) :: r2) List.mem_cons_self he (by simp only [rf_stp, k1, cond_true]) hL ⟨⟨_, rfl, ?_⟩, u2⟩ hσ
  rw [zb_le_if]
  have a1 := zb_le_maxl qz.2.2 qy.2.2
  have a2 := zb_le_maxr qz.2.2 qy.2.2
  have b1 := y3.1
  have b2 := y3.2.1
  have b3 := z3.1
  have b4 := z3.2.1
  refine ⟨zb_max_le ?_ ?_, ?_⟩ <;> split <;> omega
theorem zb_s45 {a : Int} {b c x nxt : Nat} {sw : List (Int × Nat)} (he : zb_en N ρ env) (hL : zb_gL N ρ L L') (hst : zb_gl N ρ st st') (hσ : zb_ss T len D N ρ σ) (hs : zb_o45 nxt env L st D = some ws) : zb_In T len wr N ρ SA (45, a, b, c, x, nxt, sw) ws L' st' σ := by
  unfold zb_o45 at hs
  split at hs
  case h_2 => cases hs
  case h_1 y z r =>
  obtain ⟨qz, z1, z2⟩ := zb_bnd_some hs
  obtain ⟨qy, y1, y2⟩ := zb_bnd_some z2
  obtain ⟨k1, k2⟩ := zb_cond y2
  cases k2
  obtain ⟨w, r1, rfl, w1, w2⟩ := zb_gl_cons hst
  obtain ⟨u, r2, rfl, u1, u2⟩ := zb_gl_cons w2
  obtain ⟨y0, rfl, y3⟩ := zb_pi_ok he y1 w1
  obtain ⟨z0, rfl, z3⟩ := zb_pi_ok he z1 u1
  rw [zb_gl_cat u2] at k1
  refine zb_one (L2 := L') (st2 := .int (if y0 < z0 then y0 else z0) :: r2) List.mem_cons_self he (by simp only [rf_stp, k1, cond_true]) hL ⟨⟨_, rfl, ?_⟩, u2⟩ hσ
  rw [zb_le_if2]
  have a1 := zb_minl_le qz.2.1 qy.2.1
  have a2 := zb_minr_le qz.2.1 qy.2.1
  have b1 := y3.1
  have b2 := y3.2.1
  have b3 := z3.1
  have b4 := z3.2.1
  refine ⟨?_, zb_le_min ?_ ?_⟩ <;> split <;> omega
end
