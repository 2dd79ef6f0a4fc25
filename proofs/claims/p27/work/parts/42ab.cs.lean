/-! what both sides hold of the shelves' elements, from turn to turn -/
def zc_CS (ρ : Nat → Int) (σ : rf_S) : Prop := ∃ f g : Nat → Int64, σ[61]? = some (.inl (1, 360, .inr (.inl f))) ∧ σ[88]? = some (.inl (1, 360, .inr (.inl g))) ∧ zc_CI ρ (fun x => (f x).toInt) (fun x => (g x).toInt)
noncomputable def zc_sm1 (D : zb_D) (d : Nat) : Bool := match zb_nth D (72 + d), zb_nth D (66 + d) with
  | some z, some s => zb_same z (80 + d) && zb_same s (74 + d)
  | _, _ => false
noncomputable def zc_cs1 (env : zb_N) (D : zb_D) (d : Nat) : Bool := zc_sm1 D d || (match zb_nth D (72 + d) with
  | some z => (match zb_pi env z with
    | some q => zb_le q.2.2 0
    | none => false)
  | none => false)
noncomputable def zc_csz (env : zb_N) (D : zb_D) : Bool := zb_every (zc_cs1 env D) [0, 1, 2, 3, 4, 5]
noncomputable def zc_szs (D : zb_D) : Bool := zb_every (zc_sm1 D) [0, 1, 2, 3, 4, 5]
noncomputable def zc_sv (v w : an_V) : Bool := match v, w with
  | .inr (3, k, c), .inr (3, k', c') => zb_ieq k k' && zb_ieq c c'
  | .inr (2, lo, _), .inr (2, lo', _) => zb_ieq lo lo'
  | _, _ => false
noncomputable def zc_lo1 (env : zb_N) (k : Nat) : Bool := match zb_nth env.1 k with
  | some b => zb_le 1 b.1
  | none => false
noncomputable def zc_by (env : zb_N) (v : an_V) : Bool := match zb_pl env v with
  | some q => zb_le (-128) q.2.1 && (zb_le q.2.2 127 && zb_le q.2.1 127)
  | none => false
noncomputable def zc_pu1 (env : zb_N) (q : zb_q) (v : an_V) (d : Nat) : Bool := Nat.blt d 6 && (zb_le ((60 * d : Nat) : Int) q.2.1 && (zb_le q.2.2 ((60 * d + 59 : Nat) : Int) && (zc_lo1 env (74 + d) || zc_by env v)))
noncomputable def zc_pu (env : zb_N) (k : Nat) (c : Int) (v : an_V) : Bool := match zb_nth env.1 k with
  | some b => zc_pu1 env (some (k, c), b.1 + c, b.2 + c) v ((b.1 + c).toNat / 60)
  | none => false
noncomputable def zc_rwe (env : zb_N) (D : zb_D) (k : Nat) (c : Int) (d : Nat) : Bool := Nat.blt d 6 && (zb_ieq c ((60 * d : Nat) : Int) && (zc_hi60 env k && ((match zb_nth D (72 + d) with
  | some z => zc_nm z k 0
  | none => false) && zb_every (fun x => Nat.beq x d || zc_sm1 D x) [0, 1, 2, 3, 4, 5])))
noncomputable def zc_she (env : zb_N) (a : Nat) (b : Int) (sd dd : Nat) : Bool := Nat.blt sd 6 && (Nat.blt dd 6 && (Nat.beq a (60 * sd) && (zb_ieq b ((60 * dd : Nat) : Int) && (zc_lo0 env 3 && (zc_lo0 env 5 && (zc_lo0 env 6 && (zc_hi60 env (80 + sd) && (zc_hi60 env (80 + dd) && (zc_ls env 3 6 (80 + sd) && (zc_ls env 5 6 (80 + dd) && (Nat.beq sd dd || (zc_entk env (74 + sd) (74 + dd) 0 && zc_entk env (74 + dd) (74 + sd) 0))))))))))))
noncomputable def zc_cend (env : zb_N) (D : zb_D) (U1 U2 : List zc_U) : Bool := match U1, U2 with
  | [], [] => zc_csz env D
  | [(0, k, c, v)], [(0, k', c', v')] => Nat.beq k k' && (zb_ieq c c' && (zc_sv v v' && (zc_szs D && zc_pu env k c v)))
  | [(2, k, c, _)], [(1, n, c', _)] => Nat.beq n 60 && (zb_ieq c c' && zc_rwe env D k c (c.toNat / 60))
  | [(3, a, b, _)], [(3, a', b', _)] => Nat.beq a a' && (zb_ieq b b' && (zc_szs D && zc_she env a b (a / 60) (b.toNat / 60)))
  | _, _ => false
section
variable {N M : Nat} {ρ ρ' : Nat → Int} {env : zb_N} {D : zb_D} {L1 : rf_L} {st1 : List Value} {σ σ1 : rf_S} {srcs : List (Nat × Nat)} {f0 g0 : Nat → Int}
theorem zc_val (hσ : zb_ss zb_tL 90 D M ρ' σ1) (hD : D.length = 90) (hsr : ∀ s, s < 90 → srcs[8 + s - 1]? = some (1, s)) {x : Nat} {v : an_V} (hx : x < 90) (hv : D[x]? = some v) : ∃ w, zb_g M ρ' v w ∧ zb_rA zb_locL 1 ρ' srcs L1 st1 σ1 (8 + x) = zb_int (some w) := by
  obtain ⟨w, w1, w2⟩ := zb_scal (ns := 90) (L' := L1) (st' := st1) zb_hlcL hD hσ hv
  refine ⟨w, w2, ?_⟩
  unfold zb_rA
  rw [if_neg (by omega), hsr x hx]
  show zb_int (zb_cw zb_locL L1 st1 σ1 (1, x)) = _
  rw [w1]
theorem zc_valq (he : zb_en M ρ' env) (hσ : zb_ss zb_tL 90 D M ρ' σ1) (hD : D.length = 90) (hsr : ∀ s, s < 90 → srcs[8 + s - 1]? = some (1, s)) {x : Nat} {v : an_V} {q : zb_q} (hx : x < 90) (hv : D[x]? = some v) (hq : zb_pi env v = some q) : zb_qk M ρ' q (zb_rA zb_locL 1 ρ' srcs L1 st1 σ1 (8 + x)) := by
  obtain ⟨w, w1, w2⟩ := zc_val (L1 := L1) (st1 := st1) hσ hD hsr hx hv
  obtain ⟨y, rfl, hy⟩ := zb_pi_ok he hq w1
  rw [w2]
  exact hy
theorem zc_vals (he : zb_en M ρ' env) (hσ : zb_ss zb_tL 90 D M ρ' σ1) (hD : D.length = 90) (hsr : ∀ s, s < 90 → srcs[8 + s - 1]? = some (1, s)) (hag : zb_ag N ρ ρ') (hN : 98 ≤ N) {x k : Nat} {v : an_V} (hx : x < 90) (hv : D[x]? = some v) (hk : k < 98) (h : zb_same v k = true) : zb_rA zb_locL 1 ρ' srcs L1 st1 σ1 (8 + x) = ρ k := by
  obtain ⟨w, w1, w2⟩ := zc_val (L1 := L1) (st1 := st1) hσ hD hsr hx hv
  have hI : zb_isI v = true := by
    unfold zb_same at h
    split at h
    case h_1 => rfl
    case h_2 => cases h
  obtain ⟨q, hq⟩ := zb_pi_I he w1 hI
  obtain ⟨y, rfl, hy⟩ := zb_pi_ok he hq w1
  rw [w2]
  show y.toInt = _
  rw [zb_same_ok h hq hy, hag k (by omega)]
theorem zc_sm1_ok (he : zb_en M ρ' env) (hσ : zb_ss zb_tL 90 D M ρ' σ1) (hD : D.length = 90) (hsr : ∀ s, s < 90 → srcs[8 + s - 1]? = some (1, s)) (hag : zb_ag N ρ ρ') (hN : 98 ≤ N) {d : Nat} (hd : d < 6) (h : zc_sm1 D d = true) : zb_rA zb_locL 1 ρ' srcs L1 st1 σ1 (80 + d) = ρ (80 + d) ∧ zb_rA zb_locL 1 ρ' srcs L1 st1 σ1 (74 + d) = ρ (74 + d) := by
  unfold zc_sm1 at h
  split at h
  case h_2 => cases h
  case h_1 z s hz hs =>
  rw [zb_nth_eq] at hz hs
  have h := an_and h
  have e1 := zc_vals (L1 := L1) (st1 := st1) he hσ hD hsr hag hN (x := 72 + d) (by omega) hz (by omega) h.1
  have e2 := zc_vals (L1 := L1) (st1 := st1) he hσ hD hsr hag hN (x := 66 + d) (by omega) hs (by omega) h.2
  rw [show 8 + (72 + d) = 80 + d by omega] at e1
  rw [show 8 + (66 + d) = 74 + d by omega] at e2
  exact ⟨e1, e2⟩
/-- the two rows at the end, once their elements are known -/
theorem zc_fin {F H : Nat → Int} {f g : Nat → Int64} (h1 : σ1[61]? = some (.inl (1, 360, .inr (.inl f)))) (h2 : σ1[88]? = some (.inl (1, 360, .inr (.inl g)))) (h3 : ∀ x, x < 360 → (f x).toInt = F x) (h4 : ∀ x, x < 360 → (g x).toInt = H x) (h : ∀ d : Nat, d < 6 → ∀ j : Nat, j < 60 → (j : Int) < ρ' (80 + d) → F (60 * d + j) = H (60 * d + j) ∧ (ρ' (74 + d) = 0 → -128 ≤ F (60 * d + j) ∧ F (60 * d + j) ≤ 127)) : zc_CS ρ' σ1 := by
  refine ⟨f, g, h1, h2, fun x _ => zb_64 _, fun d hd j hj hj2 => ?_⟩
  have hx : 60 * d + j < 360 := by omega
  show (f (60 * d + j)).toInt = (g (60 * d + j)).toInt ∧ (ρ' (74 + d) = 0 → -128 ≤ (f (60 * d + j)).toInt ∧ (f (60 * d + j)).toInt ≤ 127)
  rw [h3 _ hx, h4 _ hx]
  exact h d hd j hj hj2
theorem zc_csz_ok (he : zb_en M ρ' env) (hσ : zb_ss zb_tL 90 D M ρ' σ1) (hD : D.length = 90) (hsr : ∀ s, s < 90 → srcs[8 + s - 1]? = some (1, s)) (hag : zb_ag N ρ ρ') (hN : 98 ≤ N) (hCI : zc_CI ρ f0 g0) (h : zc_csz env D = true) (d : Nat) (hd : d < 6) (j : Nat) (hj : j < 60) (hj2 : (j : Int) < zb_rA zb_locL 1 ρ' srcs L1 st1 σ1 (80 + d)) : f0 (60 * d + j) = g0 (60 * d + j) ∧ (zb_rA zb_locL 1 ρ' srcs L1 st1 σ1 (74 + d) = 0 → -128 ≤ f0 (60 * d + j) ∧ f0 (60 * d + j) ≤ 127) := by
  have g := zb_every_ok h d (zb_mem6 hd)
  unfold zc_cs1 at g
  rw [Bool.or_eq_true] at g
  rcases g with g | g
  · obtain ⟨e1, e2⟩ := zc_sm1_ok (L1 := L1) (st1 := st1) he hσ hD hsr hag hN hd g
    rw [e1] at hj2
    rw [e2]
    exact hCI.2 d hd j hj hj2
  · split at g
    case h_2 => cases g
    case h_1 z hz =>
    split at g
    case h_2 => cases g
    case h_1 q hq =>
    rw [zb_nth_eq] at hz
    have k := zc_valq (L1 := L1) (st1 := st1) he hσ hD hsr (x := 72 + d) (by omega) hz hq
    rw [show 8 + (72 + d) = 80 + d by omega] at k
    have := zb_le_of g
    have := k.2.1
    omega
/-- a turn that leaves both rows as they are -/
theorem zc_keep (he : zb_en M ρ' env) (hσ : zb_ss zb_tL 90 D M ρ' σ1) (hD : D.length = 90) (hsr : ∀ s, s < 90 → srcs[8 + s - 1]? = some (1, s)) (hag : zb_ag N ρ ρ') (hN : 98 ≤ N) (hCS : zc_CS ρ σ) (h61 : σ1[61]? = σ[61]?) (h88 : σ1[88]? = σ[88]?) (h : zc_csz env D = true) : zc_CS (zb_rA zb_locL 1 ρ' srcs L1 st1 σ1) σ1 := by
  obtain ⟨f, g, h1, h2, h3⟩ := hCS
  exact zc_fin (by rw [h61]; exact h1) (by rw [h88]; exact h2) (fun x hx => rfl) (fun x hx => rfl) (fun d hd j hj hj2 => zc_csz_ok he hσ hD hsr hag hN h3 h d hd j hj hj2)
theorem zc_sv_ok {v w : an_V} (h : zc_sv v w = true) : zc_av ρ v = zc_av ρ w := by
  unfold zc_sv at h
  split at h
  case h_3 => cases h
  case h_1 k c k' c' =>
    have h := an_and h
    have e1 := zb_ieq_of h.1
    have e2 := zb_ieq_of h.2
    subst e1
    subst e2
    rfl
  case h_2 lo x lo' y =>
    have e := zb_ieq_of h
    subst e
    rfl
theorem zc_by_ok {v : an_V} (he : zb_en M ρ' env) (h : zc_by env v = true) : -128 ≤ zc_av ρ' v ∧ zc_av ρ' v ≤ 127 := by
  unfold zc_by at h
  split at h
  case h_2 => cases h
  case h_1 q hq =>
  have h := an_and h
  have h2 := an_and h.2
  have a1 := zb_le_of h.1
  have a2 := zb_le_of h2.1
  have a3 := zb_le_of h2.2
  unfold zb_pl at hq
  split at hq
  case h_1 k c =>
    split at hq
    case h_2 => cases hq
    case h_1 b hb =>
    cases hq
    rw [zb_nth_eq] at hb
    have := he.2.1 _ _ hb
    show -128 ≤ ρ' k.toNat + c ∧ ρ' k.toNat + c ≤ 127
    dsimp only at a1 a2
    omega
  case h_2 lo hi =>
    cases hq
    exact ⟨a1, a3⟩
  case h_3 => cases hq
theorem zc_cend_ok {ms : List zb_F} {U1 U2 : List zc_U} (he : zb_en M ρ' env) (hσ : zb_ss zb_tL 90 D M ρ' σ1) (hD : D.length = 90) (hsr : ∀ s, s < 90 → srcs[8 + s - 1]? = some (1, s)) (hag : zb_ag N ρ ρ') (hN : 98 ≤ N) (hCI : zc_CI ρ f0 g0) (hG : zc_GR M ρ' f0 g0 (ms, U1, U2) σ1) (h : zc_cend env D U1 U2 = true) : zc_CS (zb_rA zb_locL 1 ρ' srcs L1 st1 σ1) σ1 := by
  obtain ⟨-, hu1, hu2, ⟨f, f1, f2⟩, ⟨g, g1, g2⟩⟩ := hG
  have ev : ∀ k, k < 98 → ρ' k = ρ k := fun k hk => hag k (by omega)
  unfold zc_cend at h
  split at h
  case h_5 => cases h
  case h_1 => exact zc_fin f1 g1 f2 g2 (fun d hd j hj hj2 => zc_csz_ok he hσ hD hsr hag hN hCI h d hd j hj hj2)
  case h_2 k c v k' c' v' =>
    have a1 := an_and h
    have a2 := an_and a1.2
    have a3 := an_and a2.2
    have a4 := an_and a3.2
    have e1 := Nat.eq_of_beq_eq_true a1.1
    have e2 := zb_ieq_of a2.1
    subst e1
    subst e2
    have e3 := zc_sv_ok (ρ := ρ') a3.1
    have hp := a4.2
    unfold zc_pu at hp
    split at hp
    case h_2 => cases hp
    case h_1 b hb =>
    rw [zb_nth_eq] at hb
    have bk := he.2.1 _ _ hb
    have p1 := an_and hp
    have p2 := an_and p1.2
    have p3 := an_and p2.2
    have q1 : (b.1 + c).toNat / 60 < 6 := Nat.le_of_ble_eq_true p1.1
    have q2 := zb_le_of p2.1
    have q3 := zb_le_of p3.1
    dsimp only at q2 q3
    refine zc_fin f1 g1 f2 g2 (fun d hd j hj hj2 => ?_)
    obtain ⟨s1, s2⟩ := zc_sm1_ok (L1 := L1) (st1 := st1) he hσ hD hsr hag hN hd (zb_every_ok a4.1 d (zb_mem6 hd))
    rw [s1] at hj2
    rw [s2]
    have ci := hCI.2 d hd j hj hj2
    show (if ((60 * d + j : Nat) : Int) = ρ' k + c then zc_av ρ' v else f0 (60 * d + j)) = (if ((60 * d + j : Nat) : Int) = ρ' k + c then zc_av ρ' v' else g0 (60 * d + j)) ∧ (ρ (74 + d) = 0 → -128 ≤ (if ((60 * d + j : Nat) : Int) = ρ' k + c then zc_av ρ' v else f0 (60 * d + j)) ∧ (if ((60 * d + j : Nat) : Int) = ρ' k + c then zc_av ρ' v else f0 (60 * d + j)) ≤ 127)
    by_cases hx : ((60 * d + j : Nat) : Int) = ρ' k + c
    · rw [if_pos hx, if_pos hx]
      refine ⟨e3, fun hs0 => ?_⟩
      have ed : (b.1 + c).toNat / 60 = d := by omega
      have p4 := p3.2
      rw [Bool.or_eq_true] at p4
      rcases p4 with p4 | p4
      · exfalso
        unfold zc_lo1 at p4
        split at p4
        case h_2 => cases p4
        case h_1 b2 hb2 =>
        rw [zb_nth_eq, ed] at hb2
        have w1 := (he.2.1 _ _ hb2).1
        have w2 := zb_le_of p4
        rw [ev _ (by omega)] at w1
        omega
      · exact zc_by_ok he p4
    · rw [if_neg hx, if_neg hx]
      exact ci
  case h_3 k c x n c' y =>
    have a1 := an_and h
    have a2 := an_and a1.2
    have e1 : n = 60 := Nat.eq_of_beq_eq_true a1.1
    have e2 := zb_ieq_of a2.1
    subst e1
    subst e2
    have b1 := an_and a2.2
    have b2 := an_and b1.2
    have b3 := an_and b2.2
    have b4 := an_and b3.2
    have d6 : c.toNat / 60 < 6 := Nat.le_of_ble_eq_true b1.1
    have ec := zb_ieq_of b2.1
    have hk := zc_hi60_ok he b3.1
    have hz := b4.1
    split at hz
    case h_2 => cases hz
    case h_1 z hz2 =>
    rw [zb_nth_eq] at hz2
    obtain ⟨w, w1, w2⟩ := zc_val (L1 := L1) (st1 := st1) hσ hD hsr (x := 72 + c.toNat / 60) (by omega) hz2
    obtain ⟨-, y', rfl, w3⟩ := zc_nm_ok hz w1
    rw [show 8 + (72 + c.toNat / 60) = 80 + c.toNat / 60 by omega] at w2
    have w4 : zb_rA zb_locL 1 ρ' srcs L1 st1 σ1 (80 + c.toNat / 60) = ρ' k := by
      rw [w2]
      show y'.toInt = _
      omega
    refine zc_fin f1 g1 f2 g2 (fun d hd j hj hj2 => ?_)
    show (if c ≤ ((60 * d + j : Nat) : Int) ∧ ((60 * d + j : Nat) : Int) < c + ρ' k then 0 else f0 (60 * d + j)) = (if c ≤ ((60 * d + j : Nat) : Int) ∧ ((60 * d + j : Nat) : Int) < c + ((60 : Nat) : Int) then 0 else g0 (60 * d + j)) ∧ (_ → -128 ≤ (if c ≤ ((60 * d + j : Nat) : Int) ∧ ((60 * d + j : Nat) : Int) < c + ρ' k then 0 else f0 (60 * d + j)) ∧ (if c ≤ ((60 * d + j : Nat) : Int) ∧ ((60 * d + j : Nat) : Int) < c + ρ' k then 0 else f0 (60 * d + j)) ≤ 127)
    by_cases hdd : d = c.toNat / 60
    · rw [← hdd] at w4 ec
      rw [w4] at hj2
      rw [if_pos (by omega), if_pos (by omega)]
      exact ⟨rfl, fun _ => by omega⟩
    · have g6 := zb_every_ok b4.2 d (zb_mem6 hd)
      rw [Bool.or_eq_true] at g6
      rcases g6 with g6 | g6
      · exact absurd (Nat.eq_of_beq_eq_true g6) hdd
      · obtain ⟨s1, s2⟩ := zc_sm1_ok (L1 := L1) (st1 := st1) he hσ hD hsr hag hN hd g6
        rw [s1] at hj2
        rw [s2, if_neg (by omega), if_neg (by omega)]
        exact hCI.2 d hd j hj hj2
  case h_4 a b x a' b' y =>
    have a1 := an_and h
    have a2 := an_and a1.2
    have a3 := an_and a2.2
    have e1 := Nat.eq_of_beq_eq_true a1.1
    have e2 := zb_ieq_of a2.1
    subst e1
    subst e2
    have c1 := an_and a3.2
    have c2 := an_and c1.2
    have c3 := an_and c2.2
    have c4 := an_and c3.2
    have c5 := an_and c4.2
    have c6 := an_and c5.2
    have c7 := an_and c6.2
    have c8 := an_and c7.2
    have c9 := an_and c8.2
    have c10 := an_and c9.2
    have c11 := an_and c10.2
    have sd6 : a / 60 < 6 := Nat.le_of_ble_eq_true c1.1
    have dd6 : b.toNat / 60 < 6 := Nat.le_of_ble_eq_true c2.1
    have ea := Nat.eq_of_beq_eq_true c3.1
    have eb := zb_ieq_of c4.1
    have l3 := zc_lo0_ok he c5.1
    have l5 := zc_lo0_ok he c6.1
    have l6 := zc_lo0_ok he c7.1
    have z1 := zc_hi60_ok he c8.1
    have z2 := zc_hi60_ok he c9.1
    have t1 := zc_ls_ok he c10.1
    have t2 := zc_ls_ok he c11.1
    have hso : ρ (74 + a / 60) = ρ (74 + b.toNat / 60) := by
      have c12 := c11.2
      rw [Bool.or_eq_true] at c12
      rcases c12 with c12 | c12
      · rw [Nat.eq_of_beq_eq_true c12]
      · have c12 := an_and c12
        have r1 := zc_entk_ok he c12.1
        have r2 := zc_entk_ok he c12.2
        rw [ev _ (by omega), ev _ (by omega)] at r1 r2
        omega
    refine zc_fin f1 g1 f2 g2 (fun d hd j hj hj2 => ?_)
    obtain ⟨s1, s2⟩ := zc_sm1_ok (L1 := L1) (st1 := st1) he hσ hD hsr hag hN hd (zb_every_ok a3.1 d (zb_mem6 hd))
    rw [s1] at hj2
    rw [s2]
    have ci := hCI.2 d hd j hj hj2
    show (if ρ' 5 + b ≤ ((60 * d + j : Nat) : Int) ∧ ((60 * d + j : Nat) : Int) < ρ' 5 + b + ρ' 6 then f0 (((60 * d + j : Nat) : Int) - (ρ' 5 + b) + (ρ' 3 + (a : Int))).toNat else f0 (60 * d + j)) = (if ρ' 5 + b ≤ ((60 * d + j : Nat) : Int) ∧ ((60 * d + j : Nat) : Int) < ρ' 5 + b + ρ' 6 then g0 (((60 * d + j : Nat) : Int) - (ρ' 5 + b) + (ρ' 3 + (a : Int))).toNat else g0 (60 * d + j)) ∧ (ρ (74 + d) = 0 → -128 ≤ (if ρ' 5 + b ≤ ((60 * d + j : Nat) : Int) ∧ ((60 * d + j : Nat) : Int) < ρ' 5 + b + ρ' 6 then f0 (((60 * d + j : Nat) : Int) - (ρ' 5 + b) + (ρ' 3 + (a : Int))).toNat else f0 (60 * d + j)) ∧ (if ρ' 5 + b ≤ ((60 * d + j : Nat) : Int) ∧ ((60 * d + j : Nat) : Int) < ρ' 5 + b + ρ' 6 then f0 (((60 * d + j : Nat) : Int) - (ρ' 5 + b) + (ρ' 3 + (a : Int))).toNat else f0 (60 * d + j)) ≤ 127)
    by_cases hx : ρ' 5 + b ≤ ((60 * d + j : Nat) : Int) ∧ ((60 * d + j : Nat) : Int) < ρ' 5 + b + ρ' 6
    · rw [if_pos hx, if_pos hx]
      have hdd : d = b.toNat / 60 := by omega
      obtain ⟨y', hy⟩ : ∃ y' : Nat, (y' : Int) = ((60 * d + j : Nat) : Int) - (ρ' 5 + b) + ρ' 3 := ⟨(((60 * d + j : Nat) : Int) - (ρ' 5 + b) + ρ' 3).toNat, by omega⟩
      have hsz : (y' : Int) < ρ (80 + a / 60) := by
        rw [← ev _ (by omega)]
        omega
      have ei : (((60 * d + j : Nat) : Int) - (ρ' 5 + b) + (ρ' 3 + (a : Int))).toNat = 60 * (a / 60) + y' := by omega
      have ci2 := hCI.2 (a / 60) sd6 y' (by omega) hsz
      rw [ei]
      refine ⟨ci2.1, fun hs0 => ci2.2 ?_⟩
      rw [hso, ← hdd]
      exact hs0
    · rw [if_neg hx, if_neg hx]
      exact ci
end
