/-! a turn of the law: calls by hand and by boxes at once -/
section
variable {LL : Nat} {xs : Nat → Int32} {ms : List rf_M} {C : zb_K} {mi : rf_M} {pc : Nat} {L : rf_L} {σ : rf_S} {u v : Nat} {post : rf_P} {st : List Value} {a : Int} {b c x nxt : Nat} {sw : List (Int × Nat)}
theorem zq_sc {z : Int32} (hE : mi.2.2 pc = some (32, a, b, c, x, nxt, sw)) (hix : rf_ixs z LL = true) (h : zb_W (rf_SA LL xs) ms C mi nxt L (.int (xs z.toNatClampNeg) :: st) σ u v post) : zb_W (rf_SA LL xs) ms C mi pc L (.int z :: .ref 1000002 :: st) σ u v post := zp_s (pc' := nxt) (L' := L) (st' := .int (xs z.toNatClampNeg) :: st) (σ' := σ) hE (by decide) (by
  have hS : rf_isS 1000002 = true := rfl
  have hI : rf_ix 1000002 = 2 := rfl
  simp only [rf_stp, hS, cond_true]
  rw [hI]
  simp only [rf_SA, hix, cond_true]) h
theorem zq_pop {w : Int32} (hE : mi.2.2 pc = some (23, a, b, c, x, nxt, sw)) (h : zb_W (rf_SA LL xs) ms C mi nxt L st σ u v post) : zb_W (rf_SA LL xs) ms C mi pc L (.int w :: st) σ u v post := zp_s hE (by decide) rfl h
theorem zq_cl {d : Nat} {mj : rf_M} (As rest : List Value) (hE : mi.2.2 pc = some (46, a, b, c, x, nxt, sw)) (hm : ms[b]? = some mj) (hlen : c ≤ st.length) (hA : (st.take c).reverse = As) (hr : st.drop c = rest) (hcat : rf_cat rest ≤ 8) (hrecv : rf_recv mj.2.1.1 mj.2.1.2.2.2.2.1 As σ = true) (h4 : mj.2.1.2.2.1 = 0) (h5 : mj.2.1.2.2.2.1 = 0) (hu : u ≤ mi.2.1.2.2.1) (hv : v ≤ mi.2.1.2.2.2.1) (h6 : rf_run (rf_SA LL xs) ms d b As σ (fun rv σ1 => ∃ z : Int32, rv = some (.int z) ∧ σ1.length = σ.length ∧ zb_W (rf_SA LL xs) ms (rf_run (rf_SA LL xs) ms d) mi nxt L (.int z :: rest) σ1 u v post)) : zb_W (rf_SA LL xs) ms (rf_run (rf_SA LL xs) ms d) mi pc L st σ u v post := by
  subst hA
  subst hr
  refine zb_W_call (rf_run_det _ _ _) (fun b As σ p q => rf_run_post _ _ _ b As σ p q) hE rfl hm hlen hcat hrecv (by rw [h4]; exact hu) (by rw [h5]; exact hv) ?_
  rw [h4, h5]
  refine rf_run_post _ _ _ _ _ _ _ _ (fun rv σ1 h => ?_) h6
  obtain ⟨z, e, h1, h2⟩ := h
  subst e
  exact ⟨h1, h2⟩
end
/-- an end in boxes -/
def zq_ty (rs : zb_R) (N : Nat) (ρ : Nat → Int) (wl : List Nat) (σ : rf_S) : rf_P := fun rv σ1 => ∃ r, r ∈ rs ∧ ∃ M ρ', N ≤ M ∧ zb_ag N ρ ρ' ∧ zb_en M ρ' r.1 ∧ zb_gl M ρ' r.2.1.toList rv.toList ∧ zb_ss zb_tT 90 r.2.2 M ρ' σ1 ∧ ∀ q, zb_has wl q = false → σ1[q]? = σ[q]?
section
variable {LL : Nat} {xs : Nat → Int32} {ρ : Nat → Int} {L' : rf_L} {σ : rf_S} {u v : Nat} {post : rf_P}
theorem zq_sok (hLL : LL < 2 ^ 31) (wl : List Nat) (ρ : Nat → Int) (σ : rf_S) : zb_sok zb_tT 90 (zb_has wl) 74 ρ σ (zq_lS wl) (rf_run (rf_SA LL xs) rf_ms (900 + 1)) := zb_S_ok (ns := 66) (d1 := 900) (T0 := 8) zb_hloc zb_hlc zb_nX_ok (fun b p hp => by
    have hp : p ∈ zb_SP b := by
      rcases zb_tr hp with ⟨-, h⟩ | ⟨-, h⟩
      · exact zb_no h
      · exact h
    exact ⟨(zb_iall (xs := xs) hLL b p hp).1, zb_sums hLL _ b p hp⟩) (by
    show _ = (0 * ρ 0 + 909 : Int)
    omega)
theorem zq_cov (hLL : LL < 2 ^ 31) (hs : zb_hs LL xs 74 ρ) (wl : List Nat) (σ : rf_S) : zb_cov zb_tT 90 (zb_has wl) 74 ρ σ (zq_K wl) (rf_run (rf_SA LL xs) rf_ms (900 + 8)) := zb_run_ok (by decide) hLL zb_hloc (fun _ => hs) (zq_sok hLL wl ρ σ) 8
theorem zq_typed (hLL : LL < 2 ^ 31) (hs : zb_hs LL xs 74 ρ) {wl : List Nat} {b N : Nat} {env : zb_N} {As : List an_V} {D : zb_D} {rs : zb_R} {As' : List Value} (h : zq_K wl b env As D = some rs) (he : zb_en N ρ env) (hA : zb_gl N ρ As As') (hσ : zb_ss zb_tT 90 D N ρ σ) (hN : 74 ≤ N) : rf_run (rf_SA LL xs) rf_ms (900 + 8) b As' σ (zq_ty rs N ρ wl σ) := zq_cov hLL hs wl σ b env As D rs As' σ _ N ρ h he hA hσ ⟨hN, zb_ag_refl _ _, fun _ _ => rfl⟩ (fun r hr M ρ' h1 h2 h3 rv σ1 h4 h5 h6 => ⟨r, hr, M, ρ', h1, h2, h3, h4, h5, h6⟩)
theorem zq_go (hLL : LL < 2 ^ 31) {z N : Nat} {wl : List Nat} {c : zb_C} (ht : zq_tst z wl c = true) (he : zb_en N ρ c.1) (hL : zb_gL N ρ c.2.2.1 L') (hst : zb_gl N ρ c.2.2.2.1 []) (hσ : zb_ss zb_tT 90 c.2.2.2.2 N ρ σ) (hN : 74 ≤ N) (hs : zb_hs LL xs 74 ρ) (hu : u ≤ 600000) (hv : v ≤ 7302250)
    (hnext : ∀ ρ1 L1 σ1, zb_am zb_tT 90 zb_LH 74 ρ1 L1 [] σ1 → ρ1 0 = ρ 0 → ρ1 7 = ρ 7 + 6 → (z = 1 → ρ1 12 = ρ 12) → (z = 2 → ρ1 12 ≤ 0) → (∀ q, zb_has wl q = false → σ1[q]? = σ[q]?) → zb_W (rf_SA LL xs) rf_ms (rf_run (rf_SA LL xs) rf_ms (900 + 8)) rf_law 18 L1 [] σ1 u v post) : zb_W (rf_SA LL xs) rf_ms (rf_run (rf_SA LL xs) rf_ms (900 + 8)) rf_law c.2.1 L' [] σ u v post := by
  unfold zq_tst at ht
  split at ht
  case h_2 => cases ht
  case h_1 cs hcs =>
  refine zb_body_ok (wr := zb_has wl) (n0 := 74) (ρ0 := ρ) (σ0 := σ) (sl := (true, [])) (by decide) hLL zb_hloc (fun _ => hs) (fun b As σ p q => rf_run_post _ _ _ b As σ p q) (rf_run_det _ _ _) (zq_cov hLL hs wl σ) hu hv 3000 true c cs N ρ L' [] σ hcs he hL hst hσ ⟨hN, zb_ag_refl _ _, fun _ _ => rfl⟩ (fun e he => ?_) (fun e he M ρ' L1 st1 σ1 b1 b2 b3 b4 b5 b6 b7 b8 => ?_)
  · have g := List.all_eq_true.mp ht _ he
    cases g
  · have g := List.all_eq_true.mp ht _ he
    have g := an_and (show (Nat.beq e.2.1 18 && (match zb_fitA 1 e zb_LH with
      | some ds => (match zb_nth ds 6 with
        | some (.inr (0, k, c)) => Nat.beq k.toNat 7 && zb_ieq c 6
        | _ => false) && zq_ex z e.1 ds
      | none => false)) = true from g)
    have e18 : e.2.1 = 18 := Nat.eq_of_beq_eq_true g.1
    have g2 := g.2
    split at g2
    case h_2 => cases g2
    case h_1 ds hds =>
    have g2 := an_and g2
    have g4 := g2.1
    have g5 := g2.2
    split at g4
    case h_2 => cases g4
    case h_1 k c0 hk =>
    have g3 := an_and g4
    have ek := Nat.eq_of_beq_eq_true g3.1
    have ec := zb_ieq_of g3.2
    subst ec
    rw [zb_nth_eq] at hk
    obtain ⟨hd, hm, hl⟩ := zb_fitA_ok (ns := 66) zb_hloc zb_hlc rfl (by omega : 1 ≤ M) b1 b2 b3 b4 hds
    rw [e18]
    have est := zb_gl_nil hm.2.2.1
    subst est
    have e12 : ∀ w, zb_cw zb_locT L1 [] σ1 (1, 4) = some (.int w) → zb_rA zb_locT 1 ρ' zb_LH.2.2.2.2 L1 [] σ1 12 = w.toInt := fun w w1 => by
      unfold zb_rA
      rw [if_neg (by decide)]
      show zb_int ((some ((1, 4) : Nat × Nat)).bind (zb_cw zb_locT L1 [] σ1)) = _
      show zb_int (zb_cw zb_locT L1 [] σ1 (1, 4)) = _
      rw [w1]
      rfl
    refine hnext _ L1 σ1 hm ?_ ?_ (fun hz => ?_) (fun hz => ?_) b7
    · rw [zb_rA_lt (by decide)]
      exact b6 0 (by omega)
    · obtain ⟨w, w1, w2⟩ := hd.2.2 6 (0, 3) _ rfl hk
      obtain ⟨-, x, rfl, hx⟩ := w2
      have e7 : zb_rA zb_locT 1 ρ' zb_LH.2.2.2.2 L1 [] σ1 7 = x.toInt := by
        unfold zb_rA
        rw [if_neg (by decide)]
        show zb_int ((some ((0, 3) : Nat × Nat)).bind (zb_cw zb_locT L1 [] σ1)) = _
        show zb_int (zb_cw zb_locT L1 [] σ1 (0, 3)) = _
        rw [w1]
        rfl
      rw [e7, hx, ek, b6 7 (by omega)]
    · subst hz
      have g6 : (match zb_nth ds 11 with
        | some (.inr (0, k, c)) => Nat.beq k.toNat 12 && zb_ieq c 0
        | _ => false) = true := g5
      split at g6
      case h_2 => cases g6
      case h_1 k2 c2 hk2 =>
      have g7 := an_and g6
      have ek2 := Nat.eq_of_beq_eq_true g7.1
      have ec2 := zb_ieq_of g7.2
      rw [zb_nth_eq] at hk2
      obtain ⟨w, w1, w2⟩ := hd.2.2 11 (1, 4) _ rfl hk2
      obtain ⟨-, x, rfl, hx⟩ := w2
      rw [e12 x w1, hx, ek2, ec2, b6 12 (by omega)]
      omega
    · subst hz
      have g6 : (match zb_nth ds 11 with
        | some d => (match zb_pi e.1 d with
          | some q => zb_le q.2.2 0
          | none => false)
        | none => false) = true := g5
      split at g6
      case h_2 => cases g6
      case h_1 d hk2 =>
      split at g6
      case h_2 => cases g6
      case h_1 q hq =>
      rw [zb_nth_eq] at hk2
      obtain ⟨w, w1, w2⟩ := hd.2.2 11 (1, 4) _ rfl hk2
      obtain ⟨x, rfl, hx⟩ := zb_pi_ok b1 hq w2
      have := zb_le_of g6
      rw [e12 x w1]
      have := hx.2.1
      omega
theorem zb_turn (hLL : LL < 2 ^ 31) {t : Nat} (ht : zb_ltst t = true) (ham : zb_am zb_tT 90 zb_LC 74 ρ L' [] σ) (hC : zq_CS ρ σ) (hs : zb_hs LL xs 74 ρ) (hu : u ≤ 600000) (hv : v ≤ 7302250)
    (hnext : ∀ ρ1 L1 σ1, zb_am zb_tT 90 zb_LH 74 ρ1 L1 [] σ1 → ρ1 0 = ρ 0 → ρ1 7 = ρ 7 + 6 → zq_CS ρ1 σ1 → zb_W (rf_SA LL xs) rf_ms (rf_run (rf_SA LL xs) rf_ms (900 + 8)) rf_law 18 L1 [] σ1 u v post) : zb_W (rf_SA LL xs) rf_ms (rf_run (rf_SA LL xs) rf_ms (900 + 8)) rf_law t L' [] σ u v post := by
  obtain ⟨f, g, c1, c2, c3⟩ := hC
  refine zq_go (c := zb_lc t) hLL ht ham.1 ham.2.1 trivial ham.2.2.2 (Nat.le_refl _) hs hu hv (fun ρ1 L1 σ1 h1 h2 h3 h4 _ h6 => hnext ρ1 L1 σ1 h1 h2 h3 ⟨f, g, ?_, ?_, fun j hj => c3 j ?_⟩)
  · rw [h6 12 (by decide +kernel)]
    exact c1
  · rw [h6 70 (by decide +kernel)]
    exact c2
  · rw [h4 rfl] at hj
    exact hj
/-- what the law holds at a case's start -/
theorem zq_loc (ham : zb_am zb_tT 90 zb_LC 74 ρ L' [] σ) : rf_get L' 0 = some (.ref 1000002) ∧ rf_get L' 1 = some (.ref 0) ∧ rf_get L' 2 = some (.ref 63) ∧ ∃ i : Int32, rf_get L' 3 = some (.int i) ∧ i.toInt = ρ 7 := by
  obtain ⟨a1, a2, a3, a4⟩ := ham
  obtain ⟨w0, g0, e0⟩ := a2 0 (.inl (.ref 1000002)) rfl
  obtain ⟨w1, g1, e1⟩ := a2 1 (.inl (.ref 0)) rfl
  obtain ⟨w2, g2, e2⟩ := a2 2 (.inl (.ref 63)) rfl
  obtain ⟨w3, g3, e3⟩ := a2 3 (.inr (0, .ofNat 7, .ofNat 0)) rfl
  have e0 : w0 = .ref 1000002 := e0
  have e1 : w1 = .ref 0 := e1
  have e2 : w2 = .ref 63 := e2
  subst e0
  subst e1
  subst e2
  obtain ⟨-, i, rfl, hi⟩ := e3
  have hi : i.toInt = ρ 7 + 0 := hi
  exact ⟨g0, g1, g2, i, g3, by omega⟩
theorem zq_fd2 {f g : Nat → Int32} {n m1 m2 : Nat} {z : Int32} {f1 g1 : Nat → Int32} (h1 : zp_fed f n z f1 m1) (h2 : zp_fed g n z g1 m2) (hj : ∀ j, j < n → f j = g j ∧ 0 ≤ (f j).toInt ∧ (f j).toInt ≤ 255) : ∀ j, j < m1 → f1 j = g1 j ∧ 0 ≤ (f1 j).toInt ∧ (f1 j).toInt ≤ 255 := by
  intro j hjm
  rcases h1 with ⟨a1, a2, a3, a4, a5⟩ | ⟨a1, a2, a3⟩
  · rcases h2 with ⟨b1, b2, b3, b4, b5⟩ | ⟨b1, b2, b3⟩
    · rw [a5, b5]
      by_cases e : j = n
      · subst e
        have u1 : upd f j z j = z := if_pos rfl
        have u2 : upd g j z j = z := if_pos rfl
        rw [u1, u2]
        exact ⟨rfl, a1, a2⟩
      · have u1 : upd f n z j = f j := if_neg e
        have u2 : upd g n z j = g j := if_neg e
        rw [u1, u2]
        exact hj j (by omega)
    · exact absurd ⟨a1, a2, a3⟩ b1
  · rcases h2 with ⟨b1, b2, b3, b4, b5⟩ | ⟨b1, b2, b3⟩
    · exact absurd ⟨b1, b2, b3⟩ a1
    · rw [a3, b3]
      exact hj j (by omega)
set_option maxHeartbeats 1000000 in
theorem zq_c6 (hLL : LL < 2 ^ 31) (ham : zb_am zb_tT 90 zb_LC 74 ρ L' [] σ) (hC : zq_CS ρ σ) (hs : zb_hs LL xs 74 ρ) (hu : u ≤ 600000) (hv : v ≤ 7302250)
    (hnext : ∀ ρ1 L1 σ1, zb_am zb_tT 90 zb_LH 74 ρ1 L1 [] σ1 → ρ1 0 = ρ 0 → ρ1 7 = ρ 7 + 6 → zq_CS ρ1 σ1 → zb_W (rf_SA LL xs) rf_ms (rf_run (rf_SA LL xs) rf_ms (900 + 8)) rf_law 18 L1 [] σ1 u v post) : zb_W (rf_SA LL xs) rf_ms (rf_run (rf_SA LL xs) rf_ms (900 + 8)) rf_law 398 L' [] σ u v post := by
  obtain ⟨g0, g1, g2, i, g3, hi⟩ := zq_loc ham
  obtain ⟨a1, a2, a3, a4⟩ := ham
  obtain ⟨n, f, g, r, fs0, fsA, fs9, en, hH, hK, hM, o9, o91, hsg, hj⟩ := zq_pre a1 a4 hC
  obtain ⟨xn, x1, x2⟩ := hH.2.2.1
  obtain ⟨yn, y1, y2⟩ := hM.2.2.2.2.2.2.2.1
  have s1 := hs.2.1
  have s2 := hs.2.2.1
  have s3 := hs.2.2.2.1
  have hz := hs.2.2.2.2 1 (by decide)
  have hi1 : (rf_bin 0 i (Int32.ofInt 1)).toInt = ρ 7 + 1 := by
    rw [zp_bn1 (by omega) (by omega)]
    omega
  have hin : (rf_bin 0 i (Int32.ofInt 1)).toNatClampNeg = (ρ 7).toNat + 1 := zp_nat (by omega)
  have hix : rf_ixs (rf_bin 0 i (Int32.ofInt 1)) LL = true := zp_ixs (by omega) (by omega)
  have hz2 : (xs (rf_bin 0 i (Int32.ofInt 1)).toNatClampNeg).toInt = ρ 2 := by
    rw [hin]
    exact hz.symm
  have Hy := zq_t6
  unfold zq_dbl at Hy
  split at Hy
  case h_2 => cases Hy
  case h_1 rs1 hrs1 =>
  refine zp_la rfl g1 ?_
  refine zp_la rfl g0 ?_
  refine zp_ld rfl g3 ?_
  refine zp_i rfl ?_
  refine zp_bn rfl ?_
  refine zq_sc rfl hix ?_
  generalize xs (rf_bin 0 i (Int32.ofInt 1)).toNatClampNeg = z at hz2 ⊢
  refine zq_cl [.ref 0, .int z] [] rfl rfl (Nat.le_of_ble_eq_true rfl) rfl rfl (Nat.le_of_ble_eq_true rfl) (zp_recv o9) rfl rfl hu hv ?_
  have T1 := zq_typed (As' := [.ref 0, .int z]) hLL hs hrs1 a1 ⟨rfl, ⟨by decide, z, rfl, by show z.toInt = ρ 2 + 0; omega⟩, trivial⟩ a4 (Nat.le_refl _)
  have H1 : rf_run (rf_SA LL xs) rf_ms (900 + 8) 102 [.ref 0, .int z] σ (fun rv σ1 => ∃ (w : Int32) (f1 : Nat → Int32) (m : Nat), rv = some (.int w) ∧ σ1.length = 90 ∧ σ1[12]? = some (.inl (0, 120, .inl f1)) ∧ zp_fed f n z f1 m ∧ zq_f0 σ1 m) := zp_t102 (by decide) hK.1 o9 o91 hK.2.1 hK.2.2.1 hH.2.1 x1 x2 hH.1 hH.2.2.2.1 (fun w σ1 f1 m q1 q2 q3 q4 => ⟨w, f1, m, rfl, q1, q2, q3, q4⟩)
  refine rf_run_post _ _ _ _ _ _ _ _ (fun rv σ1 hp => ?_) (zp_cj _ _ _ _ _ _ T1 H1)
  obtain ⟨⟨r1, hr1, M1, ρ1, n1, ag1, en1, gl1, ss1, fr1⟩, w1, f1, m1, e1, l1, t12, fed1, fs1, xm, u1, u2, u3⟩ := hp
  subst e1
  refine ⟨w1, rfl, by rw [l1, hK.1], ?_⟩
  have Hz := zb_every_ok Hy r1 hr1
  split at Hz
  case h_2 => cases Hz
  case h_1 rs2 hrs2 =>
  have hs1 : zb_hs LL xs 74 ρ1 := zb_hs_ext (Nat.le_refl 74) ag1 hs
  refine zq_pop rfl ?_
  refine zp_la rfl g2 ?_
  refine zp_la rfl g0 ?_
  refine zp_ld rfl g3 ?_
  refine zp_i rfl ?_
  refine zp_bn rfl ?_
  refine zq_sc rfl hix ?_
  have hz3 : xs (rf_bin 0 i (Int32.ofInt 1)).toNatClampNeg = z := by
    apply Int32.toInt_inj.mp
    rw [hz2, hin]
    exact hz.symm
  rw [hz3]
  have k63 : σ1[63]? = σ[63]? := fr1 63 (by decide +kernel)
  have k70 : σ1[70]? = σ[70]? := fr1 70 (by decide +kernel)
  refine zq_cl [.ref 63, .int z] [] rfl rfl (Nat.le_of_ble_eq_true rfl) rfl rfl (Nat.le_of_ble_eq_true rfl) (zp_recv (k63.trans hM.2.1)) rfl rfl hu hv ?_
  have T2 := zq_typed (As' := [.ref 63, .int z]) hLL hs1 hrs2 en1 ⟨rfl, ⟨by show 2 < M1; omega, z, rfl, by show z.toInt = ρ1 2 + 0; rw [ag1 2 (by decide)]; omega⟩, trivial⟩ ss1 n1
  have H2 : rf_run (rf_SA LL xs) rf_ms (900 + 8) 158 [.ref 63, .int z] σ1 (fun rv σ2 => ∃ (w : Int32) (g1 : Nat → Int32) (m : Nat), rv = some (.int w) ∧ σ2.length = 90 ∧ σ2[70]? = some (.inl (0, 120, .inl g1)) ∧ zp_fed g n z g1 m) := zp_t158 (by decide) l1 (k63.trans hM.2.1) (k70.trans hM.2.2.1) hM.2.2.2.2.2.2.1 y1 y2 hM.2.2.2.2.2.1 hM.2.2.2.2.2.2.2.2.1 (fun w σ2 g1 m q1 q2 q3 => ⟨w, g1, m, rfl, q1, q2, q3⟩)
  refine rf_run_post _ _ _ _ _ _ _ _ (fun rv σ2 hp => ?_) (zp_cj _ _ _ _ _ _ T2 H2)
  obtain ⟨⟨r2, hr2, M2, ρ2, n2, ag2, en2, gl2, ss2, fr2⟩, w2, h1, m2, e2, l2, t70, fed2⟩ := hp
  subst e2
  refine ⟨w2, rfl, by rw [l2, l1], ?_⟩
  have Ht := zb_every_ok Hz r2 hr2
  refine zq_pop rfl ?_
  refine zp_gt rfl ?_
  refine zq_go (c := (r2.1, 1254, zb_LC.2.1, [], r2.2.2)) hLL Ht en2 (zb_gL_ext (by omega : 74 ≤ M2) (fun k hk => (ag2 k (by omega)).trans (ag1 k hk)) a2) trivial ss2 (by omega) (zb_hs_ext (Nat.le_refl 74) (fun k hk => ag2 k (by omega)) hs1) hu hv (fun ρ3 L3 σ3 q1 q2 q3 _ _ q6 => hnext ρ3 L3 σ3 q1 ?_ ?_ ?_)
  · rw [q2, ag2 0 (by omega), ag1 0 (by omega)]
  · rw [q3, ag2 7 (by omega), ag1 7 (by omega)]
  · have c12 : σ3[12]? = some (.inl (0, 120, .inl f1)) := by
      rw [q6 12 rfl, fr2 12 (by decide +kernel)]
      exact t12
    have c70 : σ3[70]? = some (.inl (0, 120, .inl h1)) := by
      rw [q6 70 rfl]
      exact t70
    have c11 : σ3[11]? = some (.inr (4, fs1)) := by
      rw [q6 11 rfl, fr2 11 (by decide +kernel)]
      exact u1
    obtain ⟨fs3, p1, p2⟩ := zq_obj q1.2.2.2 (r := 11) (ci := 4) rfl
    obtain ⟨x0, v1, v2⟩ := zq_int (c := 0) p2 rfl zq_D4h
    rw [c11] at p1
    cases p1
    rw [u2] at v1
    cases v1
    have v2 : xm.toInt = ρ3 12 + 0 := v2
    exact ⟨f1, h1, c12, c70, fun j hj3 => zq_fd2 fed1 fed2 hj j (by omega)⟩
set_option maxHeartbeats 1000000 in
theorem zq_c7 (hLL : LL < 2 ^ 31) (ham : zb_am zb_tT 90 zb_LC 74 ρ L' [] σ) (hC : zq_CS ρ σ) (hs : zb_hs LL xs 74 ρ) (hu : u ≤ 600000) (hv : v ≤ 7302250)
    (hnext : ∀ ρ1 L1 σ1, zb_am zb_tT 90 zb_LH 74 ρ1 L1 [] σ1 → ρ1 0 = ρ 0 → ρ1 7 = ρ 7 + 6 → zq_CS ρ1 σ1 → zb_W (rf_SA LL xs) rf_ms (rf_run (rf_SA LL xs) rf_ms (900 + 8)) rf_law 18 L1 [] σ1 u v post) : zb_W (rf_SA LL xs) rf_ms (rf_run (rf_SA LL xs) rf_ms (900 + 8)) rf_law 421 L' [] σ u v post := by
  obtain ⟨g0, g1, g2, i, g3, hi⟩ := zq_loc ham
  obtain ⟨a1, a2, a3, a4⟩ := ham
  obtain ⟨n, f, g, r, fs0, fsA, fs9, en, hH, hK, hM, o9, o91, hsg, hj⟩ := zq_pre a1 a4 hC
  have Hy := zq_t7
  unfold zq_dbl at Hy
  split at Hy
  case h_2 => cases Hy
  case h_1 rs1 hrs1 =>
  refine zp_la rfl g1 ?_
  refine zq_cl [.ref 0] [] rfl rfl (Nat.le_of_ble_eq_true rfl) rfl rfl (Nat.le_of_ble_eq_true rfl) (zp_recv o9) rfl rfl hu hv ?_
  have T1 := zq_typed (As' := [.ref 0]) hLL hs hrs1 a1 ⟨rfl, trivial⟩ a4 (Nat.le_refl _)
  have H1 : rf_run (rf_SA LL xs) rf_ms (900 + 8) 103 [.ref 0] σ (fun rv σ1 => ∃ w : Int32, rv = some (.int w) ∧ σ1.length = 90 ∧ w.toInt = zp_ans (zp_sg f n)) := zp_t103 (by decide) o9 o91 hH hK (fun w σ1 q1 q2 => ⟨w, rfl, q1, q2⟩)
  refine rf_run_post _ _ _ _ _ _ _ _ (fun rv σ1 hp => ?_) (zp_cj _ _ _ _ _ _ T1 H1)
  obtain ⟨⟨r1, hr1, M1, ρ1, n1, ag1, en1, gl1, ss1, fr1⟩, w1, e1, l1, an1⟩ := hp
  subst e1
  refine ⟨w1, rfl, by rw [l1, hK.1], ?_⟩
  have Hz := zb_every_ok Hy r1 hr1
  split at Hz
  case h_2 => cases Hz
  case h_1 rs2 hrs2 =>
  have hs1 : zb_hs LL xs 74 ρ1 := zb_hs_ext (Nat.le_refl 74) ag1 hs
  refine zp_la rfl g2 ?_
  have k63 : σ1[63]? = σ[63]? := fr1 63 (by decide +kernel)
  have k70 : σ1[70]? = σ[70]? := fr1 70 (by decide +kernel)
  have k71 : σ1[71]? = σ[71]? := fr1 71 (by decide +kernel)
  have k72 : σ1[72]? = σ[72]? := fr1 72 (by decide +kernel)
  refine zq_cl [.ref 63] [.int w1] rfl rfl (Nat.le_of_ble_eq_true rfl) rfl rfl (Nat.le_of_ble_eq_true rfl) (zp_recv (k63.trans hM.2.1)) rfl rfl hu hv ?_
  have T2 := zq_typed (As' := [.ref 63]) hLL hs1 hrs2 en1 ⟨rfl, trivial⟩ ss1 n1
  have hM1 : zm_K0 g n fsA σ1 := by
    obtain ⟨b1, b2, b3, ⟨q1, b4⟩, ⟨q2, b5⟩, b6⟩ := hM
    exact ⟨l1, k63.trans b2, k70.trans b3, ⟨q1, k71.trans b4⟩, ⟨q2, k72.trans b5⟩, b6⟩
  have H2 : rf_run (rf_SA LL xs) rf_ms (900 + 8) 170 [.ref 63] σ1 (fun rv σ2 => ∃ w : Int32, rv = some (.int w) ∧ σ2.length = 90 ∧ w.toInt = zp_ans (zp_sg g n)) := zp_t170 (by decide) hM1 (fun w σ2 q1 q2 => ⟨w, rfl, q1, q2⟩)
  refine rf_run_post _ _ _ _ _ _ _ _ (fun rv σ2 hp => ?_) (zp_cj _ _ _ _ _ _ T2 H2)
  obtain ⟨⟨r2, hr2, M2, ρ2, n2, ag2, en2, gl2, ss2, fr2⟩, w2, e2, l2, an2⟩ := hp
  subst e2
  refine ⟨w2, rfl, by rw [l2, l1], ?_⟩
  have Ht := zb_every_ok Hz r2 hr2
  refine zp_b26 rfl (fun hc => ?_) (fun hc => ?_)
  · refine zq_go (c := (r2.1, 1254, zb_LC.2.1, [], r2.2.2)) hLL Ht en2 (zb_gL_ext (by omega : 74 ≤ M2) (fun k hk => (ag2 k (by omega)).trans (ag1 k hk)) a2) trivial ss2 (by omega) (zb_hs_ext (Nat.le_refl 74) (fun k hk => ag2 k (by omega)) hs1) hu hv (fun ρ3 L3 σ3 q1 q2 q3 _ q5 q6 => hnext ρ3 L3 σ3 q1 ?_ ?_ ?_)
    · rw [q2, ag2 0 (by omega), ag1 0 (by omega)]
    · rw [q3, ag2 7 (by omega), ag1 7 (by omega)]
    · obtain ⟨f3, p12⟩ := zq_row (r := 12) q1.2.2.2 rfl
      obtain ⟨g3', p70⟩ := zq_row (r := 70) q1.2.2.2 rfl
      have := q5 rfl
      exact ⟨f3, g3', p12, p70, fun j hj3 => by omega⟩
  · exfalso
    have := zp_c0f hc
    rw [an1, an2, hsg] at this
    exact this rfl
end
