/-! the reference's reader: what stands alone; all levels -/
theorem zp_bnm1 {z : Int32} (h0 : -2147483647 ≤ z.toInt) : (rf_bin 1 z (Int32.ofInt 1)).toInt = z.toInt - 1 := by
  have k := zp_k (k := 1) (by decide) (by decide)
  have hz := zb_32 z
  show (z - Int32.ofInt 1).toInt = z.toInt - 1
  rw [zb_lo32_eq, zb_hi32_eq] at hz
  rw [zb_sub' (by omega) (by omega), k]
section
variable {LL : Nat} {xs : Nat → Int32} {d : Nat} {f : Nat → Int32} {n : Nat} {fs0 : List Value}
/-- a number read -/
theorem zm_w168 {post : rf_P} (hd : 1 ≤ d) (hH : zm_H f n fs0) : ∀ (k q : Nat) (L : rf_L) (σ : rf_S) (v i : Int32) (o : Int), rf_get L 0 = some (.ref 63) → rf_get L 3 = some (.int v) → rf_get L 4 = some (.int i) → 0 ≤ i.toInt → i.toInt + (k : Int) = 4 → zm_K f n fs0 σ q (-1) o → (∀ (M : rf_L) (σ1 : rf_S) (v' i' : Int32), rf_get M 0 = some (.ref 63) → rf_get M 3 = some (.int v') → rf_get M 4 = some (.int i') → i.toInt ≤ i'.toInt → (0 < k → 48 ≤ zp_sg f n q ∧ zp_sg f n q ≤ 57 → i.toInt < i'.toInt) → (¬ (48 ≤ zp_sg f n q ∧ zp_sg f n q ≤ 57) → i'.toInt = i.toInt) → zm_K f n fs0 σ1 (zp_dg (zp_sg f n) k q) (-1) o → zb_W (rf_SA LL xs) rf_ms (rf_run (rf_SA LL xs) rf_ms d) rf_m168 229 M [] σ1 0 0 post) → zb_W (rf_SA LL xs) rf_ms (rf_run (rf_SA LL xs) rf_ms d) rf_m168 176 L [] σ 0 0 post := by
  have k4 := zp_k (k := 4) (by decide) (by decide)
  have k48 := zp_k (k := 48) (by decide) (by decide)
  have k57 := zp_k (k := 57) (by decide) (by decide)
  intro k
  induction k with
  | zero =>
    intro q L σ v i o g0 g3 g4 hi hk hK hpost
    refine zp_ld rfl g4 ?_
    refine zp_i rfl ?_
    refine zp_b26 rfl (fun h => ?_) (fun h => ?_)
    · exact hpost L σ v i g0 g3 g4 (Int.le_refl _) (fun h0 => absurd h0 (Nat.lt_irrefl 0)) (fun _ => rfl) hK
    · have h := zp_c3f h
      exfalso
      omega
  | succ k ih =>
    intro q L σ v i o g0 g3 g4 hi hk hK hpost
    refine zp_ld rfl g4 ?_
    refine zp_i rfl ?_
    refine zp_b26 rfl (fun h => ?_) (fun h => ?_)
    · have h := zp_c3t h
      exfalso
      omega
    refine zp_la rfl g0 ?_
    refine zp_cli [.ref 63] [] rfl rfl (Nat.le_of_ble_eq_true rfl) rfl rfl (Nat.le_of_ble_eq_true rfl) (zm_K_r hK _ _ _ rfl rfl) rfl rfl ?_
    refine zp_t159 hd hH hK (fun z hz => ⟨_, rfl, rfl, ?_⟩)
    refine zp_i rfl ?_
    refine zp_b26 rfl (fun h1 => ?_) (fun h1 => ?_)
    · have h1 := zp_c2t h1
      have hnd : ¬ (48 ≤ zp_sg f n q ∧ zp_sg f n q ≤ 57) := by omega
      exact hpost L σ v i g0 g3 g4 (Int.le_refl _) (fun _ h0 => absurd h0 hnd) (fun _ => rfl) (by rw [zp_dgn hnd]; exact hK)
    have h1 := zp_c2f h1
    refine zp_la rfl g0 ?_
    refine zp_cli [.ref 63] [] rfl rfl (Nat.le_of_ble_eq_true rfl) rfl rfl (Nat.le_of_ble_eq_true rfl) (zm_K_r hK _ _ _ rfl rfl) rfl rfl ?_
    refine zp_t159 hd hH hK (fun z2 hz2 => ⟨_, rfl, rfl, ?_⟩)
    refine zp_i rfl ?_
    refine zp_b26 rfl (fun h2 => ?_) (fun h2 => ?_)
    · have h2 := zp_c4t h2
      have hnd : ¬ (48 ≤ zp_sg f n q ∧ zp_sg f n q ≤ 57) := by omega
      exact hpost L σ v i g0 g3 g4 (Int.le_refl _) (fun _ h0 => absurd h0 hnd) (fun _ => rfl) (by rw [zp_dgn hnd]; exact hK)
    have h2 := zp_c4f h2
    have hdg : 48 ≤ zp_sg f n q ∧ zp_sg f n q ≤ 57 := by omega
    rw [zp_dgp hdg] at hpost
    refine zp_i rfl ?_
    refine zp_ld rfl g3 ?_
    refine zp_bn rfl ?_
    refine zp_la rfl g0 ?_
    refine zp_cli [.ref 63] [.int (rf_bin 2 (Int32.ofInt 10) v)] rfl rfl (Nat.le_of_ble_eq_true rfl) rfl rfl (Nat.le_of_ble_eq_true rfl) (zm_K_r hK _ _ _ rfl rfl) rfl rfl ?_
    refine zp_t159 hd hH hK (fun z3 hz3 => ⟨_, rfl, rfl, ?_⟩)
    refine zp_bn rfl ?_
    refine zp_i rfl ?_
    refine zp_bn rfl ?_
    refine zp_st rfl ?_
    refine zp_inc rfl (zp_gi (by decide) g4) ?_
    refine zm_pp rfl (zp_gr (by decide) (zp_gr (by decide) g0)) rfl rfl rfl rfl rfl hH hK (zp_sg_l (f := f) (by omega)) (fun σ1 hK1 => ?_)
    refine zp_gt rfl ?_
    have hi1 : (i + Int32.ofInt 1).toInt = i.toInt + 1 := zp_a1 (by omega) (by omega)
    exact ih (q + 1) _ σ1 _ _ o (zp_gr (by decide) (zp_gr (by decide) g0)) (zp_gi (by decide) (zb_rget_set _ _ _)) (zb_rget_set _ _ _) (by omega) (by omega) hK1 (fun M σ2 v' i' m0 m3 m4 n1 n2 n3 hK2 => hpost M σ2 v' i' m0 m3 m4 (by omega) (fun _ _ => by omega) (fun h0 => absurd hdg h0) hK2)
theorem zm_e168 {post : rf_P} {σ : rf_S} {q : Nat} {ft o : Int} (hH : zm_H f n fs0) (hK : zm_K f n fs0 σ q ft o) (hpost : ∀ (w : Int32) (σ1 : rf_S) (zz : Int32), zz.toInt = o → zm_K f n fs0 σ1 q ft (rf_bin 1 zz (Int32.ofInt 1)).toInt → post (some (.int w)) σ1) : ∀ (L : rf_L) (z v : Int32), rf_get L 0 = some (.ref 63) → rf_get L 1 = some (.int z) → rf_get L 2 = some (.int v) → zb_W (rf_SA LL xs) rf_ms (rf_run (rf_SA LL xs) rf_ms d) rf_m168 104 L [] σ 0 0 post := by
  intro L z v g0 g1 g2
  refine zm_po rfl g0 rfl rfl rfl rfl rfl hH hK (fun zz σ1 hzz hK1 => ?_)
  have e144 : ∀ w : Int32, zb_W (rf_SA LL xs) rf_ms (rf_run (rf_SA LL xs) rf_ms d) rf_m168 144 L [.int w] σ1 0 0 post := fun w => zp_rt rfl rfl (hpost w σ1 zz hzz hK1)
  have e135 : zb_W (rf_SA LL xs) rf_ms (rf_run (rf_SA LL xs) rf_ms d) rf_m168 135 L [] σ1 0 0 post := zp_ld rfl g2 (zp_b25 rfl (fun _ => zp_i rfl (e144 _)) (fun _ => zp_i rfl (zp_gt rfl (e144 _))))
  have e124 : zb_W (rf_SA LL xs) rf_ms (rf_run (rf_SA LL xs) rf_ms d) rf_m168 124 L [] σ1 0 0 post := zp_ld rfl g1 (zp_i rfl (zp_b26 rfl (fun _ => e135) (fun _ => zp_ld rfl g2 (zp_ng rfl (zp_gt rfl (e144 _))))))
  exact zp_ld rfl g1 (zp_i rfl (zp_b26 rfl (fun _ => e124) (fun _ => zp_ld rfl g2 (zp_gt rfl (e144 _)))))
theorem zm_t168 (hH : zm_H f n fs0) (hE : zm_R LL xs f n fs0 0 d) (hO : zm_R LL xs f n fs0 5 d) : zm_R LL xs f n fs0 5 (d + 1) := by
  intro o p σ post ho hd hK hyes hno
  have hs : ∀ p, n ≤ p → zp_sg f n p = -1 := fun p h => zp_sg_n h
  have hn := hH.1
  have hp := zm_K_p hK
  have k0 := zp_k0
  have k0' := zp_k (k := 0) (by decide) (by decide)
  have k33 := zp_k (k := 33) (by decide) (by decide)
  have k45 := zp_k (k := 45) (by decide) (by decide)
  have k40 := zp_k (k := 40) (by decide) (by decide)
  have k41 := zp_k (k := 41) (by decide) (by decide)
  have k6 := zp_k (k := 6) (by decide) (by decide)
  rw [show zm_mb 5 = 168 from rfl]
  refine zp_en (mi := rf_m168) rfl (Nat.le_of_ble_eq_true rfl) ?_
  refine zp_la rfl rfl ?_
  refine zm_gft rfl hH hK (fun y hy => ?_)
  refine zp_b25 rfl (fun h => ?_) (fun h => ?_)
  rotate_left
  · have h := zp_c2f h
    exfalso
    omega
  · refine zp_la rfl rfl ?_
    refine zp_cli [.ref 63] [] rfl rfl (Nat.le_of_ble_eq_true rfl) rfl rfl (Nat.le_of_ble_eq_true rfl) (zm_K_r hK _ _ _ rfl rfl) rfl rfl ?_
    refine zp_t159 (by omega) hH hK (fun z hz => ⟨_, rfl, rfl, ?_⟩)
    refine zp_st rfl ?_
    have g0 : rf_get (rf_set (lv_args 0 [.ref 63]) 1 (.int z)) 0 = some (.ref 63) := rfl
    have g1 : rf_get (rf_set (lv_args 0 [.ref 63]) 1 (.int z)) 1 = some (.int z) := rfl
    generalize rf_set (lv_args 0 [.ref 63]) 1 (.int z) = L at g0 g1 ⊢
    have e145 : ¬ (zp_sg f n p = 40 ∨ zp_sg f n p = 33 ∨ zp_sg f n p = 45) → zb_W (rf_SA LL xs) rf_ms (rf_run (rf_SA LL xs) rf_ms d) rf_m168 145 L [] σ 0 0 post := by
      intro hx
      refine zp_ld rfl g1 ?_
      refine zp_cli [.int z] [] rfl rfl (Nat.le_of_ble_eq_true rfl) rfl rfl (Nat.le_of_ble_eq_true rfl) rfl rfl rfl ?_
      refine zp_t167 (by omega) (fun y2 hy2 => ⟨_, rfl, rfl, ?_⟩)
      refine zp_st rfl ?_
      refine zp_ld rfl (zb_rget_set _ _ _) ?_
      refine zp_b25 rfl (fun h2 => ?_) (fun h2 => ?_)
      · have h2 := zp_c2t h2
        have hnm : ¬ zp_nm (zp_sg f n p) := by
          rcases hy2 with e | e
          · exfalso
            omega
          · intro e2
            refine e.1 ?_
            have e3 : z.toInt = zp_sg f n p := by
              rcases hz with e4 | e4
              · exact e4
              · exfalso
                unfold zp_nm at e2
                omega
            rw [e3]
            exact e2
        refine zp_i rfl ?_
        refine zp_st rfl ?_
        refine zp_i rfl ?_
        refine zp_st rfl ?_
        refine zm_w168 (by omega) hH 4 p _ σ (Int32.ofInt 0) (Int32.ofInt 0) o (zp_gr (by decide) (zp_gr (by decide) (zp_gr (by decide) g0))) (zp_gi (by decide) (zb_rget_set _ _ _)) (zb_rget_set _ _ _) (by rw [k0']; decide) (by rw [k0']; decide) hK (fun M σ1 v' i' m0 m3 m4 n1 n2 n3 hK1 => ?_)
        by_cases hdg : 48 ≤ zp_sg f n p ∧ zp_sg f n p ≤ 57
        · have n4 := n2 (by decide) hdg
          rw [zp_Qd hs hn hp hdg] at hyes hno
          refine zp_ld rfl m4 ?_
          refine zp_b25 rfl (fun h3 => ?_) (fun h3 => ?_)
          · refine zp_ld rfl m3 ?_
            exact zp_rt rfl rfl (hyes σ1 _ rfl hK1)
          · have h3 := zp_c1f h3
            exfalso
            omega
        · have n4 := n3 hdg
          rw [zp_Qx hs hn hp hdg hnm (Or.inl hx)] at hyes hno
          rw [zp_dgn hdg] at hK1
          refine zp_ld rfl m4 ?_
          refine zp_b25 rfl (fun h3 => ?_) (fun h3 => ?_)
          · have h3 := zp_c1t h3
            exfalso
            omega
          · refine zp_la rfl m0 ?_
            refine zp_cli [.ref 63] [] rfl rfl (Nat.le_of_ble_eq_true rfl) rfl rfl (Nat.le_of_ble_eq_true rfl) (zm_K_r hK1 _ _ _ rfl rfl) rfl rfl ?_
            refine zp_t160 (by omega) hH hK1 (fun σ2 hK2 => ⟨_, rfl, zm_K_l hK1 hK2, ?_⟩)
            rw [if_pos (by decide)] at hK2
            refine zp_gt rfl ?_
            exact zp_rt rfl rfl (hno σ2 _ _ _ (fun e => by cases e) hK2)
      · have h2 := zp_c2f h2
        have hnm : zp_nm (zp_sg f n p) ∧ y2.toInt ≤ 5 := by
          rcases hy2 with e | e
          · have e3 : z.toInt = zp_sg f n p := by
              rcases hz with e4 | e4
              · exact e4
              · exfalso
                have e5 := e.1
                unfold zp_nm at e5
                omega
            rw [← e3]
            exact ⟨e.1, e.2.2⟩
          · exfalso
            omega
        rw [zp_Qm hs hn hp hnm.1] at hyes hno
        refine zm_pp rfl (zp_gr (by decide) g0) rfl rfl rfl rfl rfl hH hK (zp_sg_l (f := f) (fun e => by
          have e2 := hnm.1
          rw [e] at e2
          unfold zp_nm at e2
          omega)) (fun σ1 hK1 => ?_)
        refine zp_la rfl (zp_gr (by decide) g0) ?_
        refine zm_gfs rfl hK1 hH.2.2.2.2.2.1 (by decide) (by decide) (by decide) ?_
        refine zp_ld rfl (zb_rget_set _ _ _) ?_
        obtain ⟨-, a1, t1, w1, x1, x2, -, -, -, -, -, -, -, h72⟩ := id hK1
        refine zp_ix rfl rfl h72 (zp_ixs (by omega) (by omega)) ?_
        exact zp_rt rfl rfl (hyes σ1 _ rfl hK1)
    have e32 : (zp_sg f n p = 40 ∨ zp_sg f n p = 33 ∨ zp_sg f n p = 45) → z.toInt = zp_sg f n p → zb_W (rf_SA LL xs) rf_ms (rf_run (rf_SA LL xs) rf_ms d) rf_m168 32 L [] σ 0 0 post := by
      intro hx hzp
      have hnd : ¬ (48 ≤ zp_sg f n p ∧ zp_sg f n p ≤ 57) := by omega
      have hnm : ¬ zp_nm (zp_sg f n p) := by
        unfold zp_nm
        omega
      refine zp_la rfl g0 ?_
      refine zm_gop rfl hH hK (fun w hw => ?_)
      refine zp_i rfl ?_
      refine zp_b26 rfl (fun h1 => ?_) (fun h1 => ?_)
      · have h1 := zp_c1t h1
        have ho6 : o < 6 := by omega
        refine zm_po rfl g0 rfl rfl rfl rfl rfl hH hK (fun zz σ1 hzz hK1 => ?_)
        have eo : (rf_bin 0 zz (Int32.ofInt 1)).toInt = ((o + 1 : Nat) : Int) := by
          rw [zp_bn1 (by omega) (by omega)]
          omega
        rw [eo] at hK1
        refine zm_pp rfl g0 rfl rfl rfl rfl rfl hH hK1 (zp_sg_l (f := f) (by omega)) (fun σ2 hK2 => ?_)
        have hp1 := zm_K_p hK2
        have back : ∀ (zz : Int32), zz.toInt = ((o + 1 : Nat) : Int) → (rf_bin 1 zz (Int32.ofInt 1)).toInt = (o : Int) := fun zz hz2 => by
          rw [zp_bnm1 (by omega)]
          omega
        refine zp_ld rfl g1 ?_
        refine zp_i rfl ?_
        refine zp_b26 rfl (fun h2 => ?_) (fun h2 => ?_)
        · have h2 := zp_c1t h2
          rw [zp_Qu hs hn hp (by omega) ho6] at hyes hno
          have e83 : ∀ (v : Int32) (σ3 : rf_S) (q : Nat) (ft o' : Int), zm_K f n fs0 σ3 q ft o' → (∀ (w : Int32) (σ4 : rf_S) (zz : Int32), zz.toInt = o' → zm_K f n fs0 σ4 q ft (rf_bin 1 zz (Int32.ofInt 1)).toInt → post (some (.int w)) σ4) → zb_W (rf_SA LL xs) rf_ms (rf_run (rf_SA LL xs) rf_ms d) rf_m168 83 L [.int v] σ3 0 0 post := by
            intro v σ3 q ft o' hK3 hp3
            refine zp_st rfl ?_
            refine zp_ld rfl (zp_gi (by decide) g1) ?_
            refine zp_i rfl ?_
            refine zp_b26 rfl (fun h3 => ?_) (fun h3 => ?_)
            · exact zm_e168 hH hK3 hp3 _ z v (zp_gr (by decide) g0) (zp_gi (by decide) g1) (zb_rget_set _ _ _)
            · have h3 := zp_c1f h3
              exfalso
              omega
          refine zp_la rfl g0 ?_
          refine zp_cli [.ref 63] [] rfl rfl (Nat.le_of_ble_eq_true rfl) rfl rfl (Nat.le_of_ble_eq_true rfl) (zm_K_r hK2 _ _ _ rfl rfl) rfl rfl ?_
          have hrun := hO (o + 1) (p + 1) σ2
          rw [show zm_mb 5 = 168 from rfl] at hrun
          refine hrun _ (by omega) (by omega) hK2 (fun σ3 v h3 hK3 => ⟨_, rfl, zm_K_l hK2 hK3, ?_⟩) (fun σ3 v q' o' h3 hK3 => ⟨_, rfl, zm_K_l hK2 hK3, ?_⟩)
          · exact e83 v σ3 _ _ _ hK3 (fun w4 σ4 z4 hz4 hK4 => hyes σ4 w4 h3 (by rw [back z4 hz4] at hK4; exact hK4))
          · exact e83 v σ3 _ _ _ hK3 (fun w4 σ4 z4 hz4 hK4 => hno σ4 w4 _ _ h3 hK4)
        · have h2 := zp_c1f h2
          rw [zp_Qp hs hn hp (by omega) ho6] at hyes hno
          refine zp_la rfl g0 ?_
          refine zp_cli [.ref 63] [] rfl rfl (Nat.le_of_ble_eq_true rfl) rfl rfl (Nat.le_of_ble_eq_true rfl) (zm_K_r hK2 _ _ _ rfl rfl) rfl rfl ?_
          have hrun := hE (o + 1) (p + 1) σ2
          rw [show zm_mb 0 = 162 from rfl] at hrun
          refine hrun _ (by omega) (by omega) hK2 (fun σ3 v h3 hK3 => ⟨_, rfl, zm_K_l hK2 hK3, ?_⟩) (fun σ3 v q' o' h3 hK3 => ⟨_, rfl, zm_K_l hK2 hK3, ?_⟩)
          · rw [if_pos h3] at hyes hno
            refine zp_gt rfl ?_
            refine zp_st rfl ?_
            refine zp_ld rfl (zp_gi (by decide) g1) ?_
            refine zp_i rfl ?_
            refine zp_b26 rfl (fun h4 => ?_) (fun h4 => ?_)
            · have h4 := zp_c1t h4
              exfalso
              omega
            refine zp_la rfl (zp_gr (by decide) g0) ?_
            refine zp_i rfl ?_
            refine zp_cli [.ref 63, .int (Int32.ofInt 41)] [] rfl rfl (Nat.le_of_ble_eq_true rfl) rfl rfl (Nat.le_of_ble_eq_true rfl) (zm_K_r hK3 _ _ _ rfl rfl) rfl rfl ?_
            refine zp_t161 (by omega) hH hK3 (by rw [k41]; decide) (fun he σ4 hK4 => ⟨_, rfl, zm_K_l hK3 hK4, ?_⟩) (fun he => ⟨_, rfl, rfl, ?_⟩)
            · rw [k41] at he
              rw [if_pos he] at hyes hno
              refine zp_b25 rfl (fun h5 => ?_) (fun h5 => ?_)
              · exact zm_e168 hH hK4 (fun w5 σ5 z5 hz5 hK5 => hyes σ5 w5 rfl (by rw [back z5 hz5] at hK5; exact hK5)) _ z v (zp_gr (by decide) g0) (zp_gi (by decide) g1) (zb_rget_set _ _ _)
              · exact absurd (zp_c1f h5) (by decide)
            · rw [k41] at he
              rw [if_neg he] at hyes hno
              refine zp_b25 rfl (fun h5 => ?_) (fun h5 => ?_)
              · exact absurd (by decide) (zp_c1t h5)
              · refine zp_la rfl (zp_gr (by decide) g0) ?_
                refine zp_cli [.ref 63] [] rfl rfl (Nat.le_of_ble_eq_true rfl) rfl rfl (Nat.le_of_ble_eq_true rfl) (zm_K_r hK3 _ _ _ rfl rfl) rfl rfl ?_
                refine zp_t160 (by omega) hH hK3 (fun σ4 hK4 => ⟨_, rfl, zm_K_l hK3 hK4, ?_⟩)
                rw [if_pos (by decide)] at hK4
                exact zp_rt rfl rfl (hno σ4 _ _ _ (fun e => by cases e) hK4)
          · rw [if_neg h3] at hyes hno
            refine zp_gt rfl ?_
            refine zp_st rfl ?_
            refine zp_ld rfl (zp_gi (by decide) g1) ?_
            refine zp_i rfl ?_
            refine zp_b26 rfl (fun h4 => ?_) (fun h4 => ?_)
            · have h4 := zp_c1t h4
              exfalso
              omega
            refine zp_la rfl (zp_gr (by decide) g0) ?_
            refine zp_i rfl ?_
            refine zp_cli [.ref 63, .int (Int32.ofInt 41)] [] rfl rfl (Nat.le_of_ble_eq_true rfl) rfl rfl (Nat.le_of_ble_eq_true rfl) (zm_K_r hK3 _ _ _ rfl rfl) rfl rfl ?_
            refine zp_t161f (by omega) hH hK3 (by omega) ⟨_, rfl, rfl, ?_⟩
            refine zp_b25 rfl (fun h5 => ?_) (fun h5 => ?_)
            · exact absurd (by decide) (zp_c1t h5)
            · refine zp_la rfl (zp_gr (by decide) g0) ?_
              refine zp_cli [.ref 63] [] rfl rfl (Nat.le_of_ble_eq_true rfl) rfl rfl (Nat.le_of_ble_eq_true rfl) (zm_K_r hK3 _ _ _ rfl rfl) rfl rfl ?_
              refine zp_t160 (by omega) hH hK3 (fun σ4 hK4 => ⟨_, rfl, zm_K_l hK3 hK4, ?_⟩)
              rw [if_neg (by omega)] at hK4
              exact zp_rt rfl rfl (hno σ4 _ _ _ (fun e => by cases e) hK4)
      · have h1 := zp_c1f h1
        rw [zp_Qx hs hn hp hnd hnm (Or.inr (by omega))] at hyes hno
        refine zp_la rfl g0 ?_
        refine zp_cli [.ref 63] [] rfl rfl (Nat.le_of_ble_eq_true rfl) rfl rfl (Nat.le_of_ble_eq_true rfl) (zm_K_r hK _ _ _ rfl rfl) rfl rfl ?_
        refine zp_t160 (by omega) hH hK (fun σ1 hK1 => ⟨_, rfl, zm_K_l hK hK1, ?_⟩)
        rw [if_pos (by decide)] at hK1
        exact zp_rt rfl rfl (hno σ1 _ _ _ (fun e => by cases e) hK1)
    refine zp_ld rfl g1 ?_
    refine zp_i rfl ?_
    refine zp_b26 rfl (fun h1 => ?_) (fun h1 => ?_)
    · have h1 := zp_c0t h1
      exact e32 (by omega) (by omega)
    have h1 := zp_c0f h1
    refine zp_ld rfl g1 ?_
    refine zp_i rfl ?_
    refine zp_b26 rfl (fun h2 => ?_) (fun h2 => ?_)
    · have h2 := zp_c0t h2
      exact e32 (by omega) (by omega)
    have h2 := zp_c0f h2
    refine zp_ld rfl g1 ?_
    refine zp_i rfl ?_
    refine zp_b26 rfl (fun h3 => ?_) (fun h3 => ?_)
    · have h3 := zp_c1t h3
      exact e145 (by omega)
    · have h3 := zp_c1f h3
      exact e32 (by omega) (by omega)
theorem zm_rd (hH : zm_H f n fs0) : ∀ d m, m ≤ 5 → zm_R LL xs f n fs0 m d := by
  intro d
  induction d with
  | zero => intro m hm o p σ post ho hd; exact absurd hd (by omega)
  | succ d ih =>
    intro m hm
    have h6 : m = 0 ∨ m = 1 ∨ m = 2 ∨ m = 3 ∨ m = 4 ∨ m = 5 := by omega
    rcases h6 with rfl | rfl | rfl | rfl | rfl | rfl
    · exact zm_t162 hH rfl (ih 1 (by decide))
    · exact zm_t163 hH rfl (ih 2 (by decide))
    · exact zm_t164 hH rfl (ih 3 (by decide))
    · exact zm_t165 hH rfl (ih 4 (by decide))
    · exact zm_t166 hH rfl (ih 5 (by decide))
    · exact zm_t168 hH (ih 0 (by decide)) (ih 5 (by decide))
end
