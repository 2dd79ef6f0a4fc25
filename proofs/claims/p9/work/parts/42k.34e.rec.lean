/-! the class's reader: numbers, operands, levels -/
section
variable {LL : Nat} {xs : Nat → Int32} {d : Nat} {f : Nat → Int32} {n : Nat} {fs0 : List Value} {r : Nat}
theorem zp_w36 {post : rf_P} (hd : 1 ≤ d) (hH : zp_H f n fs0 r) : ∀ (k p : Nat) (L : rf_L) (σ : rf_S) (v i : Int32), rf_get L 0 = some (.ref 11) → rf_get L 1 = some (.int v) → rf_get L 2 = some (.int i) → 0 ≤ i.toInt → i.toInt + (k : Int) = 4 → zp_K f n fs0 r σ p → (∀ σ1, zp_K f n fs0 r σ1 (zp_dg (zp_sg f n) k p) → post (some (.int (Int32.ofInt 1))) σ1) → zb_W (rf_SA LL xs) rf_ms (rf_run (rf_SA LL xs) rf_ms d) rf_m36 4 L [] σ 0 0 post := by
  have k4 := zp_k (k := 4) (by decide) (by decide)
  have k48 := zp_k (k := 48) (by decide) (by decide)
  have k57 := zp_k (k := 57) (by decide) (by decide)
  have e56 : ∀ (L : rf_L) (σ : rf_S) (v : Int32) (p : Nat), rf_get L 0 = some (.ref 11) → rf_get L 1 = some (.int v) → zp_K f n fs0 r σ p → (∀ σ1, zp_K f n fs0 r σ1 p → post (some (.int (Int32.ofInt 1))) σ1) → zb_W (rf_SA LL xs) rf_ms (rf_run (rf_SA LL xs) rf_ms d) rf_m36 56 L [] σ 0 0 post := by
    intro L σ v p g0 g1 hK hp
    refine zp_la rfl g0 ?_
    refine zp_ld rfl g1 ?_
    refine zp_clv [.ref 11, .int v] [] rfl rfl (Nat.le_of_ble_eq_true rfl) rfl rfl (Nat.le_of_ble_eq_true rfl) (zp_K_r hK _ _ _ rfl rfl) rfl rfl ?_
    refine zp_t31 hd hH hK (fun σ1 hK1 => ⟨rfl, zp_K_l hK hK1, ?_⟩)
    refine zp_i rfl ?_
    exact zp_rt rfl zp_nb1 (hp σ1 hK1)
  intro k
  induction k with
  | zero =>
    intro p L σ v i g0 g1 g2 hi0 hi hK hpost
    refine zp_ld rfl g2 ?_
    refine zp_i rfl ?_
    refine zp_b26 rfl (fun h => ?_) (fun h => ?_)
    · exact e56 L σ v p g0 g1 hK hpost
    · have h := zp_c3f h
      exfalso
      omega
  | succ k ih =>
    intro p L σ v i g0 g1 g2 hi0 hi hK hpost
    refine zp_ld rfl g2 ?_
    refine zp_i rfl ?_
    refine zp_b26 rfl (fun h => ?_) (fun h => ?_)
    · have h := zp_c3t h
      exfalso
      omega
    have h := zp_c3f h
    refine zp_la rfl g0 ?_
    refine zp_cli [.ref 11] [] rfl rfl (Nat.le_of_ble_eq_true rfl) rfl rfl (Nat.le_of_ble_eq_true rfl) (zp_K_r hK _ _ _ rfl rfl) rfl rfl ?_
    refine zp_t30 hd hH hK (fun z hz => ⟨_, rfl, rfl, ?_⟩)
    refine zp_i rfl ?_
    refine zp_b26 rfl (fun h1 => ?_) (fun h1 => ?_)
    · have h1 := zp_c2t h1
      rw [zp_dgn (by omega)] at hpost
      exact e56 L σ v p g0 g1 hK hpost
    have h1 := zp_c2f h1
    refine zp_la rfl g0 ?_
    refine zp_cli [.ref 11] [] rfl rfl (Nat.le_of_ble_eq_true rfl) rfl rfl (Nat.le_of_ble_eq_true rfl) (zp_K_r hK _ _ _ rfl rfl) rfl rfl ?_
    refine zp_t30 hd hH hK (fun z2 hz2 => ⟨_, rfl, rfl, ?_⟩)
    refine zp_i rfl ?_
    refine zp_b26 rfl (fun h2 => ?_) (fun h2 => ?_)
    · have h2 := zp_c4t h2
      rw [zp_dgn (by omega)] at hpost
      exact e56 L σ v p g0 g1 hK hpost
    have h2 := zp_c4f h2
    rw [zp_dgp (by omega)] at hpost
    refine zp_ld rfl g1 ?_
    refine zp_i rfl ?_
    refine zp_bn rfl ?_
    refine zp_la rfl g0 ?_
    refine zp_cli [.ref 11] [.int (rf_bin 2 v (Int32.ofInt 10))] rfl rfl (Nat.le_of_ble_eq_true rfl) rfl rfl (Nat.le_of_ble_eq_true rfl) (zp_K_r hK _ _ _ rfl rfl) rfl rfl ?_
    refine zp_t30 hd hH hK (fun z3 hz3 => ⟨_, rfl, rfl, ?_⟩)
    refine zp_bn rfl ?_
    refine zp_i rfl ?_
    refine zp_bn rfl ?_
    refine zp_st rfl ?_
    refine zp_pp rfl (zp_gr (by decide) g0) rfl rfl rfl rfl rfl hH hK (zp_sg_l (f := f) (by omega)) (fun σ1 hK1 => ?_)
    refine zp_inc rfl (zp_gi (by decide) g2) ?_
    refine zp_gt rfl ?_
    exact ih (p + 1) _ σ1 _ _ (zp_gr (by decide) (zp_gr (by decide) g0)) (zp_gi (by decide) (zb_rget_set _ _ _)) (zb_rget_set _ _ _) (by rw [zp_a1 (by omega) (by omega)]; omega) (by rw [zp_a1 (by omega) (by omega)]; omega) hK1 hpost
theorem zp_t36 {p : Nat} {σ : rf_S} {post : rf_P} (hd : 2 ≤ d) (hH : zp_H f n fs0 r) (hK : zp_K f n fs0 r σ p) (hpost : ∀ σ1, zp_K f n fs0 r σ1 (zp_dg (zp_sg f n) 4 p) → post (some (.int (Int32.ofInt 1))) σ1) : rf_run (rf_SA LL xs) rf_ms d 36 [.ref 11] σ post := by
  obtain ⟨d, rfl⟩ : ∃ e, d = e + 1 := ⟨d - 1, by omega⟩
  have k0 := zp_k (k := 0) (by decide) (by decide)
  refine zp_en rfl (Nat.le_of_ble_eq_true rfl) ?_
  refine zp_i rfl ?_
  refine zp_st rfl ?_
  refine zp_i rfl ?_
  refine zp_st rfl ?_
  exact zp_w36 (by omega) hH 4 p _ σ (Int32.ofInt 0) (Int32.ofInt 0) rfl rfl rfl (by rw [k0]; decide) (by rw [k0]; decide) hK hpost
def zp_RJ (LL : Nat) (xs : Nat → Int32) (f : Nat → Int32) (n : Nat) (fs0 : List Value) (r d : Nat) : Prop := ∀ (l o p : Nat) (lv op : Int32) (σ : rf_S) (post : rf_P), l ≤ 5 → o ≤ 6 → 8 * (6 - o) + (6 - l) + 4 ≤ d → lv.toInt = (l : Int) → op.toInt = (o : Int) → zp_K f n fs0 r σ p → (∀ σ1, zp_K f n fs0 r σ1 (zp_Q (zp_sg f n) l p o).2 → post (some (.int (zp_bi (zp_Q (zp_sg f n) l p o).1))) σ1) → rf_run (rf_SA LL xs) rf_ms d 33 [.ref 11, .int lv, .int op] σ post
def zp_RO (LL : Nat) (xs : Nat → Int32) (f : Nat → Int32) (n : Nat) (fs0 : List Value) (r d : Nat) : Prop := ∀ (o p : Nat) (op : Int32) (σ : rf_S) (post : rf_P), o ≤ 6 → 8 * (6 - o) + 4 ≤ d → op.toInt = (o : Int) → zp_K f n fs0 r σ p → (∀ σ1, zp_K f n fs0 r σ1 (zp_Q (zp_sg f n) 5 p o).2 → post (some (.int (zp_bi (zp_Q (zp_sg f n) 5 p o).1))) σ1) → rf_run (rf_SA LL xs) rf_ms d 34 [.ref 11, .int op] σ post
theorem zp_w33 {l o : Nat} {lv op : Int32} (hH : zp_H f n fs0 r) (hl : l ≤ 4) (ho : o ≤ 6) (hR : zp_RJ LL xs f n fs0 r d) (hd : 8 * (6 - o) + (5 - l) + 4 ≤ d) (hlv : lv.toInt = (l : Int)) (hop : op.toInt = (o : Int)) : ∀ (k q : Nat) (L : rf_L) (σ : rf_S) (most i : Int32) (post : rf_P), n - q < k → rf_get L 0 = some (.ref 11) → rf_get L 1 = some (.int lv) → rf_get L 2 = some (.int op) → rf_get L 3 = some (.int most) → rf_get L 4 = some (.int i) → (l = 2 → most.toInt = 1 ∧ i.toInt = 0) → (¬ l = 2 → most.toInt = 120 ∧ 0 ≤ i.toInt ∧ i.toInt + 1 ≤ (q : Int)) → zp_K f n fs0 r σ q → (∀ σ1, zp_K f n fs0 r σ1 (zp_Q (zp_sg f n) (6 + l) q o).2 → post (some (.int (zp_bi (zp_Q (zp_sg f n) (6 + l) q o).1))) σ1) → zb_W (rf_SA LL xs) rf_ms (rf_run (rf_SA LL xs) rf_ms d) rf_m33 39 L [] σ 0 0 post := by
  have hs : ∀ p, n ≤ p → zp_sg f n p = -1 := fun p h => zp_sg_n h
  have hn := hH.1
  intro k
  induction k with
  | zero => intro q L σ most i post hk; exact absurd hk (Nat.not_lt_zero _)
  | succ k ih =>
    intro q L σ most i post hk g0 g1 g2 g3 g4 h2 h2' hK hpost
    have hq := zp_K_p hK
    have hlt : i.toInt < most.toInt := by
      by_cases e2 : l = 2
      · have := h2 e2
        omega
      · have := h2' e2
        omega
    refine zp_ld rfl g4 ?_
    refine zp_ld rfl g3 ?_
    refine zp_b26 rfl (fun h => ?_) (fun h => ?_)
    · have h := zp_c3t h
      exfalso
      omega
    refine zp_la rfl g0 ?_
    refine zp_cli [.ref 11] [] rfl rfl (Nat.le_of_ble_eq_true rfl) rfl rfl (Nat.le_of_ble_eq_true rfl) (zp_K_r hK _ _ _ rfl rfl) rfl rfl ?_
    refine zp_t30 (by omega) hH hK (fun z hz => ⟨_, rfl, rfl, ?_⟩)
    refine zp_cli [.int z] [] rfl rfl (Nat.le_of_ble_eq_true rfl) rfl rfl (Nat.le_of_ble_eq_true rfl) rfl rfl rfl ?_
    refine zp_t37 (by omega) (fun y hy => ⟨_, rfl, rfl, ?_⟩)
    refine zp_ld rfl g1 ?_
    refine zp_b26 rfl (fun h3 => ?_) (fun h3 => ?_)
    · have h3 := zp_c1t h3
      have hne : ¬ zp_lv (zp_sg f n q) = l := fun e => h3 (by
        rw [hy, hz, hlv]
        unfold zp_lvi
        rw [if_neg (by omega)]
        omega)
      rw [zp_Qn hs hn hq hl hne] at hpost
      refine zp_i rfl ?_
      exact zp_rt rfl zp_nb1 (hpost σ hK)
    have h3 := zp_c1f h3
    have heq : zp_lv (zp_sg f n q) = l := by
      rw [hy, hz, hlv] at h3
      unfold zp_lvi at h3
      by_cases h9 : zp_lv (zp_sg f n q) = 9
      · rw [if_pos h9] at h3
        omega
      · rw [if_neg h9] at h3
        omega
    have hqn : q < n := zp_sg_l (f := f) (fun e => by
      rw [e] at heq
      have h9 : zp_lv (-1) = 9 := by decide
      omega)
    rw [zp_Qj hs hn hq hl heq] at hpost
    refine zp_la rfl g0 ?_
    refine zp_cli [.ref 11] [] rfl rfl (Nat.le_of_ble_eq_true rfl) rfl rfl (Nat.le_of_ble_eq_true rfl) (zp_K_r hK _ _ _ rfl rfl) rfl rfl ?_
    refine zp_t30 (by omega) hH hK (fun z2 hz2 => ⟨_, rfl, rfl, ?_⟩)
    refine zp_st rfl ?_
    refine zp_pp rfl (zp_gr (by decide) g0) rfl rfl rfl rfl rfl hH hK hqn (fun σ1 hK1 => ?_)
    refine zp_la rfl (zp_gr (by decide) g0) ?_
    refine zp_ld rfl (zp_gi (by decide) g1) ?_
    refine zp_i rfl ?_
    refine zp_bn rfl ?_
    refine zp_ld rfl (zp_gi (by decide) g2) ?_
    refine zp_cli [.ref 11, .int (rf_bin 0 lv (Int32.ofInt 1)), .int op] [] rfl rfl (Nat.le_of_ble_eq_true rfl) rfl rfl (Nat.le_of_ble_eq_true rfl) (zp_K_r hK1 _ _ _ rfl rfl) rfl rfl ?_
    have hQ := zp_Q_ok hs (m := l + 1) (o := o) (zp_K_p hK1) (by omega)
    refine hR (l + 1) o (q + 1) _ _ σ1 _ (by omega) ho (by omega) (by rw [zp_bn1 (by omega) (by omega)]; omega) hop hK1 (fun σ2 hK2 => ⟨_, rfl, zp_K_l hK1 hK2, ?_⟩)
    refine zp_b25 rfl (fun h4 => ?_) (fun h4 => ?_)
    · have h4 := zp_bi_t (zp_c1t h4)
      rw [if_pos h4] at hpost
      have hgt := hQ.2.2 h4 (by omega)
      refine zp_la rfl (zp_gr (by decide) g0) ?_
      refine zp_ld rfl (zb_rget_set _ _ _) ?_
      refine zp_ng rfl ?_
      refine zp_clv [.ref 11, .int (-z2)] [] rfl rfl (Nat.le_of_ble_eq_true rfl) rfl rfl (Nat.le_of_ble_eq_true rfl) (zp_K_r hK2 _ _ _ rfl rfl) rfl rfl ?_
      refine zp_t31 (by omega) hH hK2 (fun σ3 hK3 => ⟨rfl, zp_K_l hK2 hK3, ?_⟩)
      refine zp_inc rfl (zp_gi (by decide) g4) ?_
      refine zp_gt rfl ?_
      by_cases e2 : l = 2
      · rw [if_pos e2] at hpost
        have := h2 e2
        refine zp_ld rfl (zb_rget_set _ _ _) ?_
        refine zp_ld rfl (zp_gi (by decide) (zp_gi (by decide) g3)) ?_
        refine zp_b26 rfl (fun h5 => ?_) (fun h5 => ?_)
        · refine zp_i rfl ?_
          exact zp_rt rfl zp_nb1 (hpost σ3 hK3)
        · have h5 := zp_c3f h5
          rw [zp_a1 (by omega) (by omega)] at h5
          exfalso
          omega
      · rw [if_neg e2] at hpost
        have := h2' e2
        exact ih _ _ σ3 most _ post (by omega) (zp_gr (by decide) (zp_gr (by decide) g0)) (zp_gi (by decide) (zp_gi (by decide) g1)) (zp_gi (by decide) (zp_gi (by decide) g2)) (zp_gi (by decide) (zp_gi (by decide) g3)) (zb_rget_set _ _ _) (fun e => absurd e e2) (fun _ => by rw [zp_a1 (by omega) (by omega)]; omega) hK3 hpost
    · have h4 := zp_bi_f (zp_c1f h4)
      rw [if_neg h4] at hpost
      refine zp_i rfl ?_
      exact zp_rt rfl zp_nb0 (hpost σ2 hK2)
theorem zp_rj (hH : zp_H f n fs0 r) (hJ : zp_RJ LL xs f n fs0 r d) (hO : zp_RO LL xs f n fs0 r d) : zp_RJ LL xs f n fs0 r (d + 1) := by
  intro l o p lv op σ post hl ho hd hlv hop hK hpost
  have hs : ∀ p, n ≤ p → zp_sg f n p = -1 := fun p h => zp_sg_n h
  have hn := hH.1
  have hp := zp_K_p hK
  have k4 := zp_k (k := 4) (by decide) (by decide)
  have k2 := zp_k (k := 2) (by decide) (by decide)
  have k1 := zp_k (k := 1) (by decide) (by decide)
  have k0 := zp_k (k := 0) (by decide) (by decide)
  have k120 := zp_k (k := 120) (by decide) (by decide)
  refine zp_en rfl (Nat.le_of_ble_eq_true rfl) ?_
  refine zp_ld rfl rfl ?_
  refine zp_i rfl ?_
  refine zp_b26 rfl (fun h => ?_) (fun h => ?_)
  · have h := zp_c5t h
    have hl4 : l ≤ 4 := by omega
    refine zp_la rfl rfl ?_
    refine zp_ld rfl rfl ?_
    refine zp_i rfl ?_
    refine zp_bn rfl ?_
    refine zp_ld rfl rfl ?_
    refine zp_cli [.ref 11, .int (rf_bin 0 lv (Int32.ofInt 1)), .int op] [] rfl rfl (Nat.le_of_ble_eq_true rfl) rfl rfl (Nat.le_of_ble_eq_true rfl) (zp_K_r hK _ _ _ rfl rfl) rfl rfl ?_
    have hQ := zp_Q_ok hs (m := l + 1) (o := o) hp (by omega)
    rw [zp_Ql hs hn hp hl4] at hpost
    refine hJ (l + 1) o p _ _ σ _ (by omega) ho (by omega) (by rw [zp_bn1 (by omega) (by omega)]; omega) hop hK (fun σ1 hK1 => ⟨_, rfl, zp_K_l hK hK1, ?_⟩)
    refine zp_b25 rfl (fun h1 => ?_) (fun h1 => ?_)
    · have h1 := zp_bi_t (zp_c1t h1)
      rw [if_pos h1] at hpost
      have hgt := hQ.2.2 h1 (by omega)
      refine zp_ld rfl rfl ?_
      refine zp_i rfl ?_
      refine zp_b26 rfl (fun h2 => ?_) (fun h2 => ?_)
      · have h2 := zp_c1t h2
        refine zp_i rfl ?_
        refine zp_st rfl ?_
        refine zp_i rfl ?_
        refine zp_st rfl ?_
        exact zp_w33 hH hl4 ho hJ (by omega) hlv hop _ _ _ σ1 (Int32.ofInt 120) (Int32.ofInt 0) post (Nat.lt_succ_self _) rfl rfl rfl rfl rfl (fun e => by omega) (fun _ => by omega) hK1 hpost
      · have h2 := zp_c1f h2
        refine zp_i rfl ?_
        refine zp_gt rfl ?_
        refine zp_st rfl ?_
        refine zp_i rfl ?_
        refine zp_st rfl ?_
        exact zp_w33 hH hl4 ho hJ (by omega) hlv hop _ _ _ σ1 (Int32.ofInt 1) (Int32.ofInt 0) post (Nat.lt_succ_self _) rfl rfl rfl rfl rfl (fun _ => by omega) (fun e => by omega) hK1 hpost
    · have h1 := zp_bi_f (zp_c1f h1)
      rw [if_neg h1] at hpost
      refine zp_i rfl ?_
      exact zp_rt rfl zp_nb0 (hpost σ1 hK1)
  · have h := zp_c5f h
    have e5 : l = 5 := by omega
    subst e5
    refine zp_la rfl rfl ?_
    refine zp_ld rfl rfl ?_
    refine zp_cli [.ref 11, .int op] [] rfl rfl (Nat.le_of_ble_eq_true rfl) rfl rfl (Nat.le_of_ble_eq_true rfl) (zp_K_r hK _ _ _ rfl rfl) rfl rfl ?_
    refine hO o p op σ _ ho (by omega) hop hK (fun σ1 hK1 => ⟨_, rfl, zp_K_l hK hK1, ?_⟩)
    exact zp_rt rfl zp_nb (hpost σ1 hK1)
theorem zp_ro (hH : zp_H f n fs0 r) (hJ : zp_RJ LL xs f n fs0 r d) (hO : zp_RO LL xs f n fs0 r d) : zp_RO LL xs f n fs0 r (d + 1) := by
  intro o p op σ post ho hd hop hK hpost
  have hs : ∀ p, n ≤ p → zp_sg f n p = -1 := fun p h => zp_sg_n h
  have hn := hH.1
  have hp := zp_K_p hK
  have k48 := zp_k (k := 48) (by decide) (by decide)
  have k57 := zp_k (k := 57) (by decide) (by decide)
  have k40 := zp_k (k := 40) (by decide) (by decide)
  have k33 := zp_k (k := 33) (by decide) (by decide)
  have k45 := zp_k (k := 45) (by decide) (by decide)
  have k6 := zp_k (k := 6) (by decide) (by decide)
  have k0 := zp_k0
  have k0' := zp_k (k := 0) (by decide) (by decide)
  refine zp_en rfl (Nat.le_of_ble_eq_true rfl) ?_
  refine zp_la rfl rfl ?_
  refine zp_cli [.ref 11] [] rfl rfl (Nat.le_of_ble_eq_true rfl) rfl rfl (Nat.le_of_ble_eq_true rfl) (zp_K_r hK _ _ _ rfl rfl) rfl rfl ?_
  refine zp_t30 (by omega) hH hK (fun z hz => ⟨_, rfl, rfl, ?_⟩)
  refine zp_st rfl ?_
  have L0 : rf_get (rf_set (lv_args 0 [.ref 11, .int op]) 2 (.int z)) 0 = some (.ref 11) := rfl
  have L1 : rf_get (rf_set (lv_args 0 [.ref 11, .int op]) 2 (.int z)) 1 = some (.int op) := rfl
  have L2 : rf_get (rf_set (lv_args 0 [.ref 11, .int op]) 2 (.int z)) 2 = some (.int z) := rfl
  generalize rf_set (lv_args 0 [.ref 11, .int op]) 2 (.int z) = L at L0 L1 L2 ⊢
  -- no digit
  have e22 : ¬ (48 ≤ zp_sg f n p ∧ zp_sg f n p ≤ 57) → zb_W (rf_SA LL xs) rf_ms (rf_run (rf_SA LL xs) rf_ms d) rf_m34 22 L [] σ 0 0 post := by
    intro hnd
    refine zp_ld rfl L2 ?_
    refine zp_cli [.int z] [] rfl rfl (Nat.le_of_ble_eq_true rfl) rfl rfl (Nat.le_of_ble_eq_true rfl) rfl rfl rfl ?_
    refine zp_t38 (by omega) (fun y hy => ⟨_, rfl, rfl, ?_⟩)
    refine zp_b25 rfl (fun h => ?_) (fun h => ?_)
    · have h := zp_c2t h
      have hnm : ¬ zp_nm (zp_sg f n p) := by
        rcases hy with hy | hy
        · exfalso
          omega
        · rw [hz] at hy
          exact hy.1
      -- no sign that leads on, or too deep
      have e75 : (¬ (zp_sg f n p = 40 ∨ zp_sg f n p = 33 ∨ zp_sg f n p = 45) ∨ 6 ≤ o) → zb_W (rf_SA LL xs) rf_ms (rf_run (rf_SA LL xs) rf_ms d) rf_m34 75 L [] σ 0 0 post := by
        intro hx
        rw [zp_Qx hs hn hp hnd hnm hx] at hpost
        refine zp_i rfl ?_
        exact zp_rt rfl zp_nb0 (hpost σ hK)
      have e69 : (zp_sg f n p = 40 ∨ zp_sg f n p = 33 ∨ zp_sg f n p = 45) → zb_W (rf_SA LL xs) rf_ms (rf_run (rf_SA LL xs) rf_ms d) rf_m34 69 L [] σ 0 0 post := by
        intro hx
        refine zp_ld rfl L1 ?_
        refine zp_i rfl ?_
        refine zp_b26 rfl (fun h1 => ?_) (fun h1 => ?_)
        · have h1 := zp_c2t h1
          have ho6 : o < 6 := by omega
          refine zp_pp rfl L0 rfl rfl rfl rfl rfl hH hK (zp_sg_l (f := f) (by omega)) (fun σ1 hK1 => ?_)
          have hp1 := zp_K_p hK1
          refine zp_ld rfl L2 ?_
          refine zp_i rfl ?_
          refine zp_b26 rfl (fun h2 => ?_) (fun h2 => ?_)
          · have h2 := zp_c1t h2
            rw [zp_Qu hs hn hp (by omega) ho6] at hpost
            refine zp_la rfl L0 ?_
            refine zp_ld rfl L1 ?_
            refine zp_i rfl ?_
            refine zp_bn rfl ?_
            refine zp_cli [.ref 11, .int (rf_bin 0 op (Int32.ofInt 1))] [] rfl rfl (Nat.le_of_ble_eq_true rfl) rfl rfl (Nat.le_of_ble_eq_true rfl) (zp_K_r hK1 _ _ _ rfl rfl) rfl rfl ?_
            refine hO (o + 1) (p + 1) _ σ1 _ (by omega) (by omega) (by rw [zp_bn1 (by omega) (by omega)]; omega) hK1 (fun σ2 hK2 => ⟨_, rfl, zp_K_l hK1 hK2, ?_⟩)
            refine zp_b25 rfl (fun h3 => ?_) (fun h3 => ?_)
            · have h3 := zp_bi_t (zp_c1t h3)
              rw [h3] at hpost
              have e143 : ∀ (w : Int32), zb_W (rf_SA LL xs) rf_ms (rf_run (rf_SA LL xs) rf_ms d) rf_m34 143 L [.int w, .ref 11] σ2 0 0 post := by
                intro w
                refine zp_clv [.ref 11, .int w] [] rfl rfl (Nat.le_of_ble_eq_true rfl) rfl rfl (Nat.le_of_ble_eq_true rfl) (zp_K_r hK2 _ _ _ rfl rfl) rfl rfl ?_
                refine zp_t31 (by omega) hH hK2 (fun σ3 hK3 => ⟨rfl, zp_K_l hK2 hK3, ?_⟩)
                refine zp_i rfl ?_
                exact zp_rt rfl zp_nb1 (hpost σ3 hK3)
              refine zp_la rfl L0 ?_
              refine zp_ld rfl L2 ?_
              refine zp_i rfl ?_
              refine zp_b26 rfl (fun h4 => ?_) (fun h4 => ?_)
              · refine zp_i rfl ?_
                exact e143 _
              · refine zp_i rfl ?_
                refine zp_gt rfl ?_
                exact e143 _
            · have h3 := zp_bi_f (zp_c1f h3)
              rw [Bool.not_eq_true] at h3
              rw [h3] at hpost
              refine zp_i rfl ?_
              exact zp_rt rfl zp_nb0 (hpost σ2 hK2)
          · have h2 := zp_c1f h2
            rw [zp_Qp hs hn hp (by omega) ho6] at hpost
            refine zp_la rfl L0 ?_
            refine zp_i rfl ?_
            refine zp_ld rfl L1 ?_
            refine zp_i rfl ?_
            refine zp_bn rfl ?_
            refine zp_cli [.ref 11, .int (Int32.ofInt 0), .int (rf_bin 0 op (Int32.ofInt 1))] [] rfl rfl (Nat.le_of_ble_eq_true rfl) rfl rfl (Nat.le_of_ble_eq_true rfl) (zp_K_r hK1 _ _ _ rfl rfl) rfl rfl ?_
            refine hJ 0 (o + 1) (p + 1) _ _ σ1 _ (by omega) (by omega) (by omega) k0' (by rw [zp_bn1 (by omega) (by omega)]; omega) hK1 (fun σ2 hK2 => ⟨_, rfl, zp_K_l hK1 hK2, ?_⟩)
            refine zp_b25 rfl (fun h3 => ?_) (fun h3 => ?_)
            · have h3 := zp_bi_f (zp_c0t h3)
              rw [if_neg h3] at hpost
              refine zp_i rfl ?_
              exact zp_rt rfl zp_nb0 (hpost σ2 hK2)
            · have h3 := zp_bi_t (zp_c0f h3)
              rw [if_pos h3] at hpost
              refine zp_la rfl L0 ?_
              refine zp_cli [.ref 11] [] rfl rfl (Nat.le_of_ble_eq_true rfl) rfl rfl (Nat.le_of_ble_eq_true rfl) (zp_K_r hK2 _ _ _ rfl rfl) rfl rfl ?_
              refine zp_t35 (by omega) hH hK2 (fun h4 σ3 hK3 => ⟨_, rfl, zp_K_l hK2 hK3, ?_⟩) (fun h4 => ⟨_, rfl, rfl, ?_⟩)
              · rw [if_pos h4] at hpost
                refine zp_b25 rfl (fun h5 => ?_) (fun h5 => ?_)
                · exact absurd (zp_c0t h5) (by decide)
                · refine zp_i rfl ?_
                  refine zp_gt rfl ?_
                  exact zp_rt rfl zp_nb1 (hpost σ3 hK3)
              · rw [if_neg h4] at hpost
                refine zp_b25 rfl (fun h5 => ?_) (fun h5 => ?_)
                · refine zp_i rfl ?_
                  exact zp_rt rfl zp_nb0 (hpost σ2 hK2)
                · exact absurd (by decide) (zp_c0f h5)
        · have h1 := zp_c2f h1
          exact e75 (Or.inr (by omega))
      refine zp_ld rfl L2 ?_
      refine zp_i rfl ?_
      refine zp_b26 rfl (fun h1 => ?_) (fun h1 => ?_)
      · have h1 := zp_c0t h1
        exact e69 (by omega)
      have h1 := zp_c0f h1
      refine zp_ld rfl L2 ?_
      refine zp_i rfl ?_
      refine zp_b26 rfl (fun h2 => ?_) (fun h2 => ?_)
      · have h2 := zp_c0t h2
        exact e69 (by omega)
      have h2 := zp_c0f h2
      refine zp_ld rfl L2 ?_
      refine zp_i rfl ?_
      refine zp_b26 rfl (fun h3 => ?_) (fun h3 => ?_)
      · have h3 := zp_c1t h3
        exact e75 (Or.inl (by omega))
      · have h3 := zp_c1f h3
        exact e69 (by omega)
    · have h := zp_c2f h
      have hnm : zp_nm (zp_sg f n p) := by
        rcases hy with hy | hy
        · rw [hz] at hy
          exact hy.1
        · exfalso
          omega
      rw [zp_Qm hs hn hp hnm] at hpost
      refine zp_pp rfl L0 rfl rfl rfl rfl rfl hH hK (zp_sg_l (f := f) (fun e => by rw [e] at hnm; unfold zp_nm at hnm; omega)) (fun σ1 hK1 => ?_)
      refine zp_la rfl L0 ?_
      refine zp_i rfl ?_
      refine zp_ld rfl L2 ?_
      refine zp_cli [.int z] [.int (Int32.ofInt (-1)), .ref 11] rfl rfl (Nat.le_of_ble_eq_true rfl) rfl rfl (Nat.le_of_ble_eq_true rfl) rfl rfl rfl ?_
      refine zp_t38 (by omega) (fun y2 hy2 => ⟨_, rfl, rfl, ?_⟩)
      refine zp_bn rfl ?_
      refine zp_clv [.ref 11, .int (rf_bin 1 (Int32.ofInt (-1)) y2)] [] rfl rfl (Nat.le_of_ble_eq_true rfl) rfl rfl (Nat.le_of_ble_eq_true rfl) (zp_K_r hK1 _ _ _ rfl rfl) rfl rfl ?_
      refine zp_t31 (by omega) hH hK1 (fun σ2 hK2 => ⟨rfl, zp_K_l hK1 hK2, ?_⟩)
      refine zp_i rfl ?_
      exact zp_rt rfl zp_nb1 (hpost σ2 hK2)
  refine zp_ld rfl L2 ?_
  refine zp_i rfl ?_
  refine zp_b26 rfl (fun h => ?_) (fun h => ?_)
  · have h := zp_c2t h
    exact e22 (by omega)
  have h := zp_c2f h
  refine zp_ld rfl L2 ?_
  refine zp_i rfl ?_
  refine zp_b26 rfl (fun h1 => ?_) (fun h1 => ?_)
  · have h1 := zp_c4t h1
    exact e22 (by omega)
  have h1 := zp_c4f h1
  rw [zp_Qd hs hn hp (by omega)] at hpost
  refine zp_la rfl L0 ?_
  refine zp_cli [.ref 11] [] rfl rfl (Nat.le_of_ble_eq_true rfl) rfl rfl (Nat.le_of_ble_eq_true rfl) (zp_K_r hK _ _ _ rfl rfl) rfl rfl ?_
  refine zp_t36 (by omega) hH hK (fun σ1 hK1 => ⟨_, rfl, zp_K_l hK hK1, ?_⟩)
  exact zp_rt rfl zp_nb1 (hpost σ1 hK1)
theorem zp_rd (hH : zp_H f n fs0 r) : ∀ d, zp_RJ LL xs f n fs0 r d ∧ zp_RO LL xs f n fs0 r d
  | 0 => ⟨fun l o p lv op σ post hl ho hd => absurd hd (by omega), fun o p op σ post ho hd => absurd hd (by omega)⟩
  | d + 1 => ⟨zp_rj hH (zp_rd hH d).1 (zp_rd hH d).2, zp_ro hH (zp_rd hH d).1 (zp_rd hH d).2⟩
end
