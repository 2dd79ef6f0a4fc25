/-! the reference's reader: its levels -/
theorem zp_lv0 {x : Int} : zp_lv x = 0 ↔ x = 124 := by
  unfold zp_lv
  repeat (first | omega | split)
theorem zp_lv1 {x : Int} : zp_lv x = 1 ↔ x = 38 := by
  unfold zp_lv
  repeat (first | omega | split)
theorem zp_lv2 {x : Int} : zp_lv x = 2 ↔ x = 60 ∨ x = 61 ∨ x = 62 := by
  unfold zp_lv
  repeat (first | omega | split)
theorem zp_lv3 {x : Int} : zp_lv x = 3 ↔ x = 43 ∨ x = 45 := by
  unfold zp_lv
  repeat (first | omega | split)
theorem zp_lv4 {x : Int} : zp_lv x = 4 ↔ x = 42 ∨ x = 47 ∨ x = 37 := by
  unfold zp_lv
  repeat (first | omega | split)
def zm_mb (m : Nat) : Nat := if m = 5 then 168 else 162 + m
/-- where a level ends: with that place, or with that fault -/
def zm_R (LL : Nat) (xs : Nat → Int32) (f : Nat → Int32) (n : Nat) (fs0 : List Value) (m d : Nat) : Prop := ∀ (o p : Nat) (σ : rf_S) (post : rf_P), o ≤ 6 → 8 * (6 - o) + (6 - m) + 4 ≤ d → zm_K f n fs0 σ p (-1) (o : Int) → (∀ σ1 w, (zp_Q (zp_sg f n) m p o).1 = true → zm_K f n fs0 σ1 (zp_Q (zp_sg f n) m p o).2 (-1) (o : Int) → post (some (.int w)) σ1) → (∀ σ1 w q o', ¬ (zp_Q (zp_sg f n) m p o).1 = true → zm_K f n fs0 σ1 q ((zp_Q (zp_sg f n) m p o).2 : Int) o' → post (some (.int w)) σ1) → rf_run (rf_SA LL xs) rf_ms d (zm_mb m) [.ref 63] σ post
section
variable {LL : Nat} {xs : Nat → Int32} {d : Nat} {f : Nat → Int32} {n : Nat} {fs0 : List Value}
theorem zm_e162 {σ : rf_S} {post : rf_P} : ∀ (L : rf_L) (v w2 : Int32), rf_get L 0 = some (.ref 63) → rf_get L 1 = some (.int v) → rf_get L 2 = some (.int w2) → (∀ (M : rf_L) (w : Int32), rf_get M 0 = some (.ref 63) → rf_get M 1 = some (.int w) → zb_W (rf_SA LL xs) rf_ms (rf_run (rf_SA LL xs) rf_ms d) rf_m162 5 M [] σ 0 0 post) → zb_W (rf_SA LL xs) rf_ms (rf_run (rf_SA LL xs) rf_ms d) rf_m162 19 L [] σ 0 0 post := by
  intro L v w2 g0 g1 g2 h5
  have e32 : ∀ w : Int32, zb_W (rf_SA LL xs) rf_ms (rf_run (rf_SA LL xs) rf_ms d) rf_m162 32 L [.int w] σ 0 0 post := by
    intro w
    refine zp_st rfl ?_
    refine zp_gt rfl ?_
    exact h5 _ w (zp_gr (by decide) g0) (zb_rget_set _ _ _)
  have e31 : zb_W (rf_SA LL xs) rf_ms (rf_run (rf_SA LL xs) rf_ms d) rf_m162 31 L [] σ 0 0 post := zp_i rfl (e32 _)
  have e27 : zb_W (rf_SA LL xs) rf_ms (rf_run (rf_SA LL xs) rf_ms d) rf_m162 27 L [] σ 0 0 post := zp_i rfl (zp_gt rfl (e32 _))
  have e23 : zb_W (rf_SA LL xs) rf_ms (rf_run (rf_SA LL xs) rf_ms d) rf_m162 23 L [] σ 0 0 post := zp_ld rfl g2 (zp_b25 rfl (fun _ => e31) (fun _ => e27))
  exact zp_ld rfl g1 (zp_b25 rfl (fun _ => e27) (fun _ => e23))
theorem zm_f162 {σ : rf_S} {post : rf_P} {q : Nat} {ft o' : Int} (hd : 1 ≤ d) (hH : zm_H f n fs0) (hK : zm_K f n fs0 σ q ft o') (hft : 0 ≤ ft) (hpost : ∀ w, post (some (.int w)) σ) : ∀ (L : rf_L) (v : Int32), rf_get L 0 = some (.ref 63) → rf_get L 1 = some (.int v) → zb_W (rf_SA LL xs) rf_ms (rf_run (rf_SA LL xs) rf_ms d) rf_m162 5 L [] σ 0 0 post := by
  intro L v g0 g1
  refine zp_la rfl g0 ?_
  refine zp_i rfl ?_
  refine zp_cli [.ref 63, .int (Int32.ofInt 124)] [] rfl rfl (Nat.le_of_ble_eq_true rfl) rfl rfl (Nat.le_of_ble_eq_true rfl) (zm_K_r hK _ _ _ rfl rfl) rfl rfl ?_
  refine zp_t161f hd hH hK hft ⟨_, rfl, rfl, ?_⟩
  refine zp_b25 rfl (fun h => ?_) (fun h => ?_)
  · refine zp_ld rfl g1 ?_
    exact zp_rt rfl rfl (hpost _)
  · exact absurd (by decide) (zp_c0f h)
theorem zm_w162 {l o : Nat} (hH : zm_H f n fs0) (hl : l = 0) (ho : o ≤ 6) (hR : zm_R LL xs f n fs0 (l + 1) d) (hd : 8 * (6 - o) + (5 - l) + 4 ≤ d) : ∀ (k q : Nat) (L : rf_L) (σ : rf_S) (v : Int32) (post : rf_P), n - q < k → rf_get L 0 = some (.ref 63) → rf_get L 1 = some (.int v) → zm_K f n fs0 σ q (-1) (o : Int) → (∀ σ1 w, (zp_Q (zp_sg f n) (6 + l) q o).1 = true → zm_K f n fs0 σ1 (zp_Q (zp_sg f n) (6 + l) q o).2 (-1) (o : Int) → post (some (.int w)) σ1) → (∀ σ1 w q' o', ¬ (zp_Q (zp_sg f n) (6 + l) q o).1 = true → zm_K f n fs0 σ1 q' ((zp_Q (zp_sg f n) (6 + l) q o).2 : Int) o' → post (some (.int w)) σ1) → zb_W (rf_SA LL xs) rf_ms (rf_run (rf_SA LL xs) rf_ms d) rf_m162 5 L [] σ 0 0 post := by
  have hs : ∀ p, n ≤ p → zp_sg f n p = -1 := fun p h => zp_sg_n h
  have hn := hH.1
  have kc := zp_k (k := 124) (by decide) (by decide)
  intro k
  induction k with
  | zero => intro q L σ v post hk; exact absurd hk (Nat.not_lt_zero _)
  | succ k ih =>
    intro q L σ v post hk g0 g1 hK hyes hno
    have hq := zm_K_p hK
    refine zp_la rfl g0 ?_
    refine zp_i rfl ?_
    refine zp_cli [.ref 63, .int (Int32.ofInt 124)] [] rfl rfl (Nat.le_of_ble_eq_true rfl) rfl rfl (Nat.le_of_ble_eq_true rfl) (zm_K_r hK _ _ _ rfl rfl) rfl rfl ?_
    refine zp_t161 (by omega) hH hK (by rw [kc]; decide) (fun he σ1 hK1 => ⟨_, rfl, zm_K_l hK hK1, ?_⟩) (fun he => ⟨_, rfl, rfl, ?_⟩)
    · rw [kc] at he
      have heq : zp_lv (zp_sg f n q) = l := by
        rw [hl]
        exact zp_lv0.mpr he
      rw [zp_Qj hs hn hq (by omega) heq] at hyes hno
      have hQ := zp_Q_ok hs (m := l + 1) (o := o) (zm_K_p hK1) (by omega)
      refine zp_b25 rfl (fun h => ?_) (fun h => ?_)
      · exact absurd (zp_c0t h) (by decide)
      refine zp_la rfl g0 ?_
      refine zp_cli [.ref 63] [] rfl rfl (Nat.le_of_ble_eq_true rfl) rfl rfl (Nat.le_of_ble_eq_true rfl) (zm_K_r hK1 _ _ _ rfl rfl) rfl rfl ?_
      have hrun := hR o (q + 1) σ1
      rw [show zm_mb (l + 1) = 163 by rw [hl]; rfl] at hrun
      refine hrun _ ho (by omega) hK1 (fun σ2 w h1 hK2 => ⟨_, rfl, zm_K_l hK1 hK2, ?_⟩) (fun σ2 w q' o' h1 hK2 => ⟨_, rfl, zm_K_l hK1 hK2, ?_⟩)
      · rw [if_pos h1, if_neg (by omega)] at hyes hno
        have hgt := hQ.2.2 h1 (by omega)
        refine zp_st rfl ?_
        exact zm_e162 _ v w (zp_gr (by decide) g0) (zp_gi (by decide) g1) (zb_rget_set _ _ _) (fun M w' m0 m1 => ih _ M σ2 w' post (by omega) m0 m1 hK2 hyes hno)
      · rw [if_neg h1] at hyes hno
        refine zp_st rfl ?_
        exact zm_e162 _ v w (zp_gr (by decide) g0) (zp_gi (by decide) g1) (zb_rget_set _ _ _) (fun M w' m0 m1 => zm_f162 (by omega) hH hK2 (by omega) (fun w'' => hno σ2 w'' q' o' (fun e => by cases e) hK2) M w' m0 m1)
    · rw [kc] at he
      have hne : ¬ zp_lv (zp_sg f n q) = l := by
        rw [hl]
        exact fun e => he (zp_lv0.mp e)
      rw [zp_Qn hs hn hq (by omega) hne] at hyes hno
      refine zp_b25 rfl (fun h => ?_) (fun h => ?_)
      · refine zp_ld rfl g1 ?_
        exact zp_rt rfl rfl (hyes σ _ rfl hK)
      · exact absurd (by decide) (zp_c0f h)
theorem zm_t162 {l : Nat} (hH : zm_H f n fs0) (hl : l = 0) (hR : zm_R LL xs f n fs0 (l + 1) d) : zm_R LL xs f n fs0 l (d + 1) := by
  intro o p σ post ho hd hK hyes hno
  have hs : ∀ p, n ≤ p → zp_sg f n p = -1 := fun p h => zp_sg_n h
  have hn := hH.1
  have hp := zm_K_p hK
  rw [show zm_mb l = 162 by rw [hl]; rfl]
  rw [zp_Ql hs hn hp (by omega)] at hyes hno
  refine zp_en (mi := rf_m162) rfl (Nat.le_of_ble_eq_true rfl) ?_
  refine zp_la rfl rfl ?_
  refine zp_cli [.ref 63] [] rfl rfl (Nat.le_of_ble_eq_true rfl) rfl rfl (Nat.le_of_ble_eq_true rfl) (zm_K_r hK _ _ _ rfl rfl) rfl rfl ?_
  have hrun := hR o p σ
  rw [show zm_mb (l + 1) = 163 by rw [hl]; rfl] at hrun
  refine hrun _ ho (by omega) hK (fun σ2 w h1 hK2 => ⟨_, rfl, zm_K_l hK hK2, ?_⟩) (fun σ2 w q' o' h1 hK2 => ⟨_, rfl, zm_K_l hK hK2, ?_⟩)
  · rw [if_pos h1] at hyes hno
    refine zp_st rfl ?_
    exact zm_w162 hH hl ho hR (by omega) _ _ _ σ2 w post (Nat.lt_succ_self _) rfl rfl hK2 hyes hno
  · rw [if_neg h1] at hyes hno
    refine zp_st rfl ?_
    exact zm_f162 (by omega) hH hK2 (by omega) (fun w'' => hno σ2 w'' q' o' (fun e => by cases e) hK2) _ w rfl rfl
theorem zm_e163 {σ : rf_S} {post : rf_P} : ∀ (L : rf_L) (v w2 : Int32), rf_get L 0 = some (.ref 63) → rf_get L 1 = some (.int v) → rf_get L 2 = some (.int w2) → (∀ (M : rf_L) (w : Int32), rf_get M 0 = some (.ref 63) → rf_get M 1 = some (.int w) → zb_W (rf_SA LL xs) rf_ms (rf_run (rf_SA LL xs) rf_ms d) rf_m163 5 M [] σ 0 0 post) → zb_W (rf_SA LL xs) rf_ms (rf_run (rf_SA LL xs) rf_ms d) rf_m163 19 L [] σ 0 0 post := by
  intro L v w2 g0 g1 g2 h5
  have e32 : ∀ w : Int32, zb_W (rf_SA LL xs) rf_ms (rf_run (rf_SA LL xs) rf_ms d) rf_m163 32 L [.int w] σ 0 0 post := by
    intro w
    refine zp_st rfl ?_
    refine zp_gt rfl ?_
    exact h5 _ w (zp_gr (by decide) g0) (zb_rget_set _ _ _)
  have e31 : zb_W (rf_SA LL xs) rf_ms (rf_run (rf_SA LL xs) rf_ms d) rf_m163 31 L [] σ 0 0 post := zp_i rfl (e32 _)
  have e27 : zb_W (rf_SA LL xs) rf_ms (rf_run (rf_SA LL xs) rf_ms d) rf_m163 27 L [] σ 0 0 post := zp_i rfl (zp_gt rfl (e32 _))
  have e23 : zb_W (rf_SA LL xs) rf_ms (rf_run (rf_SA LL xs) rf_ms d) rf_m163 23 L [] σ 0 0 post := zp_ld rfl g2 (zp_b25 rfl (fun _ => e31) (fun _ => e27))
  exact zp_ld rfl g1 (zp_b25 rfl (fun _ => e31) (fun _ => e23))
theorem zm_f163 {σ : rf_S} {post : rf_P} {q : Nat} {ft o' : Int} (hd : 1 ≤ d) (hH : zm_H f n fs0) (hK : zm_K f n fs0 σ q ft o') (hft : 0 ≤ ft) (hpost : ∀ w, post (some (.int w)) σ) : ∀ (L : rf_L) (v : Int32), rf_get L 0 = some (.ref 63) → rf_get L 1 = some (.int v) → zb_W (rf_SA LL xs) rf_ms (rf_run (rf_SA LL xs) rf_ms d) rf_m163 5 L [] σ 0 0 post := by
  intro L v g0 g1
  refine zp_la rfl g0 ?_
  refine zp_i rfl ?_
  refine zp_cli [.ref 63, .int (Int32.ofInt 38)] [] rfl rfl (Nat.le_of_ble_eq_true rfl) rfl rfl (Nat.le_of_ble_eq_true rfl) (zm_K_r hK _ _ _ rfl rfl) rfl rfl ?_
  refine zp_t161f hd hH hK hft ⟨_, rfl, rfl, ?_⟩
  refine zp_b25 rfl (fun h => ?_) (fun h => ?_)
  · refine zp_ld rfl g1 ?_
    exact zp_rt rfl rfl (hpost _)
  · exact absurd (by decide) (zp_c0f h)
theorem zm_w163 {l o : Nat} (hH : zm_H f n fs0) (hl : l = 1) (ho : o ≤ 6) (hR : zm_R LL xs f n fs0 (l + 1) d) (hd : 8 * (6 - o) + (5 - l) + 4 ≤ d) : ∀ (k q : Nat) (L : rf_L) (σ : rf_S) (v : Int32) (post : rf_P), n - q < k → rf_get L 0 = some (.ref 63) → rf_get L 1 = some (.int v) → zm_K f n fs0 σ q (-1) (o : Int) → (∀ σ1 w, (zp_Q (zp_sg f n) (6 + l) q o).1 = true → zm_K f n fs0 σ1 (zp_Q (zp_sg f n) (6 + l) q o).2 (-1) (o : Int) → post (some (.int w)) σ1) → (∀ σ1 w q' o', ¬ (zp_Q (zp_sg f n) (6 + l) q o).1 = true → zm_K f n fs0 σ1 q' ((zp_Q (zp_sg f n) (6 + l) q o).2 : Int) o' → post (some (.int w)) σ1) → zb_W (rf_SA LL xs) rf_ms (rf_run (rf_SA LL xs) rf_ms d) rf_m163 5 L [] σ 0 0 post := by
  have hs : ∀ p, n ≤ p → zp_sg f n p = -1 := fun p h => zp_sg_n h
  have hn := hH.1
  have kc := zp_k (k := 38) (by decide) (by decide)
  intro k
  induction k with
  | zero => intro q L σ v post hk; exact absurd hk (Nat.not_lt_zero _)
  | succ k ih =>
    intro q L σ v post hk g0 g1 hK hyes hno
    have hq := zm_K_p hK
    refine zp_la rfl g0 ?_
    refine zp_i rfl ?_
    refine zp_cli [.ref 63, .int (Int32.ofInt 38)] [] rfl rfl (Nat.le_of_ble_eq_true rfl) rfl rfl (Nat.le_of_ble_eq_true rfl) (zm_K_r hK _ _ _ rfl rfl) rfl rfl ?_
    refine zp_t161 (by omega) hH hK (by rw [kc]; decide) (fun he σ1 hK1 => ⟨_, rfl, zm_K_l hK hK1, ?_⟩) (fun he => ⟨_, rfl, rfl, ?_⟩)
    · rw [kc] at he
      have heq : zp_lv (zp_sg f n q) = l := by
        rw [hl]
        exact zp_lv1.mpr he
      rw [zp_Qj hs hn hq (by omega) heq] at hyes hno
      have hQ := zp_Q_ok hs (m := l + 1) (o := o) (zm_K_p hK1) (by omega)
      refine zp_b25 rfl (fun h => ?_) (fun h => ?_)
      · exact absurd (zp_c0t h) (by decide)
      refine zp_la rfl g0 ?_
      refine zp_cli [.ref 63] [] rfl rfl (Nat.le_of_ble_eq_true rfl) rfl rfl (Nat.le_of_ble_eq_true rfl) (zm_K_r hK1 _ _ _ rfl rfl) rfl rfl ?_
      have hrun := hR o (q + 1) σ1
      rw [show zm_mb (l + 1) = 164 by rw [hl]; rfl] at hrun
      refine hrun _ ho (by omega) hK1 (fun σ2 w h1 hK2 => ⟨_, rfl, zm_K_l hK1 hK2, ?_⟩) (fun σ2 w q' o' h1 hK2 => ⟨_, rfl, zm_K_l hK1 hK2, ?_⟩)
      · rw [if_pos h1, if_neg (by omega)] at hyes hno
        have hgt := hQ.2.2 h1 (by omega)
        refine zp_st rfl ?_
        exact zm_e163 _ v w (zp_gr (by decide) g0) (zp_gi (by decide) g1) (zb_rget_set _ _ _) (fun M w' m0 m1 => ih _ M σ2 w' post (by omega) m0 m1 hK2 hyes hno)
      · rw [if_neg h1] at hyes hno
        refine zp_st rfl ?_
        exact zm_e163 _ v w (zp_gr (by decide) g0) (zp_gi (by decide) g1) (zb_rget_set _ _ _) (fun M w' m0 m1 => zm_f163 (by omega) hH hK2 (by omega) (fun w'' => hno σ2 w'' q' o' (fun e => by cases e) hK2) M w' m0 m1)
    · rw [kc] at he
      have hne : ¬ zp_lv (zp_sg f n q) = l := by
        rw [hl]
        exact fun e => he (zp_lv1.mp e)
      rw [zp_Qn hs hn hq (by omega) hne] at hyes hno
      refine zp_b25 rfl (fun h => ?_) (fun h => ?_)
      · refine zp_ld rfl g1 ?_
        exact zp_rt rfl rfl (hyes σ _ rfl hK)
      · exact absurd (by decide) (zp_c0f h)
theorem zm_t163 {l : Nat} (hH : zm_H f n fs0) (hl : l = 1) (hR : zm_R LL xs f n fs0 (l + 1) d) : zm_R LL xs f n fs0 l (d + 1) := by
  intro o p σ post ho hd hK hyes hno
  have hs : ∀ p, n ≤ p → zp_sg f n p = -1 := fun p h => zp_sg_n h
  have hn := hH.1
  have hp := zm_K_p hK
  rw [show zm_mb l = 163 by rw [hl]; rfl]
  rw [zp_Ql hs hn hp (by omega)] at hyes hno
  refine zp_en (mi := rf_m163) rfl (Nat.le_of_ble_eq_true rfl) ?_
  refine zp_la rfl rfl ?_
  refine zp_cli [.ref 63] [] rfl rfl (Nat.le_of_ble_eq_true rfl) rfl rfl (Nat.le_of_ble_eq_true rfl) (zm_K_r hK _ _ _ rfl rfl) rfl rfl ?_
  have hrun := hR o p σ
  rw [show zm_mb (l + 1) = 164 by rw [hl]; rfl] at hrun
  refine hrun _ ho (by omega) hK (fun σ2 w h1 hK2 => ⟨_, rfl, zm_K_l hK hK2, ?_⟩) (fun σ2 w q' o' h1 hK2 => ⟨_, rfl, zm_K_l hK hK2, ?_⟩)
  · rw [if_pos h1] at hyes hno
    refine zp_st rfl ?_
    exact zm_w163 hH hl ho hR (by omega) _ _ _ σ2 w post (Nat.lt_succ_self _) rfl rfl hK2 hyes hno
  · rw [if_neg h1] at hyes hno
    refine zp_st rfl ?_
    exact zm_f163 (by omega) hH hK2 (by omega) (fun w'' => hno σ2 w'' q' o' (fun e => by cases e) hK2) _ w rfl rfl
/-! compared -/
theorem zm_e164 {σ : rf_S} {post : rf_P} (hpost : ∀ w, post (some (.int w)) σ) : ∀ (L : rf_L) (v x w : Int32), rf_get L 1 = some (.int v) → rf_get L 2 = some (.int x) → rf_get L 3 = some (.int w) → zb_W (rf_SA LL xs) rf_ms (rf_run (rf_SA LL xs) rf_ms d) rf_m164 52 L [] σ 0 0 post := by
  intro L v x w g1 g2 g3
  have e90 : ∀ y : Int32, zb_W (rf_SA LL xs) rf_ms (rf_run (rf_SA LL xs) rf_ms d) rf_m164 90 L [.int y] σ 0 0 post := fun y => zp_rt rfl rfl (hpost y)
  have e89 : zb_W (rf_SA LL xs) rf_ms (rf_run (rf_SA LL xs) rf_ms d) rf_m164 89 L [] σ 0 0 post := zp_i rfl (e90 _)
  have e85 : zb_W (rf_SA LL xs) rf_ms (rf_run (rf_SA LL xs) rf_ms d) rf_m164 85 L [] σ 0 0 post := zp_i rfl (zp_gt rfl (e90 _))
  have e80 : zb_W (rf_SA LL xs) rf_ms (rf_run (rf_SA LL xs) rf_ms d) rf_m164 80 L [] σ 0 0 post := zp_ld rfl g1 (zp_ld rfl g3 (zp_b26 rfl (fun _ => e89) (fun _ => e85)))
  have e66 : zb_W (rf_SA LL xs) rf_ms (rf_run (rf_SA LL xs) rf_ms d) rf_m164 66 L [] σ 0 0 post := zp_ld rfl g2 (zp_i rfl (zp_b26 rfl (fun _ => e80) (fun _ => zp_ld rfl g1 (zp_ld rfl g3 (zp_b26 rfl (fun _ => e89) (fun _ => zp_gt rfl e85))))))
  exact zp_ld rfl g2 (zp_i rfl (zp_b26 rfl (fun _ => e66) (fun _ => zp_ld rfl g1 (zp_ld rfl g3 (zp_b26 rfl (fun _ => e89) (fun _ => zp_gt rfl e85))))))
theorem zm_t164 {l : Nat} (hH : zm_H f n fs0) (hl : l = 2) (hR : zm_R LL xs f n fs0 (l + 1) d) : zm_R LL xs f n fs0 l (d + 1) := by
  intro o p σ post ho hd hK hyes hno
  have hs : ∀ p, n ≤ p → zp_sg f n p = -1 := fun p h => zp_sg_n h
  have hn := hH.1
  have hp := zm_K_p hK
  have k0 := zp_k0
  have k60 := zp_k (k := 60) (by decide) (by decide)
  have k61 := zp_k (k := 61) (by decide) (by decide)
  have k62 := zp_k (k := 62) (by decide) (by decide)
  rw [show zm_mb l = 164 by rw [hl]; rfl]
  rw [zp_Ql hs hn hp (by omega)] at hyes hno
  refine zp_en (mi := rf_m164) rfl (Nat.le_of_ble_eq_true rfl) ?_
  refine zp_la rfl rfl ?_
  refine zp_cli [.ref 63] [] rfl rfl (Nat.le_of_ble_eq_true rfl) rfl rfl (Nat.le_of_ble_eq_true rfl) (zm_K_r hK _ _ _ rfl rfl) rfl rfl ?_
  have hrun := hR o p σ
  rw [show zm_mb (l + 1) = 165 by rw [hl]; rfl] at hrun
  have hQ := zp_Q_ok hs (m := l + 1) (o := o) hp (by omega)
  refine hrun _ ho (by omega) hK (fun σ1 w h1 hK1 => ⟨_, rfl, zm_K_l hK hK1, ?_⟩) (fun σ1 w q' o' h1 hK1 => ⟨_, rfl, zm_K_l hK hK1, ?_⟩)
  · rw [if_pos h1] at hyes hno
    refine zp_st rfl ?_
    refine zp_la rfl rfl ?_
    refine zp_cli [.ref 63] [] rfl rfl (Nat.le_of_ble_eq_true rfl) rfl rfl (Nat.le_of_ble_eq_true rfl) (zm_K_r hK1 _ _ _ rfl rfl) rfl rfl ?_
    refine zp_t159 (by omega) hH hK1 (fun z hz => ⟨_, rfl, rfl, ?_⟩)
    refine zp_st rfl ?_
    refine zp_la rfl rfl ?_
    refine zm_gft rfl hH hK1 (fun y hy => ?_)
    refine zp_b25 rfl (fun h => ?_) (fun h => ?_)
    · have h := zp_c3t h
      exfalso
      omega
    have e37 : (z.toInt = 60 ∨ z.toInt = 61 ∨ z.toInt = 62) → zb_W (rf_SA LL xs) rf_ms (rf_run (rf_SA LL xs) rf_ms d) rf_m164 37 (rf_set (rf_set (lv_args 0 [.ref 63]) 1 (.int w)) 2 (.int z)) [] σ1 0 0 post := by
      intro hx
      have heq : zp_lv (zp_sg f n (zp_Q (zp_sg f n) (l + 1) p o).2) = l := by
        rw [hl] at hz ⊢
        exact zp_lv2.mpr (by omega)
      rw [zp_Qj hs hn hQ.2.1 (by omega) heq] at hyes hno
      refine zm_pp rfl rfl rfl rfl rfl rfl rfl hH hK1 (zp_sg_l (f := f) (by omega)) (fun σ2 hK2 => ?_)
      refine zp_la rfl rfl ?_
      refine zp_cli [.ref 63] [] rfl rfl (Nat.le_of_ble_eq_true rfl) rfl rfl (Nat.le_of_ble_eq_true rfl) (zm_K_r hK2 _ _ _ rfl rfl) rfl rfl ?_
      have hrun2 := hR o ((zp_Q (zp_sg f n) (l + 1) p o).2 + 1) σ2
      rw [show zm_mb (l + 1) = 165 by rw [hl]; rfl] at hrun2
      refine hrun2 _ ho (by omega) hK2 (fun σ3 w3 h3 hK3 => ⟨_, rfl, zm_K_l hK2 hK3, ?_⟩) (fun σ3 w3 q' o' h3 hK3 => ⟨_, rfl, zm_K_l hK2 hK3, ?_⟩)
      · rw [if_pos h3, if_pos hl] at hyes hno
        refine zp_st rfl ?_
        exact zm_e164 (fun y => hyes σ3 y rfl hK3) _ w z w3 rfl rfl rfl
      · rw [if_neg h3] at hyes hno
        refine zp_st rfl ?_
        exact zm_e164 (fun y => hno σ3 y q' o' (fun e => by cases e) hK3) _ w z w3 rfl rfl rfl
    refine zp_ld rfl rfl ?_
    refine zp_i rfl ?_
    refine zp_b26 rfl (fun h2 => ?_) (fun h2 => ?_)
    · have h2 := zp_c0t h2
      exact e37 (by omega)
    have h2 := zp_c0f h2
    refine zp_ld rfl rfl ?_
    refine zp_i rfl ?_
    refine zp_b26 rfl (fun h3 => ?_) (fun h3 => ?_)
    · have h3 := zp_c0t h3
      exact e37 (by omega)
    have h3 := zp_c0f h3
    refine zp_ld rfl rfl ?_
    refine zp_i rfl ?_
    refine zp_b26 rfl (fun h4 => ?_) (fun h4 => ?_)
    · have h4 := zp_c0t h4
      exact e37 (by omega)
    have h4 := zp_c0f h4
    have hne : ¬ zp_lv (zp_sg f n (zp_Q (zp_sg f n) (l + 1) p o).2) = l := by
      rw [hl] at hz ⊢
      intro e
      have := zp_lv2.mp e
      omega
    rw [zp_Qn hs hn hQ.2.1 (by omega) hne] at hyes hno
    refine zp_ld rfl rfl ?_
    exact zp_rt rfl rfl (hyes σ1 _ rfl hK1)
  · rw [if_neg h1] at hyes hno
    refine zp_st rfl ?_
    refine zp_la rfl rfl ?_
    refine zp_cli [.ref 63] [] rfl rfl (Nat.le_of_ble_eq_true rfl) rfl rfl (Nat.le_of_ble_eq_true rfl) (zm_K_r hK1 _ _ _ rfl rfl) rfl rfl ?_
    refine zp_t159 (by omega) hH hK1 (fun z hz => ⟨_, rfl, rfl, ?_⟩)
    refine zp_st rfl ?_
    refine zp_la rfl rfl ?_
    refine zm_gft rfl hH hK1 (fun y hy => ?_)
    refine zp_b25 rfl (fun h => ?_) (fun h => ?_)
    · refine zp_ld rfl rfl ?_
      exact zp_rt rfl rfl (hno σ1 _ q' o' (fun e => by cases e) hK1)
    · have h := zp_c3f h
      exfalso
      omega
/-! sums -/
theorem zm_f165 {σ : rf_S} {post : rf_P} {q : Nat} {ft o' : Int} (hH : zm_H f n fs0) (hK : zm_K f n fs0 σ q ft o') (hft : 0 ≤ ft) (hpost : ∀ w, post (some (.int w)) σ) : ∀ (L : rf_L) (v : Int32), rf_get L 0 = some (.ref 63) → rf_get L 1 = some (.int v) → zb_W (rf_SA LL xs) rf_ms (rf_run (rf_SA LL xs) rf_ms d) rf_m165 5 L [] σ 0 0 post := by
  intro L v g0 g1
  have k0 := zp_k0
  refine zp_la rfl g0 ?_
  refine zm_gft rfl hH hK (fun y hy => ?_)
  refine zp_b25 rfl (fun h => ?_) (fun h => ?_)
  · refine zp_ld rfl g1 ?_
    exact zp_rt rfl rfl (hpost _)
  · have h := zp_c3f h
    exfalso
    omega
theorem zm_e165 {σ : rf_S} {post : rf_P} : ∀ (L : rf_L) (v x w2 : Int32), rf_get L 0 = some (.ref 63) → rf_get L 1 = some (.int v) → rf_get L 2 = some (.int x) → rf_get L 3 = some (.int w2) → (∀ (M : rf_L) (w : Int32), rf_get M 0 = some (.ref 63) → rf_get M 1 = some (.int w) → zb_W (rf_SA LL xs) rf_ms (rf_run (rf_SA LL xs) rf_ms d) rf_m165 5 M [] σ 0 0 post) → zb_W (rf_SA LL xs) rf_ms (rf_run (rf_SA LL xs) rf_ms d) rf_m165 60 L [] σ 0 0 post := by
  intro L v x w2 g0 g1 g2 g3 h5
  have e73 : ∀ w : Int32, zb_W (rf_SA LL xs) rf_ms (rf_run (rf_SA LL xs) rf_ms d) rf_m165 73 L [.int w] σ 0 0 post := fun w => zp_st rfl (zp_gt rfl (h5 _ w (zp_gr (by decide) g0) (zb_rget_set _ _ _)))
  exact zp_ld rfl g2 (zp_b25 rfl (fun _ => zp_ld rfl g1 (zp_ld rfl g3 (zp_bn rfl (e73 _)))) (fun _ => zp_ld rfl g1 (zp_ld rfl g3 (zp_bn rfl (zp_gt rfl (e73 _))))))
theorem zm_w165 {l o : Nat} (hH : zm_H f n fs0) (hl : l = 3) (ho : o ≤ 6) (hR : zm_R LL xs f n fs0 (l + 1) d) (hd : 8 * (6 - o) + (5 - l) + 4 ≤ d) : ∀ (k q : Nat) (L : rf_L) (σ : rf_S) (v : Int32) (post : rf_P), n - q < k → rf_get L 0 = some (.ref 63) → rf_get L 1 = some (.int v) → zm_K f n fs0 σ q (-1) (o : Int) → (∀ σ1 w, (zp_Q (zp_sg f n) (6 + l) q o).1 = true → zm_K f n fs0 σ1 (zp_Q (zp_sg f n) (6 + l) q o).2 (-1) (o : Int) → post (some (.int w)) σ1) → (∀ σ1 w q' o', ¬ (zp_Q (zp_sg f n) (6 + l) q o).1 = true → zm_K f n fs0 σ1 q' ((zp_Q (zp_sg f n) (6 + l) q o).2 : Int) o' → post (some (.int w)) σ1) → zb_W (rf_SA LL xs) rf_ms (rf_run (rf_SA LL xs) rf_ms d) rf_m165 5 L [] σ 0 0 post := by
  have hs : ∀ p, n ≤ p → zp_sg f n p = -1 := fun p h => zp_sg_n h
  have hn := hH.1
  have k0 := zp_k0
  have k43 := zp_k (k := 43) (by decide) (by decide)
  have k45 := zp_k (k := 45) (by decide) (by decide)
  intro k
  induction k with
  | zero => intro q L σ v post hk; exact absurd hk (Nat.not_lt_zero _)
  | succ k ih =>
    intro q L σ v post hk g0 g1 hK hyes hno
    have hq := zm_K_p hK
    refine zp_la rfl g0 ?_
    refine zm_gft rfl hH hK (fun y hy => ?_)
    refine zp_b25 rfl (fun h => ?_) (fun h => ?_)
    · have h := zp_c3t h
      exfalso
      omega
    have e30 : (zp_sg f n q = 43 ∨ zp_sg f n q = 45) → zb_W (rf_SA LL xs) rf_ms (rf_run (rf_SA LL xs) rf_ms d) rf_m165 30 L [] σ 0 0 post := by
      intro hx
      have heq : zp_lv (zp_sg f n q) = l := by
        rw [hl]
        exact zp_lv3.mpr hx
      rw [zp_Qj hs hn hq (by omega) heq] at hyes hno
      refine zp_la rfl g0 ?_
      refine zp_cli [.ref 63] [] rfl rfl (Nat.le_of_ble_eq_true rfl) rfl rfl (Nat.le_of_ble_eq_true rfl) (zm_K_r hK _ _ _ rfl rfl) rfl rfl ?_
      refine zp_t159 (by omega) hH hK (fun z hz => ⟨_, rfl, rfl, ?_⟩)
      have e44 : ∀ x : Int32, zb_W (rf_SA LL xs) rf_ms (rf_run (rf_SA LL xs) rf_ms d) rf_m165 44 L [.int x] σ 0 0 post := by
        intro x
        refine zp_st rfl ?_
        refine zm_pp rfl (zp_gr (by decide) g0) rfl rfl rfl rfl rfl hH hK (zp_sg_l (f := f) (by omega)) (fun σ1 hK1 => ?_)
        have hQ := zp_Q_ok hs (m := l + 1) (o := o) (zm_K_p hK1) (by omega)
        refine zp_la rfl (zp_gr (by decide) g0) ?_
        refine zp_cli [.ref 63] [] rfl rfl (Nat.le_of_ble_eq_true rfl) rfl rfl (Nat.le_of_ble_eq_true rfl) (zm_K_r hK1 _ _ _ rfl rfl) rfl rfl ?_
        have hrun := hR o (q + 1) σ1
        rw [show zm_mb (l + 1) = 166 by rw [hl]; rfl] at hrun
        refine hrun _ ho (by omega) hK1 (fun σ2 w h1 hK2 => ⟨_, rfl, zm_K_l hK1 hK2, ?_⟩) (fun σ2 w q' o' h1 hK2 => ⟨_, rfl, zm_K_l hK1 hK2, ?_⟩)
        · rw [if_pos h1, if_neg (by omega)] at hyes hno
          have hgt := hQ.2.2 h1 (by omega)
          refine zp_st rfl ?_
          exact zm_e165 _ v x w (zp_gr (by decide) (zp_gr (by decide) g0)) (zp_gi (by decide) (zp_gi (by decide) g1)) (zp_gi (by decide) (zb_rget_set _ _ _)) (zb_rget_set _ _ _) (fun M w' m0 m1 => ih _ M σ2 w' post (by omega) m0 m1 hK2 hyes hno)
        · rw [if_neg h1] at hyes hno
          refine zp_st rfl ?_
          exact zm_e165 _ v x w (zp_gr (by decide) (zp_gr (by decide) g0)) (zp_gi (by decide) (zp_gi (by decide) g1)) (zp_gi (by decide) (zb_rget_set _ _ _)) (zb_rget_set _ _ _) (fun M w' m0 m1 => zm_f165 hH hK2 (by omega) (fun w'' => hno σ2 w'' q' o' (fun e => by cases e) hK2) M w' m0 m1)
      refine zp_i rfl ?_
      refine zp_b26 rfl (fun h2 => ?_) (fun h2 => ?_)
      · exact zp_i rfl (e44 _)
      · exact zp_i rfl (zp_gt rfl (e44 _))
    refine zp_la rfl g0 ?_
    refine zp_cli [.ref 63] [] rfl rfl (Nat.le_of_ble_eq_true rfl) rfl rfl (Nat.le_of_ble_eq_true rfl) (zm_K_r hK _ _ _ rfl rfl) rfl rfl ?_
    refine zp_t159 (by omega) hH hK (fun z hz => ⟨_, rfl, rfl, ?_⟩)
    refine zp_i rfl ?_
    refine zp_b26 rfl (fun h1 => ?_) (fun h1 => ?_)
    · have h1 := zp_c0t h1
      exact e30 (by omega)
    have h1 := zp_c0f h1
    refine zp_la rfl g0 ?_
    refine zp_cli [.ref 63] [] rfl rfl (Nat.le_of_ble_eq_true rfl) rfl rfl (Nat.le_of_ble_eq_true rfl) (zm_K_r hK _ _ _ rfl rfl) rfl rfl ?_
    refine zp_t159 (by omega) hH hK (fun z2 hz2 => ⟨_, rfl, rfl, ?_⟩)
    refine zp_i rfl ?_
    refine zp_b26 rfl (fun h2 => ?_) (fun h2 => ?_)
    · have h2 := zp_c1t h2
      have hne : ¬ zp_lv (zp_sg f n q) = l := by
        rw [hl]
        intro e
        have := zp_lv3.mp e
        omega
      rw [zp_Qn hs hn hq (by omega) hne] at hyes hno
      refine zp_ld rfl g1 ?_
      exact zp_rt rfl rfl (hyes σ _ rfl hK)
    · have h2 := zp_c1f h2
      exact e30 (by omega)
theorem zm_t165 {l : Nat} (hH : zm_H f n fs0) (hl : l = 3) (hR : zm_R LL xs f n fs0 (l + 1) d) : zm_R LL xs f n fs0 l (d + 1) := by
  intro o p σ post ho hd hK hyes hno
  have hs : ∀ p, n ≤ p → zp_sg f n p = -1 := fun p h => zp_sg_n h
  have hn := hH.1
  have hp := zm_K_p hK
  rw [show zm_mb l = 165 by rw [hl]; rfl]
  rw [zp_Ql hs hn hp (by omega)] at hyes hno
  refine zp_en (mi := rf_m165) rfl (Nat.le_of_ble_eq_true rfl) ?_
  refine zp_la rfl rfl ?_
  refine zp_cli [.ref 63] [] rfl rfl (Nat.le_of_ble_eq_true rfl) rfl rfl (Nat.le_of_ble_eq_true rfl) (zm_K_r hK _ _ _ rfl rfl) rfl rfl ?_
  have hrun := hR o p σ
  rw [show zm_mb (l + 1) = 166 by rw [hl]; rfl] at hrun
  refine hrun _ ho (by omega) hK (fun σ2 w h1 hK2 => ⟨_, rfl, zm_K_l hK hK2, ?_⟩) (fun σ2 w q' o' h1 hK2 => ⟨_, rfl, zm_K_l hK hK2, ?_⟩)
  · rw [if_pos h1] at hyes hno
    refine zp_st rfl ?_
    exact zm_w165 hH hl ho hR (by omega) _ _ _ σ2 w post (Nat.lt_succ_self _) rfl rfl hK2 hyes hno
  · rw [if_neg h1] at hyes hno
    refine zp_st rfl ?_
    exact zm_f165 hH hK2 (by omega) (fun w'' => hno σ2 w'' q' o' (fun e => by cases e) hK2) _ w rfl rfl
/-! product -/
theorem zm_f166 {σ : rf_S} {post : rf_P} {q : Nat} {ft o' : Int} (hH : zm_H f n fs0) (hK : zm_K f n fs0 σ q ft o') (hft : 0 ≤ ft) (hpost : ∀ w, post (some (.int w)) σ) : ∀ (L : rf_L) (v : Int32), rf_get L 0 = some (.ref 63) → rf_get L 1 = some (.int v) → zb_W (rf_SA LL xs) rf_ms (rf_run (rf_SA LL xs) rf_ms d) rf_m166 10 L [] σ 0 0 post := by
  intro L v g0 g1
  have k0 := zp_k0
  refine zp_la rfl g0 ?_
  refine zm_gft rfl hH hK (fun y hy => ?_)
  refine zp_b25 rfl (fun h => ?_) (fun h => ?_)
  · refine zp_ld rfl g1 ?_
    exact zp_rt rfl rfl (hpost _)
  · have h := zp_c3f h
    exfalso
    omega
theorem zm_e166 {σ : rf_S} {post : rf_P} {q : Nat} {ft o' : Int} (hd : 1 ≤ d) (hH : zm_H f n fs0) (hK : zm_K f n fs0 σ q ft o') : ∀ (L : rf_L) (v x w2 : Int32), rf_get L 0 = some (.ref 63) → rf_get L 1 = some (.int v) → rf_get L 2 = some (.int x) → rf_get L 3 = some (.int w2) → (∀ (M : rf_L) (w z : Int32), rf_get M 0 = some (.ref 63) → rf_get M 1 = some (.int w) → rf_get M 2 = some (.int z) → (z.toInt = zp_sg f n q ∨ z.toInt = 0 ∧ zp_sg f n q = -1) → zb_W (rf_SA LL xs) rf_ms (rf_run (rf_SA LL xs) rf_ms d) rf_m166 10 M [] σ 0 0 post) → zb_W (rf_SA LL xs) rf_ms (rf_run (rf_SA LL xs) rf_ms d) rf_m166 50 L [] σ 0 0 post := by
  intro L v x w2 g0 g1 g2 g3 h10
  have e85 : ∀ w : Int32, zb_W (rf_SA LL xs) rf_ms (rf_run (rf_SA LL xs) rf_ms d) rf_m166 85 L [.int w] σ 0 0 post := by
    intro w
    refine zp_st rfl ?_
    refine zp_la rfl (zp_gr (by decide) g0) ?_
    refine zp_cli [.ref 63] [] rfl rfl (Nat.le_of_ble_eq_true rfl) rfl rfl (Nat.le_of_ble_eq_true rfl) (zm_K_r hK _ _ _ rfl rfl) rfl rfl ?_
    refine zp_t159 hd hH hK (fun z hz => ⟨_, rfl, rfl, ?_⟩)
    refine zp_st rfl ?_
    refine zp_gt rfl ?_
    exact h10 _ w z (zp_gr (by decide) (zp_gr (by decide) g0)) (zp_gi (by decide) (zb_rget_set _ _ _)) (zb_rget_set _ _ _) hz
  have e62 : zb_W (rf_SA LL xs) rf_ms (rf_run (rf_SA LL xs) rf_ms d) rf_m166 62 L [] σ 0 0 post := by
    refine zp_ld rfl g3 ?_
    refine zp_b25 rfl (fun h => ?_) (fun h => ?_)
    · have h := zp_c1t h
      have hne : ¬ w2 = 0 := fun e => h (by rw [e])
      refine zp_ld rfl g2 ?_
      refine zp_i rfl ?_
      refine zp_b26 rfl (fun h1 => ?_) (fun h1 => ?_)
      · exact zp_ld rfl g1 (zp_ld rfl g3 (zp_md rfl hne (fun w => e85 w)))
      · exact zp_ld rfl g1 (zp_ld rfl g3 (zp_dv rfl hne (fun w => zp_gt rfl (e85 w))))
    · exact zp_i rfl (zp_gt rfl (e85 _))
  exact zp_ld rfl g2 (zp_i rfl (zp_b26 rfl (fun _ => e62) (fun _ => zp_ld rfl g1 (zp_ld rfl g3 (zp_bn rfl (zp_gt rfl (e85 _)))))))
theorem zm_w166 {l o : Nat} (hH : zm_H f n fs0) (hl : l = 4) (ho : o ≤ 6) (hR : zm_R LL xs f n fs0 (l + 1) d) (hd : 8 * (6 - o) + (5 - l) + 4 ≤ d) : ∀ (k q : Nat) (L : rf_L) (σ : rf_S) (v z : Int32) (post : rf_P), n - q < k → rf_get L 0 = some (.ref 63) → rf_get L 1 = some (.int v) → rf_get L 2 = some (.int z) → (z.toInt = zp_sg f n q ∨ z.toInt = 0 ∧ zp_sg f n q = -1) → zm_K f n fs0 σ q (-1) (o : Int) → (∀ σ1 w, (zp_Q (zp_sg f n) (6 + l) q o).1 = true → zm_K f n fs0 σ1 (zp_Q (zp_sg f n) (6 + l) q o).2 (-1) (o : Int) → post (some (.int w)) σ1) → (∀ σ1 w q' o', ¬ (zp_Q (zp_sg f n) (6 + l) q o).1 = true → zm_K f n fs0 σ1 q' ((zp_Q (zp_sg f n) (6 + l) q o).2 : Int) o' → post (some (.int w)) σ1) → zb_W (rf_SA LL xs) rf_ms (rf_run (rf_SA LL xs) rf_ms d) rf_m166 10 L [] σ 0 0 post := by
  have hs : ∀ p, n ≤ p → zp_sg f n p = -1 := fun p h => zp_sg_n h
  have hn := hH.1
  have k0 := zp_k0
  have k42 := zp_k (k := 42) (by decide) (by decide)
  have k47 := zp_k (k := 47) (by decide) (by decide)
  have k37 := zp_k (k := 37) (by decide) (by decide)
  intro k
  induction k with
  | zero => intro q L σ v z post hk; exact absurd hk (Nat.not_lt_zero _)
  | succ k ih =>
    intro q L σ v z post hk g0 g1 g2 hz hK hyes hno
    have hq := zm_K_p hK
    refine zp_la rfl g0 ?_
    refine zm_gft rfl hH hK (fun y hy => ?_)
    refine zp_b25 rfl (fun h => ?_) (fun h => ?_)
    · have h := zp_c3t h
      exfalso
      omega
    have e35 : (zp_sg f n q = 42 ∨ zp_sg f n q = 47 ∨ zp_sg f n q = 37) → zb_W (rf_SA LL xs) rf_ms (rf_run (rf_SA LL xs) rf_ms d) rf_m166 35 L [] σ 0 0 post := by
      intro hx
      have heq : zp_lv (zp_sg f n q) = l := by
        rw [hl]
        exact zp_lv4.mpr hx
      rw [zp_Qj hs hn hq (by omega) heq] at hyes hno
      refine zm_pp rfl g0 rfl rfl rfl rfl rfl hH hK (zp_sg_l (f := f) (by omega)) (fun σ1 hK1 => ?_)
      have hQ := zp_Q_ok hs (m := l + 1) (o := o) (zm_K_p hK1) (by omega)
      refine zp_la rfl g0 ?_
      refine zp_cli [.ref 63] [] rfl rfl (Nat.le_of_ble_eq_true rfl) rfl rfl (Nat.le_of_ble_eq_true rfl) (zm_K_r hK1 _ _ _ rfl rfl) rfl rfl ?_
      have hrun := hR o (q + 1) σ1
      rw [show zm_mb (l + 1) = 168 by rw [hl]; rfl] at hrun
      refine hrun _ ho (by omega) hK1 (fun σ2 w h1 hK2 => ⟨_, rfl, zm_K_l hK1 hK2, ?_⟩) (fun σ2 w q' o' h1 hK2 => ⟨_, rfl, zm_K_l hK1 hK2, ?_⟩)
      · rw [if_pos h1, if_neg (by omega)] at hyes hno
        have hgt := hQ.2.2 h1 (by omega)
        refine zp_st rfl ?_
        exact zm_e166 (by omega) hH hK2 _ v z w (zp_gr (by decide) g0) (zp_gi (by decide) g1) (zp_gi (by decide) g2) (zb_rget_set _ _ _) (fun M w' z' m0 m1 m2 hz' => ih _ M σ2 w' z' post (by omega) m0 m1 m2 hz' hK2 hyes hno)
      · rw [if_neg h1] at hyes hno
        refine zp_st rfl ?_
        exact zm_e166 (by omega) hH hK2 _ v z w (zp_gr (by decide) g0) (zp_gi (by decide) g1) (zp_gi (by decide) g2) (zb_rget_set _ _ _) (fun M w' z' m0 m1 m2 hz' => zm_f166 hH hK2 (by omega) (fun w'' => hno σ2 w'' q' o' (fun e => by cases e) hK2) M w' m0 m1)
    refine zp_ld rfl g2 ?_
    refine zp_i rfl ?_
    refine zp_b26 rfl (fun h1 => ?_) (fun h1 => ?_)
    · have h1 := zp_c0t h1
      exact e35 (by omega)
    have h1 := zp_c0f h1
    refine zp_ld rfl g2 ?_
    refine zp_i rfl ?_
    refine zp_b26 rfl (fun h2 => ?_) (fun h2 => ?_)
    · have h2 := zp_c0t h2
      exact e35 (by omega)
    have h2 := zp_c0f h2
    refine zp_ld rfl g2 ?_
    refine zp_i rfl ?_
    refine zp_b26 rfl (fun h3 => ?_) (fun h3 => ?_)
    · have h3 := zp_c1t h3
      have hne : ¬ zp_lv (zp_sg f n q) = l := by
        rw [hl]
        intro e
        have := zp_lv4.mp e
        omega
      rw [zp_Qn hs hn hq (by omega) hne] at hyes hno
      refine zp_ld rfl g1 ?_
      exact zp_rt rfl rfl (hyes σ _ rfl hK)
    · have h3 := zp_c1f h3
      exact e35 (by omega)
theorem zm_t166 {l : Nat} (hH : zm_H f n fs0) (hl : l = 4) (hR : zm_R LL xs f n fs0 (l + 1) d) : zm_R LL xs f n fs0 l (d + 1) := by
  intro o p σ post ho hd hK hyes hno
  have hs : ∀ p, n ≤ p → zp_sg f n p = -1 := fun p h => zp_sg_n h
  have hn := hH.1
  have hp := zm_K_p hK
  rw [show zm_mb l = 166 by rw [hl]; rfl]
  rw [zp_Ql hs hn hp (by omega)] at hyes hno
  refine zp_en (mi := rf_m166) rfl (Nat.le_of_ble_eq_true rfl) ?_
  refine zp_la rfl rfl ?_
  refine zp_cli [.ref 63] [] rfl rfl (Nat.le_of_ble_eq_true rfl) rfl rfl (Nat.le_of_ble_eq_true rfl) (zm_K_r hK _ _ _ rfl rfl) rfl rfl ?_
  have hrun := hR o p σ
  rw [show zm_mb (l + 1) = 168 by rw [hl]; rfl] at hrun
  refine hrun _ ho (by omega) hK (fun σ2 w h1 hK2 => ⟨_, rfl, zm_K_l hK hK2, ?_⟩) (fun σ2 w q' o' h1 hK2 => ⟨_, rfl, zm_K_l hK hK2, ?_⟩)
  · rw [if_pos h1] at hyes hno
    refine zp_st rfl ?_
    refine zp_la rfl rfl ?_
    refine zp_cli [.ref 63] [] rfl rfl (Nat.le_of_ble_eq_true rfl) rfl rfl (Nat.le_of_ble_eq_true rfl) (zm_K_r hK2 _ _ _ rfl rfl) rfl rfl ?_
    refine zp_t159 (by omega) hH hK2 (fun z hz => ⟨_, rfl, rfl, ?_⟩)
    refine zp_st rfl ?_
    exact zm_w166 hH hl ho hR (by omega) _ _ _ σ2 w z post (Nat.lt_succ_self _) rfl rfl rfl hz hK2 hyes hno
  · rw [if_neg h1] at hyes hno
    refine zp_st rfl ?_
    refine zp_la rfl rfl ?_
    refine zp_cli [.ref 63] [] rfl rfl (Nat.le_of_ble_eq_true rfl) rfl rfl (Nat.le_of_ble_eq_true rfl) (zm_K_r hK2 _ _ _ rfl rfl) rfl rfl ?_
    refine zp_t159 (by omega) hH hK2 (fun z hz => ⟨_, rfl, rfl, ?_⟩)
    refine zp_st rfl ?_
    exact zm_f166 hH hK2 (by omega) (fun w'' => hno σ2 w'' q' o' (fun e => by cases e) hK2) _ w rfl rfl
end
