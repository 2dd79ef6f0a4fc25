/-! the class's reader: the text, the law laid -/
section
variable {LL : Nat} {xs : Nat → Int32} {d : Nat} {f : Nat → Int32} {n : Nat} {fs0 : List Value} {r : Nat}
theorem zp_w32 {post : rf_P} (hd : 58 ≤ d) (hH : zp_H f n fs0 r) : ∀ (F p : Nat) (k : Bool) (L : rf_L) (σ : rf_S) (w : Int32), n - p < F → rf_get L 0 = some (.ref 11) → rf_get L 1 = some (.int (zp_bi k)) → rf_get L 2 = some (.int w) → 0 ≤ w.toInt → w.toInt ≤ (p : Int) → zp_K f n fs0 r σ p → (∀ σ1 q, zp_T (zp_sg f n) F p k = some q → zp_K f n fs0 r σ1 q → post (some (.int (Int32.ofInt 0))) σ1) → (∀ σ1 q, zp_T (zp_sg f n) F p k = none → zp_K f n fs0 r σ1 q → post (some (.int (Int32.ofInt 1))) σ1) → zb_W (rf_SA LL xs) rf_ms (rf_run (rf_SA LL xs) rf_ms d) rf_m32 14 L [] σ 0 0 post := by
  have hs : ∀ p, n ≤ p → zp_sg f n p = -1 := fun p h => zp_sg_n h
  have hn := hH.1
  have k120 := zp_k (k := 120) (by decide) (by decide)
  have k0 := zp_k (k := 0) (by decide) (by decide)
  have k63 := zp_k (k := 63) (by decide) (by decide)
  have k59 := zp_k (k := 59) (by decide) (by decide)
  have km := zp_k (k := -1) (by decide) (by decide)
  intro F
  induction F with
  | zero => intro p k L σ w hF; exact absurd hF (Nat.not_lt_zero _)
  | succ F ih =>
    intro p k L σ w hF g0 g1 g2 w0 w1 hK hno hyes
    have hp := zp_K_p hK
    refine zp_ld rfl g2 ?_
    refine zp_i rfl ?_
    refine zp_b26 rfl (fun h => ?_) (fun h => ?_)
    · have h := zp_c4t h
      exfalso
      omega
    refine zp_la rfl g0 ?_
    refine zp_i rfl ?_
    refine zp_i rfl ?_
    refine zp_cli [.ref 11, .int (Int32.ofInt 0), .int (Int32.ofInt 0)] [] rfl rfl (Nat.le_of_ble_eq_true rfl) rfl rfl (Nat.le_of_ble_eq_true rfl) (zp_K_r hK _ _ _ rfl rfl) rfl rfl ?_
    have hQ := zp_Q_ok hs (m := 0) (o := 0) hp (by omega)
    refine (zp_rd hH d).1 0 0 p _ _ σ _ (by omega) (by omega) (by omega) k0 k0 hK (fun σ1 hK1 => ⟨_, rfl, zp_K_l hK hK1, ?_⟩)
    refine zp_b25 rfl (fun h1 => ?_) (fun h1 => ?_)
    · have h1 := zp_bi_t (zp_c1t h1)
      have hgt := hQ.2.2 h1 (by omega)
      refine zp_la rfl g0 ?_
      refine zp_cli [.ref 11] [] rfl rfl (Nat.le_of_ble_eq_true rfl) rfl rfl (Nat.le_of_ble_eq_true rfl) (zp_K_r hK1 _ _ _ rfl rfl) rfl rfl ?_
      refine zp_t30 (by omega) hH hK1 (fun z hz => ⟨_, rfl, rfl, ?_⟩)
      refine zp_st rfl ?_
      have m0 : rf_get (rf_set L 3 (.int z)) 0 = some (.ref 11) := zp_gr (by decide) g0
      have m1 : rf_get (rf_set L 3 (.int z)) 1 = some (.int (zp_bi k)) := zp_gi (by decide) g1
      have m2 : rf_get (rf_set L 3 (.int z)) 2 = some (.int w) := zp_gi (by decide) g2
      have m3 : rf_get (rf_set L 3 (.int z)) 3 = some (.int z) := zb_rget_set _ _ _
      generalize rf_set L 3 (.int z) = M at m0 m1 m2 m3 ⊢
      -- on behind the sign
      have e83 : ∀ (k' : Bool) (σ2 : rf_S), (k' = true ∧ zp_sg f n (zp_Q (zp_sg f n) 0 p 0).2 = 63 ∨ k' = false ∧ zp_sg f n (zp_Q (zp_sg f n) 0 p 0).2 = 59) → zp_T (zp_sg f n) (F + 1) p k = zp_T (zp_sg f n) F ((zp_Q (zp_sg f n) 0 p 0).2 + 1) k' → zp_K f n fs0 r σ2 (zp_Q (zp_sg f n) 0 p 0).2 → zb_W (rf_SA LL xs) rf_ms (rf_run (rf_SA LL xs) rf_ms d) rf_m32 83 M [] σ2 0 0 post := by
        intro k' σ2 hk' hT hK2
        rw [hT] at hno hyes
        have hin : (zp_Q (zp_sg f n) 0 p 0).2 < n := zp_sg_l (f := f) (by omega)
        have e94 : ∀ (y : Int32), y = zp_bi k' → zb_W (rf_SA LL xs) rf_ms (rf_run (rf_SA LL xs) rf_ms d) rf_m32 94 M [.int y] σ2 0 0 post := by
          intro y hy
          subst hy
          refine zp_st rfl ?_
          refine zp_pp rfl (zp_gr (by decide) m0) rfl rfl rfl rfl rfl hH hK2 hin (fun σ3 hK3 => ?_)
          refine zp_inc rfl (zp_gi (by decide) m2) ?_
          refine zp_gt rfl ?_
          exact ih _ k' _ σ3 _ (by omega) (zp_gr (by decide) (zp_gr (by decide) m0)) (zp_gi (by decide) (zb_rget_set _ _ _)) (zb_rget_set _ _ _) (by rw [zp_a1 (by omega) (by omega)]; omega) (by rw [zp_a1 (by omega) (by omega)]; omega) hK3 hno hyes
        refine zp_ld rfl m3 ?_
        refine zp_i rfl ?_
        refine zp_b26 rfl (fun h2 => ?_) (fun h2 => ?_)
        · have h2 := zp_c1t h2
          refine zp_i rfl ?_
          rcases hk' with ⟨e, e2⟩ | ⟨e, e2⟩
          · exfalso
            omega
          · exact e94 _ (by rw [e]; rfl)
        · have h2 := zp_c1f h2
          refine zp_i rfl ?_
          refine zp_gt rfl ?_
          rcases hk' with ⟨e, e2⟩ | ⟨e, e2⟩
          · exact e94 _ (by rw [e]; rfl)
          · exfalso
            omega
      refine zp_ld rfl m3 ?_
      refine zp_i rfl ?_
      refine zp_b26 rfl (fun h2 => ?_) (fun h2 => ?_)
      · have h2 := zp_c1t h2
        have n63 : ¬ zp_sg f n (zp_Q (zp_sg f n) 0 p 0).2 = 63 := by omega
        -- the end of a part
        have e70 : (zp_sg f n (zp_Q (zp_sg f n) 0 p 0).2 = 59 ∨ zp_sg f n (zp_Q (zp_sg f n) 0 p 0).2 = -1) → zb_W (rf_SA LL xs) rf_ms (rf_run (rf_SA LL xs) rf_ms d) rf_m32 70 M [] σ1 0 0 post := by
          intro hx
          refine zp_la rfl m0 ?_
          refine zp_i rfl ?_
          refine zp_clv [.ref 11, .int (Int32.ofInt (-59))] [] rfl rfl (Nat.le_of_ble_eq_true rfl) rfl rfl (Nat.le_of_ble_eq_true rfl) (zp_K_r hK1 _ _ _ rfl rfl) rfl rfl ?_
          refine zp_t31 (by omega) hH hK1 (fun σ2 hK2 => ⟨rfl, zp_K_l hK1 hK2, ?_⟩)
          refine zp_ld rfl m3 ?_
          refine zp_i rfl ?_
          refine zp_b26 rfl (fun h3 => ?_) (fun h3 => ?_)
          · have h3 := zp_c1t h3
            have e59 : zp_sg f n (zp_Q (zp_sg f n) 0 p 0).2 = 59 := by omega
            exact e83 false σ2 (Or.inr ⟨rfl, e59⟩) (zp_Ts h1 e59) hK2
          · have h3 := zp_c1f h3
            refine zp_i rfl ?_
            exact zp_rt rfl zp_nb1 (hyes σ2 _ (zp_Te h1 (by omega)) hK2)
        refine zp_ld rfl m3 ?_
        refine zp_i rfl ?_
        refine zp_b26 rfl (fun h3 => ?_) (fun h3 => ?_)
        · have h3 := zp_c0t h3
          exact e70 (by omega)
        have h3 := zp_c0f h3
        refine zp_ld rfl m3 ?_
        refine zp_i rfl ?_
        refine zp_b26 rfl (fun h4 => ?_) (fun h4 => ?_)
        · have h4 := zp_c0t h4
          exact e70 (by omega)
        · have h4 := zp_c0f h4
          refine zp_i rfl ?_
          exact zp_rt rfl zp_nb0 (hno σ1 _ (zp_To h1 n63 (by omega) (by omega)) hK1)
      · have h2 := zp_c1f h2
        have e63 : zp_sg f n (zp_Q (zp_sg f n) 0 p 0).2 = 63 := by omega
        have hT := zp_Tq (F := F) (k := k) h1 e63
        refine zp_ld rfl m1 ?_
        refine zp_b25 rfl (fun h3 => ?_) (fun h3 => ?_)
        · have h3 := zp_bi_f (zp_c0t h3)
          rw [if_neg h3] at hT
          refine zp_la rfl m0 ?_
          refine zp_i rfl ?_
          refine zp_clv [.ref 11, .int (Int32.ofInt (-63))] [] rfl rfl (Nat.le_of_ble_eq_true rfl) rfl rfl (Nat.le_of_ble_eq_true rfl) (zp_K_r hK1 _ _ _ rfl rfl) rfl rfl ?_
          refine zp_t31 (by omega) hH hK1 (fun σ2 hK2 => ⟨rfl, zp_K_l hK1 hK2, ?_⟩)
          refine zp_gt rfl ?_
          exact e83 true σ2 (Or.inl ⟨rfl, e63⟩) hT hK2
        · have h3 := zp_bi_t (zp_c0f h3)
          rw [if_pos h3] at hT
          refine zp_i rfl ?_
          exact zp_rt rfl zp_nb0 (hno σ1 _ hT hK1)
    · have h1 := zp_bi_f (zp_c1f h1)
      refine zp_i rfl ?_
      exact zp_rt rfl zp_nb0 (hno σ1 _ (zp_Tf h1) hK1)
/-- before it reads -/
def zp_K0 (f : Nat → Int32) (fs0 : List Value) (r : Nat) (σ : rf_S) : Prop := σ.length = 90 ∧ σ[11]? = some (.inr (4, fs0)) ∧ σ[12]? = some (.inl (0, 120, .inl f)) ∧ (∃ g : Nat → Int32, σ[r]? = some (.inl (0, 121, .inl g))) ∧ ∃ g9 : Nat → Int32, σ[17]? = some (.inl (0, 448, .inl g9))
theorem zp_s11 {σ : rf_S} {X : va_E} (hl : σ.length = 90) : (σ.set 11 X)[11]? = some X := by
  rw [List.getElem?_set, if_pos rfl, if_pos (by rw [hl]; decide)]
theorem zp_t32 {σ : rf_S} {post : rf_P} (hd : 59 ≤ d) (hH : zp_H f n fs0 r) (hK : zp_K0 f fs0 r σ) (hno : ∀ σ1 q, zp_T (zp_sg f n) 300 0 false = some q → zp_K f n fs0 r σ1 q → post (some (.int (Int32.ofInt 0))) σ1) (hyes : ∀ σ1 q, zp_T (zp_sg f n) 300 0 false = none → zp_K f n fs0 r σ1 q → post (some (.int (Int32.ofInt 1))) σ1) : rf_run (rf_SA LL xs) rf_ms d 32 [.ref 11] σ post := by
  obtain ⟨d, rfl⟩ : ∃ e, d = e + 1 := ⟨d - 1, by omega⟩
  obtain ⟨hl, h11, h12, ⟨g, hr⟩, g9, h17⟩ := hK
  have hn := hH.1
  have hf := hH.2.1
  have hrr := hH.2.2.2.2.2.1
  have k0 := zp_k (k := 0) (by decide) (by decide)
  refine zp_en rfl (Nat.le_of_ble_eq_true rfl) ?_
  refine zp_la rfl rfl ?_
  refine zp_i rfl ?_
  refine zp_pf rfl h11 rfl (by rw [hf]; decide) ?_
  refine zp_la rfl rfl ?_
  refine zp_i rfl ?_
  refine zp_pf rfl (zp_s11 hl) rfl (by rw [List.length_set, hf]; decide) ?_
  refine zp_i rfl ?_
  refine zp_st rfl ?_
  refine zp_i rfl ?_
  refine zp_st rfl ?_
  refine zp_w32 (by omega) hH 300 0 false _ _ (Int32.ofInt 0) (by omega) rfl rfl rfl (by rw [k0]; decide) (by rw [k0]; decide) ⟨by rw [List.length_set, List.length_set]; exact hl, Int32.ofInt 0, Int32.ofInt 0, g, k0, Nat.zero_le _, by rw [k0]; decide, by rw [k0]; decide, ?_, ?_, ?_, g9, ?_⟩ hno hyes
  · exact zp_s11 (by rw [List.length_set]; exact hl)
  · rw [List.getElem?_set, if_neg (by decide), List.getElem?_set, if_neg (by decide)]
    exact h12
  · rw [List.getElem?_set, if_neg (by omega), List.getElem?_set, if_neg (by omega)]
    exact hr
  · rw [List.getElem?_set, if_neg (by decide), List.getElem?_set, if_neg (by decide)]
    exact h17
/-- a row filled -/
theorem zp_w229 {m q : Nat} {w : Int32} {post : rf_P} (hS : rf_isS q = false) (hq : q < 90) (hm : m ≤ 1000) (hpost : ∀ σ1 : rf_S, σ1.length = 90 → post none σ1) : ∀ (k : Nat) (L : rf_L) (σ : rf_S) (g : Nat → Int32) (i : Int32), rf_get L 0 = some (.ref q) → rf_get L 1 = some (.int w) → rf_get L 2 = some (.int i) → rf_get L 3 = some (.int (Int32.ofNat m)) → 0 ≤ i.toInt → i.toInt + (k : Int) = (m : Int) → σ.length = 90 → σ[q]? = some (.inl (0, m, .inl g)) → zb_W (rf_SA LL xs) rf_ms (rf_run (rf_SA LL xs) rf_ms d) rf_m229 5 L [] σ 0 0 post := by
  have km : (Int32.ofNat m).toInt = (m : Int) := Int32.toInt_ofNat_of_lt (by omega)
  intro k
  induction k with
  | zero =>
    intro L σ g i g0 g1 g2 g3 h0 hk hl hr
    refine zp_ld rfl g2 ?_
    refine zp_ld rfl g3 ?_
    refine zp_b26 rfl (fun h => ?_) (fun h => ?_)
    · exact zp_rv rfl (hpost σ hl)
    · have h := zp_c3f h
      exfalso
      omega
  | succ k ih =>
    intro L σ g i g0 g1 g2 g3 h0 hk hl hr
    refine zp_ld rfl g2 ?_
    refine zp_ld rfl g3 ?_
    refine zp_b26 rfl (fun h => ?_) (fun h => ?_)
    · have h := zp_c3t h
      exfalso
      omega
    refine zp_la rfl g0 ?_
    refine zp_ld rfl g2 ?_
    refine zp_ld rfl g1 ?_
    refine zp_is rfl hr (zp_ixs h0 (by omega)) ?_
    refine zp_inc rfl g2 ?_
    refine zp_gt rfl ?_
    exact ih _ _ (upd g i.toNatClampNeg w) _ (zp_gr (by decide) g0) (zp_gi (by decide) g1) (zb_rget_set _ _ _) (zp_gi (by decide) g3) (by rw [zp_a1 (by omega) (by omega)]; omega) (by rw [zp_a1 (by omega) (by omega)]; omega) (by rw [List.length_set]; exact hl) (by rw [List.getElem?_set, if_pos rfl, if_pos (by rw [hl]; exact hq)])
theorem zp_t229 {m q : Nat} {w : Int32} {g : Nat → Int32} {σ : rf_S} {post : rf_P} (hd : 1 ≤ d) (hS : rf_isS q = false) (hq : q < 90) (hm : m ≤ 1000) (hl : σ.length = 90) (hr : σ[q]? = some (.inl (0, m, .inl g))) (hpost : ∀ σ1 : rf_S, σ1.length = 90 → post none σ1) : rf_run (rf_SA LL xs) rf_ms d 229 [.ref q, .int w] σ post := by
  obtain ⟨d, rfl⟩ : ∃ e, d = e + 1 := ⟨d - 1, by omega⟩
  have k0 := zp_k (k := 0) (by decide) (by decide)
  refine zp_en rfl (Nat.le_of_ble_eq_true rfl) ?_
  refine zp_i rfl ?_
  refine zp_st rfl ?_
  refine zp_la rfl rfl ?_
  refine zp_ln rfl hS hr ?_
  refine zp_st rfl ?_
  exact zp_w229 hS hq hm hpost m _ σ g (Int32.ofInt 0) rfl rfl rfl rfl (by rw [k0]; decide) (by rw [k0]; omega) hl hr
theorem zp_t29 {σ : rf_S} {post : rf_P} (hd : 60 ≤ d) (hH : zp_H f n fs0 r) (hK : zp_K0 f fs0 r σ) (hpost : ∀ (w : Int32) (σ1 : rf_S), σ1.length = 90 → w.toInt = zp_ans (zp_sg f n) → post (some (.int w)) σ1) : rf_run (rf_SA LL xs) rf_ms d 29 [.ref 11] σ post := by
  obtain ⟨d, rfl⟩ : ∃ e, d = e + 1 := ⟨d - 1, by omega⟩
  have hl0 := hK.1
  have k1 := zp_k (k := 1) (by decide) (by decide)
  have kh := zp_k (k := -100) (by decide) (by decide)
  have hf := hH.2.1
  obtain ⟨r5, h5⟩ := hH.2.2.2.2.2.2.2.1
  have h6 := hH.2.2.2.2.1
  have h9 := hH.2.2.2.2.2.2.2.2
  refine zp_en rfl (Nat.le_of_ble_eq_true rfl) ?_
  refine zp_la rfl rfl ?_
  refine zp_cli [.ref 11] [] rfl rfl (Nat.le_of_ble_eq_true rfl) rfl rfl (Nat.le_of_ble_eq_true rfl) (zp_recv hK.2.1) rfl rfl ?_
  refine zp_t32 (by omega) hH hK (fun σ1 q hT hK1 => ⟨_, rfl, by rw [hK1.1, hl0], ?_⟩) (fun σ1 q hT hK1 => ⟨_, rfl, by rw [hK1.1, hl0], ?_⟩)
  · obtain ⟨hl, z, dl, g, hz, hp, d0, d1, h11, h12, hr, g9, h17⟩ := hK1
    have hn := hH.1
    refine zp_st rfl ?_
    refine zp_la rfl rfl ?_
    refine zp_i rfl ?_
    refine zp_pf rfl h11 rfl (by rw [zp_fs_l, hf]; decide) ?_
    refine zp_ld rfl rfl ?_
    refine zp_b25 rfl (fun h => ?_) (fun h => ?_)
    · exact absurd (by decide) (zp_c1t h)
    refine zp_i rfl ?_
    refine zp_la rfl rfl ?_
    refine zp_gf rfl (zp_s11 hl) (by rw [List.getElem?_set, if_neg (by decide)]; exact zp_fs_1 hf) ?_
    refine zp_bn rfl ?_
    refine zp_rt rfl rfl (hpost _ _ (by rw [List.length_set]; exact hl) ?_)
    show (Int32.ofInt (-100) - z).toInt = _
    rw [zb_sub' (by omega) (by omega), kh, hz]
    unfold zp_ans
    rw [hT]
  · obtain ⟨hl, z, dl, g, hz, hp, d0, d1, h11, h12, hr, g9, h17⟩ := hK1
    refine zp_st rfl ?_
    refine zp_la rfl rfl ?_
    refine zp_i rfl ?_
    refine zp_pf rfl h11 rfl (by rw [zp_fs_l, hf]; decide) ?_
    refine zp_ld rfl rfl ?_
    refine zp_b25 rfl (fun h => ?_) (fun h => ?_)
    · refine zp_la rfl rfl ?_
      have f5 : ((zp_fs fs0 z dl).set 0 (.int (Int32.ofInt 0)))[5]? = some (.ref r5) := by
        rw [List.getElem?_set, if_neg (by decide)]
        exact zp_fs_o h5 (by decide) (by decide)
      have f6 : ((zp_fs fs0 z dl).set 0 (.int (Int32.ofInt 0)))[6]? = some (.ref r) := by
        rw [List.getElem?_set, if_neg (by decide)]
        exact zp_fs_o h6 (by decide) (by decide)
      have f9 : ((zp_fs fs0 z dl).set 0 (.int (Int32.ofInt 0)))[9]? = some (.ref 17) := by
        rw [List.getElem?_set, if_neg (by decide)]
        exact zp_fs_o h9 (by decide) (by decide)
      have f2 : ((zp_fs fs0 z dl).set 0 (.int (Int32.ofInt 0)))[2]? = some (.int dl) := by
        rw [List.getElem?_set, if_neg (by decide)]
        exact zp_fs_2 hf
      have fl : ((zp_fs fs0 z dl).set 0 (.int (Int32.ofInt 0))).length = 11 := by
        rw [List.length_set, zp_fs_l, hf]
      generalize (zp_fs fs0 z dl).set 0 (.int (Int32.ofInt 0)) = G at f5 f6 f9 f2 fl ⊢
      have hl2 : ∀ X : va_E, (σ1.set 11 X).length = 90 := fun X => by
        rw [List.length_set]
        exact hl
      refine zp_gf rfl (zp_s11 hl) f5 ?_
      refine zp_sa rfl ?_
      refine zp_la rfl rfl ?_
      refine zp_la rfl rfl ?_
      refine zp_gf rfl (zp_s11 hl) f6 ?_
      refine zp_pf rfl (zp_s11 hl) rfl (by rw [fl]; decide) ?_
      rw [List.set_set]
      refine zp_la rfl rfl ?_
      refine zp_la rfl rfl ?_
      refine zp_pf rfl (zp_s11 hl) rfl (by rw [List.length_set, fl]; decide) ?_
      rw [List.set_set]
      refine zp_la rfl rfl ?_
      refine zp_la rfl rfl ?_
      refine zp_gf rfl (zp_s11 hl) (by rw [List.getElem?_set, if_neg (by decide), List.getElem?_set, if_neg (by decide)]; exact f2) ?_
      refine zp_pf rfl (zp_s11 hl) rfl (by rw [List.length_set, List.length_set, fl]; decide) ?_
      rw [List.set_set]
      refine zp_la rfl rfl ?_
      refine zp_gf rfl (zp_s11 hl) (by rw [List.getElem?_set, if_neg (by decide), List.getElem?_set, if_neg (by decide), List.getElem?_set, if_neg (by decide)]; exact f9) ?_
      refine zp_i rfl ?_
      refine zp_clv [.ref 17, .int (Int32.ofInt 0)] [] rfl rfl (Nat.le_of_ble_eq_true rfl) rfl rfl (Nat.le_of_ble_eq_true rfl) rfl rfl rfl ?_
      refine zp_t229 (m := 448) (g := g9) (by omega) rfl (by decide) (by decide) (hl2 _) (by rw [List.getElem?_set, if_neg (by decide)]; exact h17) (fun σ2 hl3 => ⟨rfl, by rw [hl3, hl2], ?_⟩)
      refine zp_i rfl ?_
      refine zp_rt rfl rfl (hpost _ _ hl3 ?_)
      rw [k1]
      unfold zp_ans
      rw [hT]
    · exact absurd (zp_c1f h) (by decide)
theorem zp_t103 {σ : rf_S} {post : rf_P} {fs9 : List Value} (hd : 61 ≤ d) (h0 : σ[0]? = some (.inr (9, fs9))) (h01 : fs9[1]? = some (.ref 11)) (hH : zp_H f n fs0 r) (hK : zp_K0 f fs0 r σ) (hpost : ∀ (w : Int32) (σ1 : rf_S), σ1.length = 90 → w.toInt = zp_ans (zp_sg f n) → post (some (.int w)) σ1) : rf_run (rf_SA LL xs) rf_ms d 103 [.ref 0] σ post := by
  obtain ⟨d, rfl⟩ : ∃ e, d = e + 1 := ⟨d - 1, by omega⟩
  refine zp_en rfl (Nat.le_of_ble_eq_true rfl) ?_
  refine zp_la rfl rfl ?_
  refine zp_gf rfl h0 h01 ?_
  refine zp_cli [.ref 11] [] rfl rfl (Nat.le_of_ble_eq_true rfl) rfl rfl (Nat.le_of_ble_eq_true rfl) (zp_recv hK.2.1) rfl rfl ?_
  refine zp_t29 (by omega) hH hK (fun w σ1 hl hw => ⟨_, rfl, by rw [hl, hK.1], ?_⟩)
  exact zp_rt rfl rfl (hpost w σ1 hl hw)
end
