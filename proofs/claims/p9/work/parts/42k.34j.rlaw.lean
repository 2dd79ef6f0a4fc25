/-! the reference's reader: the text, its law -/
section
variable {LL : Nat} {xs : Nat → Int32} {d : Nat} {f : Nat → Int32} {n : Nat} {fs0 : List Value}
/-- the fault of an answer -/
def zm_ft (r : Option Nat) : Int := match r with
  | none => -1
  | some q => (q : Int)
/-- the locals of workOut -/
def zm_L (L : rf_L) : Prop := rf_get L 0 = some (.ref 63) ∧ (∃ x : Int32, rf_get L 3 = some (.int x)) ∧ ∃ x : Int32, rf_get L 4 = some (.int x)
theorem zm_L_set {L : rf_L} {i : Nat} {x : Int32} (h : zm_L L) (h0 : ¬ i = 0) : zm_L (rf_set L i (.int x)) := by
  obtain ⟨g0, ⟨x3, g3⟩, x4, g4⟩ := h
  refine ⟨zp_gr (fun e => h0 e.symm) g0, ?_, ?_⟩
  · by_cases e : i = 3
    · subst e
      exact ⟨x, zb_rget_set _ _ _⟩
    · exact ⟨x3, zp_gi (fun q => e q.symm) g3⟩
  · by_cases e : i = 4
    · subst e
      exact ⟨x, zb_rget_set _ _ _⟩
    · exact ⟨x4, zp_gi (fun q => e q.symm) g4⟩
theorem zm_w169 {post : rf_P} (hd : 58 ≤ d) (hH : zm_H f n fs0) : ∀ (F p : Nat) (L : rf_L) (σ : rf_S) (g : Int32), n - p < F → zm_L L → rf_get L 5 = some (.int g) → ¬ g.toInt = 0 → zm_K f n fs0 σ p (-1) 0 → (∀ σ1 w q o', zm_K f n fs0 σ1 q (zm_ft (zp_T (zp_sg f n) F p false)) o' → post (some (.int w)) σ1) → zb_W (rf_SA LL xs) rf_ms (rf_run (rf_SA LL xs) rf_ms d) rf_m169 33 L [] σ 0 0 post := by
  have hs : ∀ p, n ≤ p → zp_sg f n p = -1 := fun p h => zp_sg_n h
  have hn := hH.1
  have k0 := zp_k0
  have k63 := zp_k (k := 63) (by decide) (by decide)
  have k59 := zp_k (k := 59) (by decide) (by decide)
  -- the end, without a fault
  have e107 : ∀ (L : rf_L) (σ : rf_S) (q : Nat) (o : Int), zm_L L → zm_K f n fs0 σ q (-1) o → (∀ σ1 w q' o', zm_K f n fs0 σ1 q' (if q < n then (q : Int) else -1) o' → post (some (.int w)) σ1) → zb_W (rf_SA LL xs) rf_ms (rf_run (rf_SA LL xs) rf_ms d) rf_m169 107 L [] σ 0 0 post := by
    intro L σ q o hL hK hp
    obtain ⟨g0, -, x4, g4⟩ := hL
    obtain ⟨ee, he, hee⟩ := hH.2.2.2.1
    refine zp_la rfl g0 ?_
    refine zm_gft rfl hH hK (fun y hy => ?_)
    refine zp_b25 rfl (fun h => ?_) (fun h => ?_)
    · have h := zp_c3t h
      exfalso
      omega
    refine zp_la rfl g0 ?_
    refine zm_gat rfl hH hK (fun z hz => ?_)
    refine zp_la rfl g0 ?_
    refine zm_gfs rfl hK he (by decide) (by decide) (by decide) ?_
    refine zp_b26 rfl (fun h1 => ?_) (fun h1 => ?_)
    · have h1 := zp_c3t h1
      rw [if_neg (by omega)] at hp
      refine zp_ld rfl g4 ?_
      exact zp_rt rfl rfl (hp σ _ _ _ hK)
    · have h1 := zp_c3f h1
      rw [if_pos (by omega)] at hp
      refine zp_la rfl g0 ?_
      refine zp_cli [.ref 63] [] rfl rfl (Nat.le_of_ble_eq_true rfl) rfl rfl (Nat.le_of_ble_eq_true rfl) (zm_K_r hK _ _ _ rfl rfl) rfl rfl ?_
      refine zp_t160 (by omega) hH hK (fun σ1 hK1 => ⟨_, rfl, zm_K_l hK hK1, ?_⟩)
      rw [if_pos (by decide)] at hK1
      exact zp_rt rfl rfl (hp σ1 _ _ _ hK1)
  -- with one, from each place behind which something stands
  have f96 : ∀ (L : rf_L) (σ : rf_S) (q : Nat) (ft o : Int), zm_L L → 0 ≤ ft → zm_K f n fs0 σ q ft o → (∀ w, post (some (.int w)) σ) → zb_W (rf_SA LL xs) rf_ms (rf_run (rf_SA LL xs) rf_ms d) rf_m169 96 L [] σ 0 0 post := by
    intro L σ q ft o hL hft hK hp
    obtain ⟨g0, -, x4, g4⟩ := hL
    refine zp_la rfl g0 ?_
    refine zp_i rfl ?_
    refine zp_cli [.ref 63, .int (Int32.ofInt 59)] [] rfl rfl (Nat.le_of_ble_eq_true rfl) rfl rfl (Nat.le_of_ble_eq_true rfl) (zm_K_r hK _ _ _ rfl rfl) rfl rfl ?_
    refine zp_t161f (by omega) hH hK hft ⟨_, rfl, rfl, ?_⟩
    refine zp_st rfl ?_
    refine zp_gt rfl ?_
    refine zp_ld rfl (zb_rget_set _ _ _) ?_
    refine zp_b25 rfl (fun h => ?_) (fun h => ?_)
    · refine zp_la rfl (zp_gr (by decide) g0) ?_
      refine zm_gft rfl hH hK (fun y hy => ?_)
      refine zp_b25 rfl (fun h1 => ?_) (fun h1 => ?_)
      · refine zp_ld rfl (zp_gi (by decide) g4) ?_
        exact zp_rt rfl rfl (hp _)
      · have h1 := zp_c3f h1
        exfalso
        omega
    · exact absurd (by decide) (zp_c0f h)
  have f74 : ∀ (L : rf_L) (σ : rf_S) (q : Nat) (ft o : Int), zm_L L → 0 ≤ ft → zm_K f n fs0 σ q ft o → (∀ w, post (some (.int w)) σ) → zb_W (rf_SA LL xs) rf_ms (rf_run (rf_SA LL xs) rf_ms d) rf_m169 74 L [] σ 0 0 post := by
    intro L σ q ft o hL hft hK hp
    refine zp_la rfl hL.1 ?_
    refine zm_gft rfl hH hK (fun y hy => ?_)
    refine zp_b25 rfl (fun h => ?_) (fun h => ?_)
    · exact f96 L σ q ft o hL hft hK hp
    · have h := zp_c3f h
      exfalso
      omega
  -- what is found is kept
  have e74 : ∀ (L : rf_L) (σ : rf_S) (q : Nat) (o : Int) (x6 x7 : Int32), zm_L L → rf_get L 6 = some (.int x6) → rf_get L 7 = some (.int x7) → zm_K f n fs0 σ q (-1) o → (∀ M, zm_L M → zb_W (rf_SA LL xs) rf_ms (rf_run (rf_SA LL xs) rf_ms d) rf_m169 96 M [] σ 0 0 post) → zb_W (rf_SA LL xs) rf_ms (rf_run (rf_SA LL xs) rf_ms d) rf_m169 74 L [] σ 0 0 post := by
    intro L σ q o x6 x7 hL g6 g7 hK h96
    obtain ⟨x3, g3⟩ := hL.2.1
    refine zp_la rfl hL.1 ?_
    refine zm_gft rfl hH hK (fun y hy => ?_)
    refine zp_b25 rfl (fun h => ?_) (fun h => ?_)
    · exact h96 L hL
    refine zp_ld rfl g7 ?_
    refine zp_b25 rfl (fun h1 => ?_) (fun h1 => ?_)
    · exact h96 L hL
    refine zp_ld rfl g3 ?_
    refine zp_b25 rfl (fun h2 => ?_) (fun h2 => ?_)
    · exact h96 L hL
    refine zp_i rfl ?_
    refine zp_st rfl ?_
    refine zp_ld rfl (zp_gi (by decide) g6) ?_
    refine zp_st rfl ?_
    exact h96 _ (zm_L_set (zm_L_set hL (by decide)) (by decide))
  intro F
  induction F using Nat.strongRecOn with
  | ind F ih =>
    intro p L σ g hF hL g5 hg hK hpost
    obtain ⟨F, rfl⟩ : ∃ e, F = e + 1 := ⟨F - 1, by omega⟩
    have hp := zm_K_p hK
    have hQ := zp_Q_ok hs (m := 0) (o := 0) hp (by omega)
    refine zp_ld rfl g5 ?_
    refine zp_b25 rfl (fun h => ?_) (fun h => ?_)
    · have h := zp_c0t h
      exfalso
      omega
    refine zp_la rfl hL.1 ?_
    refine zp_cli [.ref 63] [] rfl rfl (Nat.le_of_ble_eq_true rfl) rfl rfl (Nat.le_of_ble_eq_true rfl) (zm_K_r hK _ _ _ rfl rfl) rfl rfl ?_
    have hrun := zm_rd (LL := LL) (xs := xs) hH d 0 (by decide) 0 p σ
    rw [show zm_mb 0 = 162 from rfl] at hrun
    -- behind an expression without a fault
    have e96 : ∀ (M : rf_L) (σ1 : rf_S) (q G : Nat), zm_L M → zm_K f n fs0 σ1 q (-1) 0 → G < F + 1 → n - q ≤ G → p < q → (zp_sg f n q = 59 → zp_T (zp_sg f n) (F + 1) p false = zp_T (zp_sg f n) G (q + 1) false) → (¬ zp_sg f n q = 59 → zm_ft (zp_T (zp_sg f n) (F + 1) p false) = if q < n then (q : Int) else -1) → zb_W (rf_SA LL xs) rf_ms (rf_run (rf_SA LL xs) rf_ms d) rf_m169 96 M [] σ1 0 0 post := by
      intro M σ1 q G hM hK1 hG hq hpq h59 hx
      refine zp_la rfl hM.1 ?_
      refine zp_i rfl ?_
      refine zp_cli [.ref 63, .int (Int32.ofInt 59)] [] rfl rfl (Nat.le_of_ble_eq_true rfl) rfl rfl (Nat.le_of_ble_eq_true rfl) (zm_K_r hK1 _ _ _ rfl rfl) rfl rfl ?_
      refine zp_t161 (by omega) hH hK1 (by rw [k59]; decide) (fun he σ2 hK2 => ⟨_, rfl, zm_K_l hK1 hK2, ?_⟩) (fun he => ⟨_, rfl, rfl, ?_⟩)
      · rw [k59] at he
        rw [h59 he] at hpost
        have hqn : q < n := zp_sg_l (f := f) (by omega)
        refine zp_st rfl ?_
        refine zp_gt rfl ?_
        exact ih G hG (q + 1) _ σ2 _ (by omega) (zm_L_set hM (by decide)) (zb_rget_set _ _ _) (by decide) hK2 hpost
      · rw [k59] at he
        rw [hx he] at hpost
        refine zp_st rfl ?_
        refine zp_gt rfl ?_
        refine zp_ld rfl (zb_rget_set _ _ _) ?_
        refine zp_b25 rfl (fun h => ?_) (fun h => ?_)
        · exact e107 _ σ1 q 0 (zm_L_set hM (by decide)) hK1 hpost
        · exact absurd (by decide) (zp_c0f h)
    refine hrun _ (by decide) (by omega) hK (fun σ1 w h1 hK1 => ⟨_, rfl, zm_K_l hK hK1, ?_⟩) (fun σ1 w q' o' h1 hK1 => ⟨_, rfl, zm_K_l hK hK1, ?_⟩)
    · have hgt := hQ.2.2 h1 (by omega)
      refine zp_st rfl ?_
      refine zp_i rfl ?_
      refine zp_st rfl ?_
      have hM : zm_L (rf_set (rf_set L 6 (.int w)) 7 (.int (Int32.ofInt 1))) := zm_L_set (zm_L_set hL (by decide)) (by decide)
      have m6 : rf_get (rf_set (rf_set L 6 (.int w)) 7 (.int (Int32.ofInt 1))) 6 = some (.int w) := zp_gi (by decide) (zb_rget_set _ _ _)
      have m7 : rf_get (rf_set (rf_set L 6 (.int w)) 7 (.int (Int32.ofInt 1))) 7 = some (.int (Int32.ofInt 1)) := zb_rget_set _ _ _
      generalize rf_set (rf_set L 6 (.int w)) 7 (.int (Int32.ofInt 1)) = M at hM m6 m7 ⊢
      refine zp_la rfl hM.1 ?_
      refine zp_i rfl ?_
      refine zp_cli [.ref 63, .int (Int32.ofInt 63)] [] rfl rfl (Nat.le_of_ble_eq_true rfl) rfl rfl (Nat.le_of_ble_eq_true rfl) (zm_K_r hK1 _ _ _ rfl rfl) rfl rfl ?_
      refine zp_t161 (by omega) hH hK1 (by rw [k63]; decide) (fun he σ2 hK2 => ⟨_, rfl, zm_K_l hK1 hK2, ?_⟩) (fun he => ⟨_, rfl, rfl, ?_⟩)
      · rw [k63] at he
        have hqn : (zp_Q (zp_sg f n) 0 p 0).2 < n := zp_sg_l (f := f) (by omega)
        obtain ⟨G, rfl⟩ : ∃ e, F = e + 1 := ⟨F - 1, by omega⟩
        have hT : zp_T (zp_sg f n) (G + 1 + 1) p false = zp_T (zp_sg f n) (G + 1) ((zp_Q (zp_sg f n) 0 p 0).2 + 1) true := by
          rw [zp_Tq h1 he, if_neg (by decide)]
        have hQ2 := zp_Q_ok hs (m := 0) (o := 0) (zm_K_p hK2) (by omega)
        refine zp_b25 rfl (fun h => ?_) (fun h => ?_)
        · exact absurd (zp_c0t h) (by decide)
        have e66 : ∀ x : Int32, zb_W (rf_SA LL xs) rf_ms (rf_run (rf_SA LL xs) rf_ms d) rf_m169 66 M [.int x] σ2 0 0 post := by
          intro x
          refine zp_st rfl ?_
          refine zp_la rfl (zp_gr (by decide) hM.1) ?_
          refine zp_cli [.ref 63] [] rfl rfl (Nat.le_of_ble_eq_true rfl) rfl rfl (Nat.le_of_ble_eq_true rfl) (zm_K_r hK2 _ _ _ rfl rfl) rfl rfl ?_
          have hrun2 := zm_rd (LL := LL) (xs := xs) hH d 0 (by decide) 0 ((zp_Q (zp_sg f n) 0 p 0).2 + 1) σ2
          rw [show zm_mb 0 = 162 from rfl] at hrun2
          refine hrun2 _ (by decide) (by omega) hK2 (fun σ3 w3 h3 hK3 => ⟨_, rfl, zm_K_l hK2 hK3, ?_⟩) (fun σ3 w3 q' o' h3 hK3 => ⟨_, rfl, zm_K_l hK2 hK3, ?_⟩)
          · have hgt2 := hQ2.2.2 h3 (by omega)
            refine zp_st rfl ?_
            refine e74 _ σ3 _ 0 w3 x (zm_L_set (zm_L_set hM (by decide)) (by decide)) (zb_rget_set _ _ _) (zp_gi (by decide) (zb_rget_set _ _ _)) hK3 (fun M2 hM2 => ?_)
            refine e96 M2 σ3 _ G hM2 hK3 (by omega) (by omega) (by omega) (fun h59 => ?_) (fun h59 => ?_)
            · rw [hT, zp_Ts h3 h59]
            · rw [hT]
              have hq3 := zm_K_p hK3
              by_cases q63 : zp_sg f n (zp_Q (zp_sg f n) 0 ((zp_Q (zp_sg f n) 0 p 0).2 + 1) 0).2 = 63
              · rw [zp_Tq h3 q63, if_pos rfl, if_pos (zp_sg_l (f := f) (by omega))]
                rfl
              · by_cases qe : (zp_Q (zp_sg f n) 0 ((zp_Q (zp_sg f n) 0 p 0).2 + 1) 0).2 < n
                · have hb := zp_sg_0 hH.2.2.2.2.2.2 qe
                  rw [zp_To h3 q63 h59 (by omega), if_pos qe]
                  rfl
                · rw [zp_Te h3 (zp_sg_n (by omega)), if_neg qe]
                  rfl
          · refine zp_st rfl ?_
            rw [hT, zp_Tf h3] at hpost
            exact f74 _ σ3 q' _ o' (zm_L_set (zm_L_set hM (by decide)) (by decide)) (by omega) hK3 (fun w4 => hpost σ3 w4 q' o' hK3)
        refine zp_ld rfl m6 ?_
        refine zp_b25 rfl (fun h2 => ?_) (fun h2 => ?_)
        · exact zp_i rfl (e66 _)
        · exact zp_i rfl (zp_gt rfl (e66 _))
      · rw [k63] at he
        refine zp_b25 rfl (fun h => ?_) (fun h => ?_)
        · refine e74 M σ1 _ 0 w _ hM m6 m7 hK1 (fun M2 hM2 => ?_)
          refine e96 M2 σ1 _ F hM2 hK1 (by omega) (by omega) hgt (fun h59 => ?_) (fun h59 => ?_)
          · rw [zp_Ts h1 h59]
          · by_cases qe : (zp_Q (zp_sg f n) 0 p 0).2 < n
            · have hb := zp_sg_0 hH.2.2.2.2.2.2 qe
              rw [zp_To h1 he h59 (by omega), if_pos qe]
              rfl
            · rw [zp_Te h1 (zp_sg_n (by omega)), if_neg qe]
              rfl
        · exact absurd (by decide) (zp_c0f h)
    · refine zp_st rfl ?_
      refine zp_i rfl ?_
      refine zp_st rfl ?_
      rw [zp_Tf h1] at hpost
      have hM : zm_L (rf_set (rf_set L 6 (.int w)) 7 (.int (Int32.ofInt 1))) := zm_L_set (zm_L_set hL (by decide)) (by decide)
      generalize rf_set (rf_set L 6 (.int w)) 7 (.int (Int32.ofInt 1)) = M at hM ⊢
      refine zp_la rfl hM.1 ?_
      refine zp_i rfl ?_
      refine zp_cli [.ref 63, .int (Int32.ofInt 63)] [] rfl rfl (Nat.le_of_ble_eq_true rfl) rfl rfl (Nat.le_of_ble_eq_true rfl) (zm_K_r hK1 _ _ _ rfl rfl) rfl rfl ?_
      refine zp_t161f (by omega) hH hK1 (by omega) ⟨_, rfl, rfl, ?_⟩
      refine zp_b25 rfl (fun h => ?_) (fun h => ?_)
      · exact f74 M σ1 q' _ o' hM (by omega) hK1 (fun w4 => hpost σ1 w4 q' o' hK1)
      · exact absurd (by decide) (zp_c0f h)
/-- before it reads -/
def zm_K0 (f : Nat → Int32) (n : Nat) (fsA : List Value) (σ : rf_S) : Prop := σ.length = 90 ∧ σ[63]? = some (.inr (10, fsA)) ∧ σ[70]? = some (.inl (0, 120, .inl f)) ∧ (∃ g1 : Nat → Int32, σ[71]? = some (.inl (0, 120, .inl g1))) ∧ (∃ g2 : Nat → Int32, σ[72]? = some (.inl (0, 6, .inl g2))) ∧ n ≤ 120 ∧ fsA.length = 62 ∧ (∃ m : Int32, fsA[15]? = some (.int m) ∧ m.toInt = (n : Int)) ∧ fsA[14]? = some (.ref 70) ∧ fsA[16]? = some (.ref 71) ∧ fsA[23]? = some (.ref 72) ∧ zp_by f n
def zm_f0 (fsA : List Value) (b e : Int32) : List Value := (fsA.set 18 (.int b)).set 20 (.int e)
theorem zm_f0_o {fsA : List Value} {b e : Int32} {c : Nat} {v : Value} (h : fsA[c]? = some v) (h1 : ¬ 18 = c) (h2 : ¬ 20 = c) : (zm_f0 fsA b e)[c]? = some v := by
  unfold zm_f0
  rw [List.getElem?_set, if_neg h2, List.getElem?_set, if_neg h1]
  exact h
theorem zm_f0_H {fsA : List Value} {b e : Int32} {σ : rf_S} (h : zm_K0 f n fsA σ) (hb : b.toInt = -1) (he : e.toInt = (n : Int)) : zm_H f n (zm_f0 fsA b e) := by
  obtain ⟨-, -, -, -, -, hn, hl, -, h14, h16, h23, hby⟩ := h
  refine ⟨hn, by unfold zm_f0; rw [List.length_set, List.length_set, hl], ⟨b, ?_, hb⟩, ⟨e, ?_, he⟩, zm_f0_o h14 (by decide) (by decide), zm_f0_o h23 (by decide) (by decide), hby⟩
  · unfold zm_f0
    rw [List.getElem?_set, if_neg (by decide), List.getElem?_set, if_pos rfl, if_pos (by rw [hl]; decide)]
  · unfold zm_f0
    rw [List.getElem?_set, if_pos rfl, if_pos (by rw [List.length_set, hl]; decide)]
theorem zm_s63 {σ : rf_S} {X : va_E} (hl : σ.length = 90) : (σ.set 63 X)[63]? = some X := by
  rw [List.getElem?_set, if_pos rfl, if_pos (by rw [hl]; decide)]
theorem zp_t169 {fsA : List Value} {b e : Int32} {σ : rf_S} {post : rf_P} (hd : 59 ≤ d) (hK : zm_K0 f n fsA σ) (hb : b.toInt = -1) (he : e.toInt = (n : Int)) (hpost : ∀ σ1 w q o', zm_K f n (zm_f0 fsA b e) σ1 q (zm_ft (zp_T (zp_sg f n) 300 0 false)) o' → post (some (.int w)) σ1) : rf_run (rf_SA LL xs) rf_ms d 169 [.ref 63, .int b, .int e] σ post := by
  obtain ⟨d, rfl⟩ : ∃ e, d = e + 1 := ⟨d - 1, by omega⟩
  have hH := zm_f0_H hK hb he
  obtain ⟨hl, h63, h70, ⟨g1, h71⟩, ⟨g2, h72⟩, hn, hf, -, h14, h16, h23, hby⟩ := hK
  have k0 := zp_k (k := 0) (by decide) (by decide)
  have k1 := zp_k (k := 1) (by decide) (by decide)
  have km := zp_k (k := -1) (by decide) (by decide)
  refine zp_en rfl (Nat.le_of_ble_eq_true rfl) ?_
  refine zp_la rfl rfl ?_
  refine zp_ld rfl rfl ?_
  refine zp_pf rfl h63 rfl (by rw [hf]; decide) ?_
  refine zp_la rfl rfl ?_
  refine zp_i rfl ?_
  refine zp_pf rfl (zm_s63 hl) rfl (by rw [List.length_set, hf]; decide) ?_
  rw [List.set_set]
  refine zp_la rfl rfl ?_
  refine zp_ld rfl rfl ?_
  refine zp_pf rfl (zm_s63 hl) rfl (by rw [List.length_set, List.length_set, hf]; decide) ?_
  rw [List.set_set]
  refine zp_la rfl rfl ?_
  refine zp_i rfl ?_
  refine zp_pf rfl (zm_s63 hl) rfl (by rw [List.length_set, List.length_set, List.length_set, hf]; decide) ?_
  rw [List.set_set]
  refine zp_la rfl rfl ?_
  refine zp_i rfl ?_
  refine zp_pf rfl (zm_s63 hl) rfl (by rw [List.length_set, List.length_set, List.length_set, List.length_set, hf]; decide) ?_
  rw [List.set_set]
  have efs : ((((fsA.set 18 (.int b)).set 19 (.int (Int32.ofInt 0))).set 20 (.int e)).set 21 (.int (Int32.ofInt (-1)))).set 22 (.int (Int32.ofInt 0)) = zm_fs (zm_f0 fsA b e) (Int32.ofInt 0) (Int32.ofInt (-1)) (Int32.ofInt 0) := by
    unfold zm_fs zm_f0
    rw [List.set_comm _ _ (by decide : (19 : Nat) ≠ 20)]
  rw [efs]
  refine zp_i rfl ?_
  refine zp_st rfl ?_
  refine zp_i rfl ?_
  refine zp_st rfl ?_
  refine zp_i rfl ?_
  refine zp_st rfl ?_
  refine zm_w169 (by omega) hH 300 0 _ _ (Int32.ofInt 1) (by omega) ⟨rfl, ⟨_, rfl⟩, ⟨_, rfl⟩⟩ rfl (by rw [k1]; decide) ⟨by rw [List.length_set]; exact hl, Int32.ofInt 0, Int32.ofInt (-1), Int32.ofInt 0, g1, g2, k0, km, k0, Nat.zero_le _, zm_s63 hl, ?_, ?_, ?_⟩ hpost
  · rw [List.getElem?_set, if_neg (by decide)]
    exact h70
  · rw [List.getElem?_set, if_neg (by decide)]
    exact h71
  · rw [List.getElem?_set, if_neg (by decide)]
    exact h72
/-- the text goes over -/
theorem zm_w170 {post : rf_P} {G : List Value} {m : Int32} (hG : G.length = 62) (h14 : G[14]? = some (.ref 70)) (h16 : G[16]? = some (.ref 71)) (hn : n ≤ 120) (hm : m.toInt = (n : Int)) (hpost : ∀ σ1 : rf_S, σ1.length = 90 → post (some (.int (Int32.ofInt 1))) σ1) : ∀ (k : Nat) (L : rf_L) (σ : rf_S) (i : Int32) (g1 : Nat → Int32), rf_get L 0 = some (.ref 63) → rf_get L 2 = some (.int m) → rf_get L 3 = some (.int i) → 0 ≤ i.toInt → i.toInt + (k : Int) = (n : Int) → σ.length = 90 → σ[63]? = some (.inr (10, G)) → σ[70]? = some (.inl (0, 120, .inl f)) → σ[71]? = some (.inl (0, 120, .inl g1)) → zb_W (rf_SA LL xs) rf_ms (rf_run (rf_SA LL xs) rf_ms d) rf_m170 37 L [] σ 0 0 post := by
  intro k
  induction k with
  | zero =>
    intro L σ i g1 g0 g2 g3 hi hk hl h63 h70 h71
    refine zp_ld rfl g3 ?_
    refine zp_ld rfl g2 ?_
    refine zp_b26 rfl (fun h => ?_) (fun h => ?_)
    · refine zp_la rfl g0 ?_
      refine zp_ld rfl g2 ?_
      refine zp_pf rfl h63 rfl (by rw [hG]; decide) ?_
      refine zp_i rfl ?_
      exact zp_rt rfl rfl (hpost _ (by rw [List.length_set]; exact hl))
    · have h := zp_c3f h
      exfalso
      omega
  | succ k ih =>
    intro L σ i g1 g0 g2 g3 hi hk hl h63 h70 h71
    refine zp_ld rfl g3 ?_
    refine zp_ld rfl g2 ?_
    refine zp_b26 rfl (fun h => ?_) (fun h => ?_)
    · have h := zp_c3t h
      exfalso
      omega
    refine zp_la rfl g0 ?_
    refine zp_gf rfl h63 h16 ?_
    refine zp_ld rfl g3 ?_
    refine zp_la rfl g0 ?_
    refine zp_gf rfl h63 h14 ?_
    refine zp_ld rfl g3 ?_
    refine zp_ix rfl rfl h70 (zp_ixs hi (by omega)) ?_
    refine zp_is rfl h71 (zp_ixs hi (by omega)) ?_
    refine zp_inc rfl g3 ?_
    refine zp_gt rfl ?_
    have hi1 : (i + Int32.ofInt 1).toInt = i.toInt + 1 := zp_a1 (by omega) (by omega)
    exact ih _ _ _ (upd g1 i.toNatClampNeg (f i.toNatClampNeg)) (zp_gr (by decide) g0) (zp_gi (by decide) g2) (zb_rget_set _ _ _) (by omega) (by omega) (by rw [List.length_set]; exact hl) (by rw [List.getElem?_set, if_neg (by decide)]; exact h63) (by rw [List.getElem?_set, if_neg (by decide)]; exact h70) (by rw [List.getElem?_set, if_pos rfl, if_pos (by rw [hl]; decide)])
theorem zp_t170 {fsA : List Value} {σ : rf_S} {post : rf_P} (hd : 60 ≤ d) (hK : zm_K0 f n fsA σ) (hpost : ∀ (w : Int32) (σ1 : rf_S), σ1.length = 90 → w.toInt = zp_ans (zp_sg f n) → post (some (.int w)) σ1) : rf_run (rf_SA LL xs) rf_ms d 170 [.ref 63] σ post := by
  obtain ⟨d, rfl⟩ : ∃ e, d = e + 1 := ⟨d - 1, by omega⟩
  have hK0 := hK
  obtain ⟨hl, h63, h70, ⟨g1, h71⟩, ⟨g2, h72⟩, hn, hf, ⟨m, h15, hm⟩, h14, h16, h23, hby⟩ := hK
  have k0 := zp_k0
  have k0' := zp_k (k := 0) (by decide) (by decide)
  have k1 := zp_k (k := 1) (by decide) (by decide)
  have kh := zp_k (k := -100) (by decide) (by decide)
  have km := zp_k (k := -1) (by decide) (by decide)
  refine zp_en rfl (Nat.le_of_ble_eq_true rfl) ?_
  refine zp_la rfl rfl ?_
  refine zp_i rfl ?_
  refine zp_la rfl rfl ?_
  refine zp_gf rfl h63 h15 ?_
  refine zp_cli [.ref 63, .int (Int32.ofInt (-1)), .int m] [] rfl rfl (Nat.le_of_ble_eq_true rfl) rfl rfl (Nat.le_of_ble_eq_true rfl) (zp_recv h63) rfl rfl ?_
  refine zp_t169 (by omega) hK0 km hm (fun σ1 w q o' hK1 => ⟨_, rfl, by rw [hK1.1, hl], ?_⟩)
  have hH := zm_f0_H hK0 km hm
  obtain ⟨hl1, a1, t1, w1, y1, y2, ha, ht, hw, hq, i63, i70, i71, i72⟩ := hK1
  have hF := hH.2.1
  have f15 : (zm_fs (zm_f0 fsA (Int32.ofInt (-1)) m) a1 t1 w1)[15]? = some (.int m) := zm_fs_o (zm_f0_o h15 (by decide) (by decide)) (by decide) (by decide) (by decide)
  have f14 : (zm_fs (zm_f0 fsA (Int32.ofInt (-1)) m) a1 t1 w1)[14]? = some (.ref 70) := zm_fs_o (zm_f0_o h14 (by decide) (by decide)) (by decide) (by decide) (by decide)
  have f16 : (zm_fs (zm_f0 fsA (Int32.ofInt (-1)) m) a1 t1 w1)[16]? = some (.ref 71) := zm_fs_o (zm_f0_o h16 (by decide) (by decide)) (by decide) (by decide) (by decide)
  have f21 : (zm_fs (zm_f0 fsA (Int32.ofInt (-1)) m) a1 t1 w1)[21]? = some (.int t1) := zm_fs_t hF
  have fl : (zm_fs (zm_f0 fsA (Int32.ofInt (-1)) m) a1 t1 w1).length = 62 := by rw [zm_fs_l, hF]
  generalize zm_fs (zm_f0 fsA (Int32.ofInt (-1)) m) a1 t1 w1 = G at i63 f15 f14 f16 f21 fl
  refine zp_st rfl ?_
  refine zp_la rfl rfl ?_
  refine zp_gf rfl i63 f15 ?_
  refine zp_st rfl ?_
  refine zp_la rfl rfl ?_
  refine zp_i rfl ?_
  refine zp_pf rfl i63 rfl (by rw [fl]; decide) ?_
  have j63 := zm_s63 (X := .inr (10, G.set 15 (.int (Int32.ofInt 0)))) hl1
  have j21 : (G.set 15 (.int (Int32.ofInt 0)))[21]? = some (.int t1) := by
    rw [List.getElem?_set, if_neg (by decide)]
    exact f21
  have j14 : (G.set 15 (.int (Int32.ofInt 0)))[14]? = some (.ref 70) := by
    rw [List.getElem?_set, if_neg (by decide)]
    exact f14
  have j16 : (G.set 15 (.int (Int32.ofInt 0)))[16]? = some (.ref 71) := by
    rw [List.getElem?_set, if_neg (by decide)]
    exact f16
  refine zp_la rfl rfl ?_
  refine zp_gf rfl j63 j21 ?_
  cases hT : zp_T (zp_sg f n) 300 0 false with
  | none =>
    rw [hT] at ht
    have ht : t1.toInt = -1 := ht
    refine zp_b25 rfl (fun h => ?_) (fun h => ?_)
    · refine zp_i rfl ?_
      refine zp_st rfl ?_
      refine zm_w170 (by rw [List.length_set, fl]) j14 j16 hn hm (fun σ2 hl2 => hpost _ σ2 hl2 ?_) n _ _ (Int32.ofInt 0) y1 rfl rfl rfl (by rw [k0']; decide) (by rw [k0']; omega) (by rw [List.length_set]; exact hl1) j63 (by rw [List.getElem?_set, if_neg (by decide)]; exact i70) (by rw [List.getElem?_set, if_neg (by decide)]; exact i71)
      rw [k1]
      unfold zp_ans
      rw [hT]
    · have h := zp_c2f h
      exfalso
      omega
  | some q2 =>
    rw [hT] at ht
    have ht : t1.toInt = (q2 : Int) := ht
    have hb := zp_T_le (fun p h => zp_sg_n (f := f) h) 300 0 false q2 (Nat.zero_le n) hT
    refine zp_b25 rfl (fun h => ?_) (fun h => ?_)
    · have h := zp_c2t h
      exfalso
      omega
    · refine zp_i rfl ?_
      refine zp_la rfl rfl ?_
      refine zp_gf rfl j63 j21 ?_
      refine zp_bn rfl ?_
      refine zp_rt rfl rfl (hpost _ _ (by rw [List.length_set]; exact hl1) ?_)
      show (Int32.ofInt (-100) - t1).toInt = _
      rw [zb_sub' (by omega) (by omega), kh, ht]
      unfold zp_ans
      rw [hT]
end
