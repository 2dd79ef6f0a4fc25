/-! the reference's reader: what it holds, step by step -/
def zm_fs (fs0 : List Value) (a t w : Int32) : List Value := ((fs0.set 19 (.int a)).set 21 (.int t)).set 22 (.int w)
section
variable {fs0 : List Value} {a t w z : Int32}
theorem zm_fs_l : (zm_fs fs0 a t w).length = fs0.length := by
  unfold zm_fs
  rw [List.length_set, List.length_set, List.length_set]
theorem zm_fs_a (h : fs0.length = 62) : (zm_fs fs0 a t w)[19]? = some (.int a) := by
  unfold zm_fs
  rw [List.getElem?_set, if_neg (by decide), List.getElem?_set, if_neg (by decide), List.getElem?_set, if_pos rfl, if_pos (by omega)]
theorem zm_fs_t (h : fs0.length = 62) : (zm_fs fs0 a t w)[21]? = some (.int t) := by
  unfold zm_fs
  rw [List.getElem?_set, if_neg (by decide), List.getElem?_set, if_pos rfl, if_pos (by rw [List.length_set]; omega)]
theorem zm_fs_w (h : fs0.length = 62) : (zm_fs fs0 a t w)[22]? = some (.int w) := by
  unfold zm_fs
  rw [List.getElem?_set, if_pos rfl, if_pos (by rw [List.length_set, List.length_set]; omega)]
theorem zm_fs_o {c : Nat} {v : Value} (h : fs0[c]? = some v) (h1 : ¬ 19 = c) (h2 : ¬ 21 = c) (h3 : ¬ 22 = c) : (zm_fs fs0 a t w)[c]? = some v := by
  unfold zm_fs
  rw [List.getElem?_set, if_neg h3, List.getElem?_set, if_neg h2, List.getElem?_set, if_neg h1]
  exact h
theorem zm_fs_sa : (zm_fs fs0 a t w).set 19 (.int z) = zm_fs fs0 z t w := by
  unfold zm_fs
  rw [List.set_comm _ _ (by decide : (22 : Nat) ≠ 19), List.set_comm _ _ (by decide : (21 : Nat) ≠ 19), List.set_set]
theorem zm_fs_st : (zm_fs fs0 a t w).set 21 (.int z) = zm_fs fs0 a z w := by
  unfold zm_fs
  rw [List.set_comm _ _ (by decide : (22 : Nat) ≠ 21), List.set_set]
theorem zm_fs_sw : (zm_fs fs0 a t w).set 22 (.int z) = zm_fs fs0 a t z := by
  unfold zm_fs
  rw [List.set_set]
end
/-- it stands at p, its fault is ft, o are open -/
def zm_K (f : Nat → Int32) (n : Nat) (fs0 : List Value) (σ : rf_S) (p : Nat) (ft o : Int) : Prop := σ.length = 90 ∧ ∃ (a t w : Int32) (g1 g2 : Nat → Int32), a.toInt = (p : Int) ∧ t.toInt = ft ∧ w.toInt = o ∧ p ≤ n ∧ σ[63]? = some (.inr (10, zm_fs fs0 a t w)) ∧ σ[70]? = some (.inl (0, 120, .inl f)) ∧ σ[71]? = some (.inl (0, 120, .inl g1)) ∧ σ[72]? = some (.inl (0, 6, .inl g2))
def zm_H (f : Nat → Int32) (n : Nat) (fs0 : List Value) : Prop := n ≤ 120 ∧ fs0.length = 62 ∧ (∃ b : Int32, fs0[18]? = some (.int b) ∧ b.toInt = -1) ∧ (∃ e : Int32, fs0[20]? = some (.int e) ∧ e.toInt = (n : Int)) ∧ fs0[14]? = some (.ref 70) ∧ fs0[23]? = some (.ref 72) ∧ zp_by f n
section
variable {f : Nat → Int32} {n : Nat} {fs0 : List Value} {p : Nat} {ft o : Int} {σ : rf_S}
theorem zm_K_p (h : zm_K f n fs0 σ p ft o) : p ≤ n := by
  obtain ⟨-, a, t, w, g1, g2, -, -, -, h, -⟩ := h
  exact h
theorem zm_K_l {σ' : rf_S} {p' : Nat} {ft' o' : Int} (h : zm_K f n fs0 σ p ft o) (h' : zm_K f n fs0 σ' p' ft' o') : σ'.length = σ.length := by rw [h.1, h'.1]
theorem zm_K_r (h : zm_K f n fs0 σ p ft o) (k ci : Nat) (l : List Value) (hk : k = 1) (hc : ci = 10) : rf_recv k ci (.ref 63 :: l) σ = true := by
  obtain ⟨-, a, t, w, g1, g2, -, -, -, -, h, -⟩ := h
  subst hk
  subst hc
  exact zp_recv h
end
section
variable {SA : rf_A} {ms : List rf_M} {C : zb_K} {mi : rf_M} {pc : Nat} {L : rf_L} {σ : rf_S} {u v : Nat} {post : rf_P} {st : List Value} {a : Int} {b c x nxt : Nat} {sw : List (Int × Nat)}
variable {f : Nat → Int32} {n : Nat} {fs0 : List Value} {p : Nat} {ft o : Int}
theorem zm_gat (hE : mi.2.2 pc = some (29, a, 10, 19, x, nxt, sw)) (hH : zm_H f n fs0) (hK : zm_K f n fs0 σ p ft o) (h : ∀ z : Int32, z.toInt = (p : Int) → zb_W SA ms C mi nxt L (.int z :: st) σ u v post) : zb_W SA ms C mi pc L (.ref 63 :: st) σ u v post := by
  obtain ⟨-, z, t, w, g1, g2, hz, -, -, -, h63, -⟩ := hK
  exact zp_gf hE h63 (zm_fs_a hH.2.1) (h z hz)
theorem zm_gft (hE : mi.2.2 pc = some (29, a, 10, 21, x, nxt, sw)) (hH : zm_H f n fs0) (hK : zm_K f n fs0 σ p ft o) (h : ∀ z : Int32, z.toInt = ft → zb_W SA ms C mi nxt L (.int z :: st) σ u v post) : zb_W SA ms C mi pc L (.ref 63 :: st) σ u v post := by
  obtain ⟨-, z, t, w, g1, g2, -, hz, -, -, h63, -⟩ := hK
  exact zp_gf hE h63 (zm_fs_t hH.2.1) (h t hz)
theorem zm_gop (hE : mi.2.2 pc = some (29, a, 10, 22, x, nxt, sw)) (hH : zm_H f n fs0) (hK : zm_K f n fs0 σ p ft o) (h : ∀ z : Int32, z.toInt = o → zb_W SA ms C mi nxt L (.int z :: st) σ u v post) : zb_W SA ms C mi pc L (.ref 63 :: st) σ u v post := by
  obtain ⟨-, z, t, w, g1, g2, -, -, hz, -, h63, -⟩ := hK
  exact zp_gf hE h63 (zm_fs_w hH.2.1) (h w hz)
/-- a field that stays -/
theorem zm_gfs {y : Value} (hE : mi.2.2 pc = some (29, a, 10, c, x, nxt, sw)) (hK : zm_K f n fs0 σ p ft o) (hy : fs0[c]? = some y) (h1 : ¬ 19 = c) (h2 : ¬ 21 = c) (h3 : ¬ 22 = c) (h : zb_W SA ms C mi nxt L (y :: st) σ u v post) : zb_W SA ms C mi pc L (.ref 63 :: st) σ u v post := by
  obtain ⟨-, z, t, w, g1, g2, -, -, -, -, h63, -⟩ := hK
  exact zp_gf hE h63 (zm_fs_o hy h1 h2 h3) h
theorem zm_pat {z : Int32} {q : Nat} (hE : mi.2.2 pc = some (30, a, 10, 19, x, nxt, sw)) (hH : zm_H f n fs0) (hK : zm_K f n fs0 σ p ft o) (hz : z.toInt = (q : Int)) (hq : q ≤ n) (h : ∀ σ1, zm_K f n fs0 σ1 q ft o → zb_W SA ms C mi nxt L st σ1 u v post) : zb_W SA ms C mi pc L (.int z :: .ref 63 :: st) σ u v post := by
  obtain ⟨hl, a0, t0, w0, g1, g2, ha, ht, hw, hp, h63, h70, h71, h72⟩ := hK
  refine zp_pf hE h63 rfl (by rw [zm_fs_l, hH.2.1]; decide) (h _ ⟨by rw [List.length_set]; exact hl, z, t0, w0, g1, g2, hz, ht, hw, hq, ?_, ?_, ?_, ?_⟩)
  · rw [List.getElem?_set, if_pos rfl, if_pos (by rw [hl]; decide), zm_fs_sa]
  · rw [List.getElem?_set, if_neg (by decide)]
    exact h70
  · rw [List.getElem?_set, if_neg (by decide)]
    exact h71
  · rw [List.getElem?_set, if_neg (by decide)]
    exact h72
theorem zm_pft {z : Int32} {y : Int} (hE : mi.2.2 pc = some (30, a, 10, 21, x, nxt, sw)) (hH : zm_H f n fs0) (hK : zm_K f n fs0 σ p ft o) (hz : z.toInt = y) (h : ∀ σ1, zm_K f n fs0 σ1 p y o → zb_W SA ms C mi nxt L st σ1 u v post) : zb_W SA ms C mi pc L (.int z :: .ref 63 :: st) σ u v post := by
  obtain ⟨hl, a0, t0, w0, g1, g2, ha, ht, hw, hp, h63, h70, h71, h72⟩ := hK
  refine zp_pf hE h63 rfl (by rw [zm_fs_l, hH.2.1]; decide) (h _ ⟨by rw [List.length_set]; exact hl, a0, z, w0, g1, g2, ha, hz, hw, hp, ?_, ?_, ?_, ?_⟩)
  · rw [List.getElem?_set, if_pos rfl, if_pos (by rw [hl]; decide), zm_fs_st]
  · rw [List.getElem?_set, if_neg (by decide)]
    exact h70
  · rw [List.getElem?_set, if_neg (by decide)]
    exact h71
  · rw [List.getElem?_set, if_neg (by decide)]
    exact h72
theorem zm_pop {z : Int32} {y : Int} (hE : mi.2.2 pc = some (30, a, 10, 22, x, nxt, sw)) (hH : zm_H f n fs0) (hK : zm_K f n fs0 σ p ft o) (hz : z.toInt = y) (h : ∀ σ1, zm_K f n fs0 σ1 p ft y → zb_W SA ms C mi nxt L st σ1 u v post) : zb_W SA ms C mi pc L (.int z :: .ref 63 :: st) σ u v post := by
  obtain ⟨hl, a0, t0, w0, g1, g2, ha, ht, hw, hp, h63, h70, h71, h72⟩ := hK
  refine zp_pf hE h63 rfl (by rw [zm_fs_l, hH.2.1]; decide) (h _ ⟨by rw [List.length_set]; exact hl, a0, t0, z, g1, g2, ha, ht, hz, hp, ?_, ?_, ?_, ?_⟩)
  · rw [List.getElem?_set, if_pos rfl, if_pos (by rw [hl]; decide), zm_fs_sw]
  · rw [List.getElem?_set, if_neg (by decide)]
    exact h70
  · rw [List.getElem?_set, if_neg (by decide)]
    exact h71
  · rw [List.getElem?_set, if_neg (by decide)]
    exact h72
/-- at++ -/
theorem zm_pp {pc1 pc2 pc3 pc4 pc5 : Nat} {a0 a1 a2 a4 a5 : Int} {b0 b1 b3 c0 c1 c3 c4 x0 x1 x2 x3 x4 x5 : Nat} {sw0 sw1 sw2 sw3 sw4 sw5 : List (Int × Nat)} (hE0 : mi.2.2 pc = some (4, a0, b0, c0, x0, pc1, sw0)) (hg : rf_get L b0 = some (.ref 63)) (hE1 : mi.2.2 pc1 = some (20, a1, b1, c1, x1, pc2, sw1)) (hE2 : mi.2.2 pc2 = some (29, a2, 10, 19, x2, pc3, sw2)) (hE3 : mi.2.2 pc3 = some (0, 1, b3, c3, x3, pc4, sw3)) (hE4 : mi.2.2 pc4 = some (9, a4, 0, c4, x4, pc5, sw4)) (hE5 : mi.2.2 pc5 = some (30, a5, 10, 19, x5, nxt, sw5)) (hH : zm_H f n fs0) (hK : zm_K f n fs0 σ p ft o) (hp : p < n) (h : ∀ σ1, zm_K f n fs0 σ1 (p + 1) ft o → zb_W SA ms C mi nxt L st σ1 u v post) : zb_W SA ms C mi pc L st σ u v post := by
  have hn := hH.1
  refine zp_la hE0 hg ?_
  refine zp_dr hE1 ?_
  refine zm_gat hE2 hH hK (fun z hz => ?_)
  refine zp_i hE3 ?_
  refine zp_bn hE4 ?_
  exact zm_pat hE5 hH hK (by rw [zp_bn1 (by omega) (by omega)]; omega) hp h
/-- opened, one more or less -/
theorem zm_po {k pc1 pc2 pc3 pc4 pc5 : Nat} {a0 a1 a2 a4 a5 : Int} {b0 b1 b3 c0 c1 c3 c4 x0 x1 x2 x3 x4 x5 : Nat} {sw0 sw1 sw2 sw3 sw4 sw5 : List (Int × Nat)} (hE0 : mi.2.2 pc = some (4, a0, b0, c0, x0, pc1, sw0)) (hg : rf_get L b0 = some (.ref 63)) (hE1 : mi.2.2 pc1 = some (20, a1, b1, c1, x1, pc2, sw1)) (hE2 : mi.2.2 pc2 = some (29, a2, 10, 22, x2, pc3, sw2)) (hE3 : mi.2.2 pc3 = some (0, 1, b3, c3, x3, pc4, sw3)) (hE4 : mi.2.2 pc4 = some (9, a4, k, c4, x4, pc5, sw4)) (hE5 : mi.2.2 pc5 = some (30, a5, 10, 22, x5, nxt, sw5)) (hH : zm_H f n fs0) (hK : zm_K f n fs0 σ p ft o) (h : ∀ (z : Int32) (σ1 : rf_S), z.toInt = o → zm_K f n fs0 σ1 p ft (rf_bin k z (Int32.ofInt 1)).toInt → zb_W SA ms C mi nxt L st σ1 u v post) : zb_W SA ms C mi pc L st σ u v post := by
  refine zp_la hE0 hg ?_
  refine zp_dr hE1 ?_
  refine zm_gop hE2 hH hK (fun z hz => ?_)
  refine zp_i hE3 ?_
  refine zp_bn hE4 ?_
  exact zm_pop hE5 hH hK rfl (fun σ1 hK1 => h z σ1 hz hK1)
end
section
variable {LL : Nat} {xs : Nat → Int32} {d : Nat} {σ : rf_S} {post : rf_P} {f : Nat → Int32} {n : Nat} {fs0 : List Value} {p : Nat} {ft o : Int}
/-- byteAt: 0 at the end -/
theorem zp_t159 (hd : 1 ≤ d) (hH : zm_H f n fs0) (hK : zm_K f n fs0 σ p ft o) (hpost : ∀ z : Int32, (z.toInt = zp_sg f n p ∨ z.toInt = 0 ∧ zp_sg f n p = -1) → post (some (.int z)) σ) : rf_run (rf_SA LL xs) rf_ms d 159 [.ref 63] σ post := by
  obtain ⟨d, rfl⟩ : ∃ e, d = e + 1 := ⟨d - 1, by omega⟩
  have hH0 := hH
  have hK0 := hK
  obtain ⟨hl, za, t, w, g1, g2, hz, ht, hw, hp, h63, h70, h71, h72⟩ := hK
  obtain ⟨hn, hf, ⟨bb, hb, hbb⟩, ⟨e, he, hee⟩, h14, -, -⟩ := hH
  have k0 := zp_k0
  have k0' := zp_k (k := 0) (by decide) (by decide)
  refine zp_en rfl (Nat.le_of_ble_eq_true rfl) ?_
  refine zp_la rfl rfl ?_
  refine zm_gat rfl hH0 hK0 (fun z hz => ?_)
  refine zp_la rfl rfl ?_
  refine zm_gfs rfl hK0 he (by decide) (by decide) (by decide) ?_
  refine zp_b26 rfl (fun h => ?_) (fun h => ?_)
  · have h := zp_c3t h
    refine zp_i rfl ?_
    exact zp_rt rfl rfl (hpost _ (Or.inr ⟨k0', zp_sg_n (by omega)⟩))
  have h := zp_c3f h
  refine zp_la rfl rfl ?_
  refine zm_gfs rfl hK0 hb (by decide) (by decide) (by decide) ?_
  refine zp_b25 rfl (fun h1 => ?_) (fun h1 => ?_)
  · have h1 := zp_c3t h1
    exfalso
    omega
  refine zp_la rfl rfl ?_
  refine zm_gfs rfl hK0 h14 (by decide) (by decide) (by decide) ?_
  refine zp_la rfl rfl ?_
  refine zm_gat rfl hH0 hK0 (fun y hy => ?_)
  refine zp_ix rfl rfl h70 (zp_ixs (by omega) (by omega)) ?_
  refine zp_gt rfl ?_
  exact zp_rt rfl rfl (hpost _ (Or.inl (by rw [zp_nat hy, zp_sg_i (by omega)])))
/-- wrong: the first fault stays -/
theorem zp_t160 (hd : 1 ≤ d) (hH : zm_H f n fs0) (hK : zm_K f n fs0 σ p ft o) (hpost : ∀ σ1, zm_K f n fs0 σ1 p (if ft < 0 then (p : Int) else ft) o → post (some (.int (Int32.ofInt 0))) σ1) : rf_run (rf_SA LL xs) rf_ms d 160 [.ref 63] σ post := by
  obtain ⟨d, rfl⟩ : ∃ e, d = e + 1 := ⟨d - 1, by omega⟩
  have k0 := zp_k0
  refine zp_en rfl (Nat.le_of_ble_eq_true rfl) ?_
  refine zp_la rfl rfl ?_
  refine zp_la rfl rfl ?_
  refine zm_gft rfl hH hK (fun z hz => ?_)
  refine zp_b25 rfl (fun h => ?_) (fun h => ?_)
  · have h := zp_c3t h
    rw [if_neg (by omega)] at hpost
    refine zp_la rfl rfl ?_
    refine zm_gft rfl hH hK (fun y hy => ?_)
    refine zm_pft rfl hH hK hy (fun σ1 hK1 => ?_)
    refine zp_i rfl ?_
    exact zp_rt rfl rfl (hpost σ1 hK1)
  · have h := zp_c3f h
    rw [if_pos (by omega)] at hpost
    refine zp_la rfl rfl ?_
    refine zm_gat rfl hH hK (fun y hy => ?_)
    refine zp_gt rfl ?_
    refine zm_pft rfl hH hK hy (fun σ1 hK1 => ?_)
    refine zp_i rfl ?_
    exact zp_rt rfl rfl (hpost σ1 hK1)
theorem zp_t161 {k : Int32} (hd : 2 ≤ d) (hH : zm_H f n fs0) (hK : zm_K f n fs0 σ p (-1) o) (hk : 0 < k.toInt) (hy : zp_sg f n p = k.toInt → ∀ σ1, zm_K f n fs0 σ1 (p + 1) (-1) o → post (some (.int (Int32.ofInt 1))) σ1) (hn : ¬ zp_sg f n p = k.toInt → post (some (.int (Int32.ofInt 0))) σ) : rf_run (rf_SA LL xs) rf_ms d 161 [.ref 63, .int k] σ post := by
  obtain ⟨d, rfl⟩ : ∃ e, d = e + 1 := ⟨d - 1, by omega⟩
  have k0 := zp_k0
  refine zp_en rfl (Nat.le_of_ble_eq_true rfl) ?_
  refine zp_la rfl rfl ?_
  refine zm_gft rfl hH hK (fun z hz => ?_)
  refine zp_b25 rfl (fun h => ?_) (fun h => ?_)
  · have h := zp_c3t h
    exfalso
    omega
  refine zp_la rfl rfl ?_
  refine zp_cli [.ref 63] [] rfl rfl (Nat.le_of_ble_eq_true rfl) rfl rfl (Nat.le_of_ble_eq_true rfl) (zm_K_r hK _ _ _ rfl rfl) rfl rfl ?_
  refine zp_t159 (by omega) hH hK (fun y hy2 => ⟨_, rfl, rfl, ?_⟩)
  refine zp_ld rfl rfl ?_
  refine zp_b26 rfl (fun h1 => ?_) (fun h1 => ?_)
  · have h1 := zp_c0t h1
    have e : zp_sg f n p = k.toInt := by omega
    refine zm_pp rfl rfl rfl rfl rfl rfl rfl hH hK (zp_sg_l (f := f) (by omega)) (fun σ1 hK1 => ?_)
    refine zp_i rfl ?_
    exact zp_rt rfl zp_nb1 (hy e σ1 hK1)
  · have h1 := zp_c0f h1
    refine zp_i rfl ?_
    exact zp_rt rfl zp_nb0 (hn (by omega))
theorem zp_t161f {k : Int32} (hd : 1 ≤ d) (hH : zm_H f n fs0) (hK : zm_K f n fs0 σ p ft o) (hft : 0 ≤ ft) (hpost : post (some (.int (Int32.ofInt 0))) σ) : rf_run (rf_SA LL xs) rf_ms d 161 [.ref 63, .int k] σ post := by
  obtain ⟨d, rfl⟩ : ∃ e, d = e + 1 := ⟨d - 1, by omega⟩
  have k0 := zp_k0
  refine zp_en rfl (Nat.le_of_ble_eq_true rfl) ?_
  refine zp_la rfl rfl ?_
  refine zm_gft rfl hH hK (fun z hz => ?_)
  refine zp_b25 rfl (fun h => ?_) (fun h => ?_)
  · refine zp_i rfl ?_
    exact zp_rt rfl zp_nb0 hpost
  · have h := zp_c3f h
    exfalso
    omega
end
