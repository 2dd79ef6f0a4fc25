/-! the class's reader: what it holds, step by step -/
/-- the fields of the class's reader, with place a and length dl -/
def zp_fs (fs0 : List Value) (a : Int32) (dl : Int32) : List Value := (fs0.set 1 (.int a)).set 2 (.int dl)
section
variable {fs0 : List Value} {a a' dl dl' : Int32}
theorem zp_fs_at : (zp_fs fs0 a dl).set 1 (.int a') = zp_fs fs0 a' dl := by
  unfold zp_fs
  rw [List.set_comm _ _ (by decide : (2 : Nat) ≠ 1), List.set_set]
theorem zp_fs_dl : (zp_fs fs0 a dl).set 2 (.int dl') = zp_fs fs0 a dl' := by
  unfold zp_fs
  rw [List.set_set]
theorem zp_fs_1 (h : fs0.length = 11) : (zp_fs fs0 a dl)[1]? = some (.int a) := by
  unfold zp_fs
  rw [List.getElem?_set, if_neg (by decide), List.getElem?_set, if_pos rfl, if_pos (by omega)]
theorem zp_fs_2 (h : fs0.length = 11) : (zp_fs fs0 a dl)[2]? = some (.int dl) := by
  unfold zp_fs
  rw [List.getElem?_set, if_pos rfl, if_pos (by rw [List.length_set]; omega)]
theorem zp_fs_o {c : Nat} {v : Value} (h : fs0[c]? = some v) (h1 : ¬ 1 = c) (h2 : ¬ 2 = c) : (zp_fs fs0 a dl)[c]? = some v := by
  unfold zp_fs
  rw [List.getElem?_set, if_neg h2, List.getElem?_set, if_neg h1]
  exact h
theorem zp_fs_l : (zp_fs fs0 a dl).length = fs0.length := by
  unfold zp_fs
  rw [List.length_set, List.length_set]
end
/-- it stands at p -/
def zp_K (f : Nat → Int32) (n : Nat) (fs0 : List Value) (r : Nat) (σ : rf_S) (p : Nat) : Prop := σ.length = 90 ∧ ∃ (a dl : Int32) (g : Nat → Int32), a.toInt = (p : Int) ∧ p ≤ n ∧ 0 ≤ dl.toInt ∧ dl.toInt ≤ 121 ∧ σ[11]? = some (.inr (4, zp_fs fs0 a dl)) ∧ σ[12]? = some (.inl (0, 120, .inl f)) ∧ σ[r]? = some (.inl (0, 121, .inl g)) ∧ ∃ g9 : Nat → Int32, σ[17]? = some (.inl (0, 448, .inl g9))
/-- what stays while it reads -/
def zp_H (f : Nat → Int32) (n : Nat) (fs0 : List Value) (r : Nat) : Prop := n ≤ 120 ∧ fs0.length = 11 ∧ (∃ xn : Int32, fs0[0]? = some (.int xn) ∧ xn.toInt = (n : Int)) ∧ fs0[4]? = some (.ref 12) ∧ fs0[6]? = some (.ref r) ∧ (r = 13 ∨ r = 14) ∧ zp_by f n ∧ (∃ r5 : Nat, fs0[5]? = some (.ref r5)) ∧ fs0[9]? = some (.ref 17)
section
variable {f : Nat → Int32} {n : Nat} {fs0 : List Value} {r p : Nat} {σ : rf_S}
theorem zp_K_p (h : zp_K f n fs0 r σ p) : p ≤ n := by
  obtain ⟨-, a, dl, g, -, h, -⟩ := h
  exact h
theorem zp_K_l {σ' : rf_S} {p' : Nat} (h : zp_K f n fs0 r σ p) (h' : zp_K f n fs0 r σ' p') : σ'.length = σ.length := by rw [h.1, h'.1]
theorem zp_K_r (h : zp_K f n fs0 r σ p) (k ci : Nat) (l : List Value) (hk : k = 1) (hc : ci = 4) : rf_recv k ci (.ref 11 :: l) σ = true := by
  obtain ⟨-, a, dl, g, -, -, -, -, h, -⟩ := h
  subst hk
  subst hc
  exact zp_recv h
end
section
variable {SA : rf_A} {ms : List rf_M} {C : zb_K} {mi : rf_M} {pc : Nat} {L : rf_L} {σ : rf_S} {u v : Nat} {post : rf_P} {st : List Value} {a : Int} {b c x nxt : Nat} {sw : List (Int × Nat)}
variable {f : Nat → Int32} {n : Nat} {fs0 : List Value} {r p : Nat}
theorem zp_gat (hE : mi.2.2 pc = some (29, a, 4, 1, x, nxt, sw)) (hH : zp_H f n fs0 r) (hK : zp_K f n fs0 r σ p) (h : ∀ z : Int32, z.toInt = (p : Int) → zb_W SA ms C mi nxt L (.int z :: st) σ u v post) : zb_W SA ms C mi pc L (.ref 11 :: st) σ u v post := by
  obtain ⟨-, z, dl, g, hz, -, -, -, h11, -, -⟩ := hK
  exact zp_gf hE h11 (zp_fs_1 hH.2.1) (h z hz)
theorem zp_pat {z : Int32} {q : Nat} (hE : mi.2.2 pc = some (30, a, 4, 1, x, nxt, sw)) (hH : zp_H f n fs0 r) (hK : zp_K f n fs0 r σ p) (hz : z.toInt = (q : Int)) (hq : q ≤ n) (h : ∀ σ1, zp_K f n fs0 r σ1 q → zb_W SA ms C mi nxt L st σ1 u v post) : zb_W SA ms C mi pc L (.int z :: .ref 11 :: st) σ u v post := by
  obtain ⟨hl, z0, dl, g, hz0, hp, d0, d1, h11, h12, hr, g9, h17⟩ := hK
  have hrr := hH.2.2.2.2.2.1
  refine zp_pf hE h11 rfl (by rw [zp_fs_l, hH.2.1]; decide) (h _ ⟨by rw [List.length_set]; exact hl, z, dl, g, hz, hq, d0, d1, ?_, ?_, ?_, g9, ?_⟩)
  · rw [List.getElem?_set, if_pos rfl, if_pos (by rw [hl]; decide), zp_fs_at]
  · rw [List.getElem?_set, if_neg (by decide)]
    exact h12
  · rw [List.getElem?_set, if_neg (by omega)]
    exact hr
  · rw [List.getElem?_set, if_neg (by decide)]
    exact h17
/-- at++ -/
theorem zp_pp {pc1 pc2 pc3 pc4 pc5 : Nat} {a0 a1 a2 a4 a5 : Int} {b0 b1 b3 c0 c1 c3 c4 x0 x1 x2 x3 x4 x5 : Nat} {sw0 sw1 sw2 sw3 sw4 sw5 : List (Int × Nat)} (hE0 : mi.2.2 pc = some (4, a0, b0, c0, x0, pc1, sw0)) (hg : rf_get L b0 = some (.ref 11)) (hE1 : mi.2.2 pc1 = some (20, a1, b1, c1, x1, pc2, sw1)) (hE2 : mi.2.2 pc2 = some (29, a2, 4, 1, x2, pc3, sw2)) (hE3 : mi.2.2 pc3 = some (0, 1, b3, c3, x3, pc4, sw3)) (hE4 : mi.2.2 pc4 = some (9, a4, 0, c4, x4, pc5, sw4)) (hE5 : mi.2.2 pc5 = some (30, a5, 4, 1, x5, nxt, sw5)) (hH : zp_H f n fs0 r) (hK : zp_K f n fs0 r σ p) (hp : p < n) (h : ∀ σ1, zp_K f n fs0 r σ1 (p + 1) → zb_W SA ms C mi nxt L st σ1 u v post) : zb_W SA ms C mi pc L st σ u v post := by
  have hn := hH.1
  refine zp_la hE0 hg ?_
  refine zp_dr hE1 ?_
  refine zp_gat hE2 hH hK (fun z hz => ?_)
  refine zp_i hE3 ?_
  refine zp_bn hE4 ?_
  exact zp_pat hE5 hH hK (by rw [zp_bn1 (by omega) (by omega)]; omega) hp h
end
section
variable {LL : Nat} {xs : Nat → Int32} {d : Nat} {σ : rf_S} {post : rf_P} {f : Nat → Int32} {n : Nat} {fs0 : List Value} {r p : Nat}
theorem zp_t30 (hd : 1 ≤ d) (hH : zp_H f n fs0 r) (hK : zp_K f n fs0 r σ p) (hpost : ∀ z : Int32, z.toInt = zp_sg f n p → post (some (.int z)) σ) : rf_run (rf_SA LL xs) rf_ms d 30 [.ref 11] σ post := by
  obtain ⟨d, rfl⟩ : ∃ e, d = e + 1 := ⟨d - 1, by omega⟩
  obtain ⟨hl, z, dl, g, hz, hp, d0, d1, h11, h12, hr⟩ := hK
  obtain ⟨hn, hf, ⟨xn, h0, hxn⟩, h4, -, -, -⟩ := hH
  have k0 := zp_k0
  have km := zp_k (k := -1) (by decide) (by decide)
  refine zp_en rfl (Nat.le_of_ble_eq_true rfl) ?_
  refine zp_la rfl rfl ?_
  refine zp_gf rfl h11 (zp_fs_1 hf) ?_
  refine zp_b25 rfl (fun h => ?_) (fun h => ?_)
  · have h := zp_c2t h
    exfalso
    omega
  refine zp_la rfl rfl ?_
  refine zp_gf rfl h11 (zp_fs_1 hf) ?_
  refine zp_la rfl rfl ?_
  refine zp_gf rfl h11 (zp_fs_o h0 (by decide) (by decide)) ?_
  refine zp_b26 rfl (fun h => ?_) (fun h => ?_)
  · have h := zp_c3t h
    refine zp_i rfl ?_
    exact zp_rt rfl rfl (hpost _ (by rw [km, zp_sg_n (by omega)]))
  · have h := zp_c3f h
    refine zp_la rfl rfl ?_
    refine zp_gf rfl h11 (zp_fs_o h4 (by decide) (by decide)) ?_
    refine zp_la rfl rfl ?_
    refine zp_gf rfl h11 (zp_fs_1 hf) ?_
    refine zp_ix rfl rfl h12 (zp_ixs (by omega) (by omega)) ?_
    refine zp_gt rfl ?_
    exact zp_rt rfl rfl (hpost _ (by rw [zp_nat hz, zp_sg_i (by omega)]))
theorem zp_t31 {w : Int32} (hd : 1 ≤ d) (hH : zp_H f n fs0 r) (hK : zp_K f n fs0 r σ p) (hpost : ∀ σ1, zp_K f n fs0 r σ1 p → post none σ1) : rf_run (rf_SA LL xs) rf_ms d 31 [.ref 11, .int w] σ post := by
  obtain ⟨d, rfl⟩ : ∃ e, d = e + 1 := ⟨d - 1, by omega⟩
  have hK0 := hK
  obtain ⟨hl, z, dl, g, hz, hp, d0, d1, h11, h12, hr, g9, h17⟩ := hK
  obtain ⟨hn, hf, -, -, h6, hrr, -⟩ := hH
  have hS : rf_isS r = false := by
    rcases hrr with e | e <;> rw [e] <;> rfl
  have k121 : (Int32.ofNat 121).toInt = 121 := by decide
  refine zp_en rfl (Nat.le_of_ble_eq_true rfl) ?_
  refine zp_la rfl rfl ?_
  refine zp_gf rfl h11 (zp_fs_2 hf) ?_
  refine zp_la rfl rfl ?_
  refine zp_gf rfl h11 (zp_fs_o h6 (by decide) (by decide)) ?_
  refine zp_ln rfl hS hr ?_
  refine zp_b26 rfl (fun h => ?_) (fun h => ?_)
  · exact zp_rv rfl (hpost σ hK0)
  · have h := zp_c3f h
    refine zp_la rfl rfl ?_
    refine zp_gf rfl h11 (zp_fs_o h6 (by decide) (by decide)) ?_
    refine zp_la rfl rfl ?_
    refine zp_dr rfl ?_
    refine zp_gf rfl h11 (zp_fs_2 hf) ?_
    refine zp_dx rfl ?_
    refine zp_i rfl ?_
    refine zp_bn rfl ?_
    refine zp_pf rfl h11 rfl (by rw [zp_fs_l, hf]; decide) ?_
    refine zp_ld rfl rfl ?_
    have hr' : (σ.set 11 (.inr (4, (zp_fs fs0 z dl).set 2 (.int (rf_bin 0 dl (Int32.ofInt 1))))))[r]? = some (.inl (0, 121, .inl g)) := by
      rw [List.getElem?_set, if_neg (by omega)]
      exact hr
    refine zp_is rfl hr' (zp_ixs (by omega) (by omega)) ?_
    refine zp_rv rfl (hpost _ ⟨by rw [List.length_set, List.length_set]; exact hl, z, rf_bin 0 dl (Int32.ofInt 1), upd g dl.toNatClampNeg w, hz, hp, ?_, ?_, ?_, ?_, ?_, g9, ?_⟩)
    · rw [zp_bn1 (by omega) (by omega)]
      omega
    · rw [zp_bn1 (by omega) (by omega)]
      omega
    · rw [List.getElem?_set, if_neg (by omega), List.getElem?_set, if_pos rfl, if_pos (by rw [hl]; decide), zp_fs_dl]
    · rw [List.getElem?_set, if_neg (by omega), List.getElem?_set, if_neg (by decide)]
      exact h12
    · rw [List.getElem?_set, if_pos rfl, if_pos (by rw [List.length_set, hl]; omega)]
    · rw [List.getElem?_set, if_neg (by omega), List.getElem?_set, if_neg (by decide)]
      exact h17
theorem zp_t37 {z : Int32} (hd : 1 ≤ d) (hpost : ∀ y : Int32, y.toInt = zp_lvi z.toInt → post (some (.int y)) σ) : rf_run (rf_SA LL xs) rf_ms d 37 [.int z] σ post := by
  obtain ⟨d, rfl⟩ : ∃ e, d = e + 1 := ⟨d - 1, by omega⟩
  have P : ∀ (k : Int) (l : Nat), -1 ≤ k → k ≤ 4 → zp_lvi z.toInt = k → post (some (.int (Int32.ofInt k))) σ := fun k l h1 h2 h3 => hpost _ (by rw [zp_k (by omega) (by omega), h3])
  refine zp_en rfl (Nat.le_of_ble_eq_true rfl) ?_
  refine zp_ld rfl rfl ?_
  refine zp_sw rfl ?_
  show zb_W _ _ _ rf_m37 (rf_sw [(37, 100), (38, 94), (42, 100), (43, 98), (45, 98), (47, 100), (60, 96), (61, 96), (62, 96), (124, 92)] 102 z.toInt) _ _ _ _ _ _
  have w92 : zp_lvi z.toInt = 0 → zb_W (rf_SA LL xs) rf_ms (rf_run (rf_SA LL xs) rf_ms d) rf_m37 92 (lv_args 0 [.int z]) [] σ 0 0 post := fun h => zp_i rfl (zp_rt rfl rfl (P 0 0 (by decide) (by decide) h))
  have w94 : zp_lvi z.toInt = 1 → zb_W (rf_SA LL xs) rf_ms (rf_run (rf_SA LL xs) rf_ms d) rf_m37 94 (lv_args 0 [.int z]) [] σ 0 0 post := fun h => zp_i rfl (zp_rt rfl rfl (P 1 0 (by decide) (by decide) h))
  have w96 : zp_lvi z.toInt = 2 → zb_W (rf_SA LL xs) rf_ms (rf_run (rf_SA LL xs) rf_ms d) rf_m37 96 (lv_args 0 [.int z]) [] σ 0 0 post := fun h => zp_i rfl (zp_rt rfl rfl (P 2 0 (by decide) (by decide) h))
  have w98 : zp_lvi z.toInt = 3 → zb_W (rf_SA LL xs) rf_ms (rf_run (rf_SA LL xs) rf_ms d) rf_m37 98 (lv_args 0 [.int z]) [] σ 0 0 post := fun h => zp_i rfl (zp_rt rfl rfl (P 3 0 (by decide) (by decide) h))
  have w100 : zp_lvi z.toInt = 4 → zb_W (rf_SA LL xs) rf_ms (rf_run (rf_SA LL xs) rf_ms d) rf_m37 100 (lv_args 0 [.int z]) [] σ 0 0 post := fun h => zp_i rfl (zp_rt rfl rfl (P 4 0 (by decide) (by decide) h))
  have w102 : zp_lvi z.toInt = -1 → zb_W (rf_SA LL xs) rf_ms (rf_run (rf_SA LL xs) rf_ms d) rf_m37 102 (lv_args 0 [.int z]) [] σ 0 0 post := fun h => zp_i rfl (zp_rt rfl rfl (P (-1) 0 (by decide) (by decide) h))
  by_cases e37 : z.toInt = 37
  · rw [zp_hit e37]; exact w100 (by rw [e37]; decide)
  rw [zp_mis e37]
  by_cases e38 : z.toInt = 38
  · rw [zp_hit e38]; exact w94 (by rw [e38]; decide)
  rw [zp_mis e38]
  by_cases e42 : z.toInt = 42
  · rw [zp_hit e42]; exact w100 (by rw [e42]; decide)
  rw [zp_mis e42]
  by_cases e43 : z.toInt = 43
  · rw [zp_hit e43]; exact w98 (by rw [e43]; decide)
  rw [zp_mis e43]
  by_cases e45 : z.toInt = 45
  · rw [zp_hit e45]; exact w98 (by rw [e45]; decide)
  rw [zp_mis e45]
  by_cases e47 : z.toInt = 47
  · rw [zp_hit e47]; exact w100 (by rw [e47]; decide)
  rw [zp_mis e47]
  by_cases e60 : z.toInt = 60
  · rw [zp_hit e60]; exact w96 (by rw [e60]; decide)
  rw [zp_mis e60]
  by_cases e61 : z.toInt = 61
  · rw [zp_hit e61]; exact w96 (by rw [e61]; decide)
  rw [zp_mis e61]
  by_cases e62 : z.toInt = 62
  · rw [zp_hit e62]; exact w96 (by rw [e62]; decide)
  rw [zp_mis e62]
  by_cases e124 : z.toInt = 124
  · rw [zp_hit e124]; exact w92 (by rw [e124]; decide)
  rw [zp_mis e124]
  refine w102 ?_
  have h9 : zp_lv z.toInt = 9 := by
    unfold zp_lv
    rw [if_neg (by omega), if_neg (by omega), if_neg (by omega), if_neg (by omega), if_neg (by omega)]
  unfold zp_lvi
  rw [if_pos h9]
/-- what a name's number tells -/
def zp_ny (x : Int) (y : Int32) : Prop := (zp_nm x ∧ 0 ≤ y.toInt ∧ y.toInt ≤ 5) ∨ (¬ zp_nm x ∧ y.toInt = -1)
theorem zp_t38 {z : Int32} (hd : 1 ≤ d) (hpost : ∀ y : Int32, zp_ny z.toInt y → post (some (.int y)) σ) : rf_run (rf_SA LL xs) rf_ms d 38 [.int z] σ post := by
  obtain ⟨d, rfl⟩ : ∃ e, d = e + 1 := ⟨d - 1, by omega⟩
  refine zp_en rfl (Nat.le_of_ble_eq_true rfl) ?_
  refine zp_ld rfl rfl ?_
  refine zp_sw rfl ?_
  show zb_W _ _ _ rf_m38 (rf_sw [(99, 66), (107, 70), (110, 68), (112, 60), (119, 62), (120, 64)] 72 z.toInt) _ _ _ _ _ _
  have w60 : zp_nm z.toInt → zb_W (rf_SA LL xs) rf_ms (rf_run (rf_SA LL xs) rf_ms d) rf_m38 60 (lv_args 0 [.int z]) [] σ 0 0 post := fun h => zp_i rfl (zp_rt rfl rfl (hpost _ (Or.inl ⟨h, by decide, by decide⟩)))
  have w62 : zp_nm z.toInt → zb_W (rf_SA LL xs) rf_ms (rf_run (rf_SA LL xs) rf_ms d) rf_m38 62 (lv_args 0 [.int z]) [] σ 0 0 post := fun h => zp_i rfl (zp_rt rfl rfl (hpost _ (Or.inl ⟨h, by decide, by decide⟩)))
  have w64 : zp_nm z.toInt → zb_W (rf_SA LL xs) rf_ms (rf_run (rf_SA LL xs) rf_ms d) rf_m38 64 (lv_args 0 [.int z]) [] σ 0 0 post := fun h => zp_i rfl (zp_rt rfl rfl (hpost _ (Or.inl ⟨h, by decide, by decide⟩)))
  have w66 : zp_nm z.toInt → zb_W (rf_SA LL xs) rf_ms (rf_run (rf_SA LL xs) rf_ms d) rf_m38 66 (lv_args 0 [.int z]) [] σ 0 0 post := fun h => zp_i rfl (zp_rt rfl rfl (hpost _ (Or.inl ⟨h, by decide, by decide⟩)))
  have w68 : zp_nm z.toInt → zb_W (rf_SA LL xs) rf_ms (rf_run (rf_SA LL xs) rf_ms d) rf_m38 68 (lv_args 0 [.int z]) [] σ 0 0 post := fun h => zp_i rfl (zp_rt rfl rfl (hpost _ (Or.inl ⟨h, by decide, by decide⟩)))
  have w70 : zp_nm z.toInt → zb_W (rf_SA LL xs) rf_ms (rf_run (rf_SA LL xs) rf_ms d) rf_m38 70 (lv_args 0 [.int z]) [] σ 0 0 post := fun h => zp_i rfl (zp_rt rfl rfl (hpost _ (Or.inl ⟨h, by decide, by decide⟩)))
  by_cases e99 : z.toInt = 99
  · rw [zp_hit e99]; exact w66 (by unfold zp_nm; omega)
  rw [zp_mis e99]
  by_cases e107 : z.toInt = 107
  · rw [zp_hit e107]; exact w70 (by unfold zp_nm; omega)
  rw [zp_mis e107]
  by_cases e110 : z.toInt = 110
  · rw [zp_hit e110]; exact w68 (by unfold zp_nm; omega)
  rw [zp_mis e110]
  by_cases e112 : z.toInt = 112
  · rw [zp_hit e112]; exact w60 (by unfold zp_nm; omega)
  rw [zp_mis e112]
  by_cases e119 : z.toInt = 119
  · rw [zp_hit e119]; exact w62 (by unfold zp_nm; omega)
  rw [zp_mis e119]
  by_cases e120 : z.toInt = 120
  · rw [zp_hit e120]; exact w64 (by unfold zp_nm; omega)
  rw [zp_mis e120]
  exact zp_i rfl (zp_rt rfl rfl (hpost _ (Or.inr ⟨by unfold zp_nm; omega, by decide⟩)))
theorem zp_t167 {z : Int32} (hd : 1 ≤ d) (hpost : ∀ y : Int32, zp_ny z.toInt y → post (some (.int y)) σ) : rf_run (rf_SA LL xs) rf_ms d 167 [.int z] σ post := by
  obtain ⟨d, rfl⟩ : ∃ e, d = e + 1 := ⟨d - 1, by omega⟩
  refine zp_en rfl (Nat.le_of_ble_eq_true rfl) ?_
  refine zp_ld rfl rfl ?_
  refine zp_sw rfl ?_
  show zb_W _ _ _ rf_m167 (rf_sw [(99, 66), (107, 70), (110, 68), (112, 60), (119, 62), (120, 64)] 72 z.toInt) _ _ _ _ _ _
  have w60 : zp_nm z.toInt → zb_W (rf_SA LL xs) rf_ms (rf_run (rf_SA LL xs) rf_ms d) rf_m167 60 (lv_args 0 [.int z]) [] σ 0 0 post := fun h => zp_i rfl (zp_rt rfl rfl (hpost _ (Or.inl ⟨h, by decide, by decide⟩)))
  have w62 : zp_nm z.toInt → zb_W (rf_SA LL xs) rf_ms (rf_run (rf_SA LL xs) rf_ms d) rf_m167 62 (lv_args 0 [.int z]) [] σ 0 0 post := fun h => zp_i rfl (zp_rt rfl rfl (hpost _ (Or.inl ⟨h, by decide, by decide⟩)))
  have w64 : zp_nm z.toInt → zb_W (rf_SA LL xs) rf_ms (rf_run (rf_SA LL xs) rf_ms d) rf_m167 64 (lv_args 0 [.int z]) [] σ 0 0 post := fun h => zp_i rfl (zp_rt rfl rfl (hpost _ (Or.inl ⟨h, by decide, by decide⟩)))
  have w66 : zp_nm z.toInt → zb_W (rf_SA LL xs) rf_ms (rf_run (rf_SA LL xs) rf_ms d) rf_m167 66 (lv_args 0 [.int z]) [] σ 0 0 post := fun h => zp_i rfl (zp_rt rfl rfl (hpost _ (Or.inl ⟨h, by decide, by decide⟩)))
  have w68 : zp_nm z.toInt → zb_W (rf_SA LL xs) rf_ms (rf_run (rf_SA LL xs) rf_ms d) rf_m167 68 (lv_args 0 [.int z]) [] σ 0 0 post := fun h => zp_i rfl (zp_rt rfl rfl (hpost _ (Or.inl ⟨h, by decide, by decide⟩)))
  have w70 : zp_nm z.toInt → zb_W (rf_SA LL xs) rf_ms (rf_run (rf_SA LL xs) rf_ms d) rf_m167 70 (lv_args 0 [.int z]) [] σ 0 0 post := fun h => zp_i rfl (zp_rt rfl rfl (hpost _ (Or.inl ⟨h, by decide, by decide⟩)))
  by_cases e99 : z.toInt = 99
  · rw [zp_hit e99]; exact w66 (by unfold zp_nm; omega)
  rw [zp_mis e99]
  by_cases e107 : z.toInt = 107
  · rw [zp_hit e107]; exact w70 (by unfold zp_nm; omega)
  rw [zp_mis e107]
  by_cases e110 : z.toInt = 110
  · rw [zp_hit e110]; exact w68 (by unfold zp_nm; omega)
  rw [zp_mis e110]
  by_cases e112 : z.toInt = 112
  · rw [zp_hit e112]; exact w60 (by unfold zp_nm; omega)
  rw [zp_mis e112]
  by_cases e119 : z.toInt = 119
  · rw [zp_hit e119]; exact w62 (by unfold zp_nm; omega)
  rw [zp_mis e119]
  by_cases e120 : z.toInt = 120
  · rw [zp_hit e120]; exact w64 (by unfold zp_nm; omega)
  rw [zp_mis e120]
  exact zp_i rfl (zp_rt rfl rfl (hpost _ (Or.inr ⟨by unfold zp_nm; omega, by decide⟩)))
theorem zp_t35 (hd : 2 ≤ d) (hH : zp_H f n fs0 r) (hK : zp_K f n fs0 r σ p) (hy : zp_sg f n p = 41 → ∀ σ1, zp_K f n fs0 r σ1 (p + 1) → post (some (.int (Int32.ofInt 1))) σ1) (hn : ¬ zp_sg f n p = 41 → post (some (.int (Int32.ofInt 0))) σ) : rf_run (rf_SA LL xs) rf_ms d 35 [.ref 11] σ post := by
  obtain ⟨d, rfl⟩ : ∃ e, d = e + 1 := ⟨d - 1, by omega⟩
  have k41 := zp_k (k := 41) (by decide) (by decide)
  refine zp_en rfl (Nat.le_of_ble_eq_true rfl) ?_
  refine zp_la rfl rfl ?_
  refine zp_cli [.ref 11] [] rfl rfl (Nat.le_of_ble_eq_true rfl) rfl rfl (Nat.le_of_ble_eq_true rfl) (zp_K_r hK _ _ _ rfl rfl) rfl rfl ?_
  refine zp_t30 (by omega) hH hK (fun z hz => ⟨_, rfl, rfl, ?_⟩)
  refine zp_i rfl ?_
  refine zp_b26 rfl (fun h => ?_) (fun h => ?_)
  · have h := zp_c0t h
    have h41 : zp_sg f n p = 41 := by omega
    refine zp_pp rfl rfl rfl rfl rfl rfl rfl hH hK (zp_sg_l (f := f) (by omega)) (fun σ1 hK1 => ?_)
    refine zp_i rfl ?_
    exact zp_rt rfl zp_nb1 (hy h41 σ1 hK1)
  · have h := zp_c0f h
    refine zp_i rfl ?_
    exact zp_rt rfl zp_nb0 (hn (by omega))
end
