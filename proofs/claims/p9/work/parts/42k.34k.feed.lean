/-! feed: what it leaves on the two tapes -/
/-- how much is fed, as the class holds it -/
def zq_f0 (σ : rf_S) (m : Nat) : Prop := ∃ (fs : List Value) (x : Int32), σ[11]? = some (.inr (4, fs)) ∧ fs[0]? = some (.int x) ∧ x.toInt = (m : Int)
/-- a tape, behind a letter -/
def zp_fed (f : Nat → Int32) (n : Nat) (z : Int32) (g : Nat → Int32) (m : Nat) : Prop := (0 ≤ z.toInt ∧ z.toInt ≤ 255 ∧ n < 120 ∧ m = n + 1 ∧ g = upd f n z) ∨ (¬ (0 ≤ z.toInt ∧ z.toInt ≤ 255 ∧ n < 120) ∧ m = n ∧ g = f)
section
variable {LL : Nat} {xs : Nat → Int32} {d n : Nat} {f : Nat → Int32} {σ : rf_S} {post : rf_P}
theorem zp_t28 {z xn : Int32} {fs : List Value} (hd : 1 ≤ d) (hl : σ.length = 90) (h11 : σ[11]? = some (.inr (4, fs))) (h12 : σ[12]? = some (.inl (0, 120, .inl f))) (hf : fs.length = 11) (h0 : fs[0]? = some (.int xn)) (hxn : xn.toInt = (n : Int)) (hn : n ≤ 120) (h4 : fs[4]? = some (.ref 12)) (hz : 0 ≤ z.toInt ∧ z.toInt ≤ 255) (hpost : ∀ (w : Int32) (σ1 : rf_S) (g : Nat → Int32) (m : Nat), σ1.length = 90 → σ1[12]? = some (.inl (0, 120, .inl g)) → zp_fed f n z g m → zq_f0 σ1 m → post (some (.int w)) σ1) : rf_run (rf_SA LL xs) rf_ms d 28 [.ref 11, .int z] σ post := by
  obtain ⟨d, rfl⟩ : ∃ e, d = e + 1 := ⟨d - 1, by omega⟩
  have k120 := zp_k (k := 120) (by decide) (by decide)
  refine zp_en rfl (Nat.le_of_ble_eq_true rfl) ?_
  refine zp_la rfl rfl ?_
  refine zp_gf rfl h11 h0 ?_
  refine zp_i rfl ?_
  refine zp_b26 rfl (fun h => ?_) (fun h => ?_)
  · have h := zp_c2t h
    refine zp_la rfl rfl ?_
    refine zp_gf rfl h11 h4 ?_
    refine zp_la rfl rfl ?_
    refine zp_gf rfl h11 h0 ?_
    refine zp_ld rfl rfl ?_
    refine zp_is rfl h12 (zp_ixs (by omega) (by omega)) ?_
    refine zp_la rfl rfl ?_
    refine zp_dr rfl ?_
    have i11 : (σ.set 12 (.inl (0, 120, .inl (upd f xn.toNatClampNeg z))))[11]? = some (.inr (4, fs)) := by
      rw [List.getElem?_set, if_neg (by decide)]
      exact h11
    refine zp_gf rfl i11 h0 ?_
    refine zp_i rfl ?_
    refine zp_bn rfl ?_
    refine zp_dx rfl ?_
    refine zp_pf rfl i11 rfl (by rw [hf]; decide) ?_
    refine zp_rt rfl rfl (hpost _ _ (upd f n z) (n + 1) (by rw [List.length_set, List.length_set]; exact hl) ?_ (Or.inl ⟨hz.1, hz.2, by omega, rfl, rfl⟩) ⟨_, rf_bin 0 xn (Int32.ofInt 1), zp_s11 (by rw [List.length_set]; exact hl), by rw [List.getElem?_set, if_pos rfl, if_pos (by rw [hf]; decide)], by rw [zp_bn1 (by omega) (by omega)]; omega⟩)
    rw [List.getElem?_set, if_neg (by decide), List.getElem?_set, if_pos rfl, if_pos (by rw [hl]; decide), zp_nat hxn]
  · have h := zp_c2f h
    refine zp_i rfl ?_
    exact zp_rt rfl rfl (hpost _ σ f n hl h12 (Or.inr ⟨fun q => by omega, rfl, rfl⟩) ⟨fs, xn, h11, h0, hxn⟩)
theorem zp_t102 {z xn : Int32} {fs fs9 : List Value} (hd : 2 ≤ d) (hl : σ.length = 90) (h9 : σ[0]? = some (.inr (9, fs9))) (h91 : fs9[1]? = some (.ref 11)) (h11 : σ[11]? = some (.inr (4, fs))) (h12 : σ[12]? = some (.inl (0, 120, .inl f))) (hf : fs.length = 11) (h0 : fs[0]? = some (.int xn)) (hxn : xn.toInt = (n : Int)) (hn : n ≤ 120) (h4 : fs[4]? = some (.ref 12)) (hpost : ∀ (w : Int32) (σ1 : rf_S) (g : Nat → Int32) (m : Nat), σ1.length = 90 → σ1[12]? = some (.inl (0, 120, .inl g)) → zp_fed f n z g m → zq_f0 σ1 m → post (some (.int w)) σ1) : rf_run (rf_SA LL xs) rf_ms d 102 [.ref 0, .int z] σ post := by
  obtain ⟨d, rfl⟩ : ∃ e, d = e + 1 := ⟨d - 1, by omega⟩
  have k0 := zp_k0
  have k255 := zp_k (k := 255) (by decide) (by decide)
  have e11 : ¬ (0 ≤ z.toInt ∧ z.toInt ≤ 255) → zb_W (rf_SA LL xs) rf_ms (rf_run (rf_SA LL xs) rf_ms d) rf_m102 11 (lv_args 0 [.ref 0, .int z]) [] σ 0 0 post := fun h => zp_i rfl (zp_rt rfl rfl (hpost _ σ f n hl h12 (Or.inr ⟨fun q => h ⟨q.1, q.2.1⟩, rfl, rfl⟩) ⟨fs, xn, h11, h0, hxn⟩))
  refine zp_en rfl (Nat.le_of_ble_eq_true rfl) ?_
  refine zp_ld rfl rfl ?_
  refine zp_b25 rfl (fun h => ?_) (fun h => ?_)
  · have h := zp_c2t h
    exact e11 (by omega)
  have h := zp_c2f h
  refine zp_ld rfl rfl ?_
  refine zp_i rfl ?_
  refine zp_b26 rfl (fun h1 => ?_) (fun h1 => ?_)
  · have h1 := zp_c5t h1
    refine zp_la rfl rfl ?_
    refine zp_gf rfl h9 h91 ?_
    refine zp_ld rfl rfl ?_
    refine zp_cli [.ref 11, .int z] [] rfl rfl (Nat.le_of_ble_eq_true rfl) rfl rfl (Nat.le_of_ble_eq_true rfl) (zp_recv h11) rfl rfl ?_
    refine zp_t28 (by omega) hl h11 h12 hf h0 hxn hn h4 (by omega) (fun w σ1 g m hl1 i12 hm h00 => ⟨_, rfl, by rw [hl1, hl], ?_⟩)
    exact zp_rt rfl rfl (hpost w σ1 g m hl1 i12 hm h00)
  · have h1 := zp_c5f h1
    exact e11 (by omega)
end
section
variable {SA : rf_A} {ms : List rf_M} {C : zb_K} {mi : rf_M} {pc : Nat} {L : rf_L} {σ : rf_S} {u v : Nat} {post : rf_P} {st : List Value} {a : Int} {b c x nxt : Nat} {sw : List (Int × Nat)}
theorem zp_lk (hE : mi.2.2 pc = some (1, a, b, c, x, nxt, sw)) (h : zb_W SA ms C mi nxt L (.long (Int64.ofInt a) :: st) σ u v post) : zb_W SA ms C mi pc L st σ u v post := zp_s hE (by decide) rfl h
theorem zp_ll {z : Int64} (hE : mi.2.2 pc = some (3, a, b, c, x, nxt, sw)) (hg : rf_get L b = some (.long z)) (h : zb_W SA ms C mi nxt L (.long z :: st) σ u v post) : zb_W SA ms C mi pc L st σ u v post := zp_s hE (by decide) (by simp only [rf_stp, hg]) h
theorem zp_il {z : Int32} (hE : mi.2.2 pc = some (13, a, b, c, x, nxt, sw)) (h : zb_W SA ms C mi nxt L (.long z.toInt64 :: st) σ u v post) : zb_W SA ms C mi pc L (.int z :: st) σ u v post := zp_s hE (by decide) rfl h
theorem zp_lm {z y : Int64} (hE : mi.2.2 pc = some (19, a, b, c, x, nxt, sw)) (h : zb_W SA ms C mi nxt L (.int (lg_cmp z y) :: st) σ u v post) : zb_W SA ms C mi pc L (.long y :: .long z :: st) σ u v post := zp_s hE (by decide) rfl h
end
section
variable {LL : Nat} {xs : Nat → Int32} {d n : Nat} {f : Nat → Int32} {σ : rf_S} {post : rf_P}
theorem zp_lcm {z y : Int64} : ((lg_cmp z y).toInt < 0 ↔ z.toInt < y.toInt) ∧ (0 < (lg_cmp z y).toInt ↔ y.toInt < z.toInt) := by
  have hl := an_lcmp (z := z) (y := y)
  have key : z.toInt < y.toInt ∨ z.toInt = y.toInt ∨ y.toInt < z.toInt := by omega
  have e1 : (-1 : Int32).toInt = -1 := by decide
  have e0 : (0 : Int32).toInt = 0 := by decide
  have e2 : (1 : Int32).toInt = 1 := by decide
  rcases key with h | h | h
  · rw [hl.2.2 h, e1]
    omega
  · rw [hl.2.1 h, e0]
    omega
  · rw [hl.1 h, e2]
    omega
theorem zp_t138 {v lo hi : Int64} (hd : 1 ≤ d) (hpost : ∀ b : Bool, (b = true ↔ lo.toInt ≤ v.toInt ∧ v.toInt ≤ hi.toInt) → post (some (.int (zp_bi b))) σ) : rf_run (rf_SA LL xs) rf_ms d 138 [.long v, .long lo, .long hi] σ post := by
  obtain ⟨d, rfl⟩ : ∃ e, d = e + 1 := ⟨d - 1, by omega⟩
  have k0 := zp_k0
  have q1 := zp_lcm (z := v) (y := lo)
  have q2 := zp_lcm (z := v) (y := hi)
  have e17 : ¬ (lo.toInt ≤ v.toInt ∧ v.toInt ≤ hi.toInt) → zb_W (rf_SA LL xs) rf_ms (rf_run (rf_SA LL xs) rf_ms d) rf_m138 17 (lv_args 0 [.long v, .long lo, .long hi]) [] σ 0 0 post := fun h => zp_i rfl (zp_rt rfl zp_nb0 (hpost false ⟨fun e => (by cases e), fun e => absurd e h⟩))
  refine zp_en rfl (Nat.le_of_ble_eq_true rfl) ?_
  refine zp_ll rfl rfl ?_
  refine zp_ll rfl rfl ?_
  refine zp_lm rfl ?_
  refine zp_b25 rfl (fun h => ?_) (fun h => ?_)
  · have h := zp_c2t h
    exact e17 (by omega)
  have h := zp_c2f h
  refine zp_ll rfl rfl ?_
  refine zp_ll rfl rfl ?_
  refine zp_lm rfl ?_
  refine zp_b25 rfl (fun h1 => ?_) (fun h1 => ?_)
  · have h1 := zp_c4t h1
    exact e17 (by omega)
  · have h1 := zp_c4f h1
    refine zp_i rfl ?_
    refine zp_gt rfl ?_
    exact zp_rt rfl zp_nb1 (hpost true ⟨fun _ => by omega, fun _ => rfl⟩)
theorem zp_t158 {z xn : Int32} {fs : List Value} (hd : 2 ≤ d) (hl : σ.length = 90) (h63 : σ[63]? = some (.inr (10, fs))) (h70 : σ[70]? = some (.inl (0, 120, .inl f))) (hf : fs.length = 62) (h15 : fs[15]? = some (.int xn)) (hxn : xn.toInt = (n : Int)) (hn : n ≤ 120) (h14 : fs[14]? = some (.ref 70)) (hpost : ∀ (w : Int32) (σ1 : rf_S) (g : Nat → Int32) (m : Nat), σ1.length = 90 → σ1[70]? = some (.inl (0, 120, .inl g)) → zp_fed f n z g m → post (some (.int w)) σ1) : rf_run (rf_SA LL xs) rf_ms d 158 [.ref 63, .int z] σ post := by
  obtain ⟨d, rfl⟩ : ∃ e, d = e + 1 := ⟨d - 1, by omega⟩
  have k120 := zp_k (k := 120) (by decide) (by decide)
  have l0 : (Int64.ofInt 0).toInt = 0 := by decide
  have l255 : (Int64.ofInt 255).toInt = 255 := by decide
  have lz : z.toInt64.toInt = z.toInt := Int32.toInt_toInt64 z
  refine zp_en rfl (Nat.le_of_ble_eq_true rfl) ?_
  refine zp_ld rfl rfl ?_
  refine zp_il rfl ?_
  refine zp_lk rfl ?_
  refine zp_lk rfl ?_
  refine zp_cli [.long z.toInt64, .long (Int64.ofInt 0), .long (Int64.ofInt 255)] [] rfl rfl (Nat.le_of_ble_eq_true rfl) rfl rfl (Nat.le_of_ble_eq_true rfl) rfl rfl rfl ?_
  refine zp_t138 (by omega) (fun b hb => ⟨_, rfl, rfl, ?_⟩)
  rw [l0, l255, lz] at hb
  refine zp_b25 rfl (fun h => ?_) (fun h => ?_)
  · have hin := hb.mp (zp_bi_t (zp_c1t h))
    refine zp_la rfl rfl ?_
    refine zp_gf rfl h63 h15 ?_
    refine zp_i rfl ?_
    refine zp_b26 rfl (fun h1 => ?_) (fun h1 => ?_)
    · have h1 := zp_c1t h1
      refine zp_la rfl rfl ?_
      refine zp_gf rfl h63 h14 ?_
      refine zp_la rfl rfl ?_
      refine zp_gf rfl h63 h15 ?_
      refine zp_ld rfl rfl ?_
      refine zp_is rfl h70 (zp_ixs (by omega) (by omega)) ?_
      refine zp_la rfl rfl ?_
      refine zp_dr rfl ?_
      have i63 : (σ.set 70 (.inl (0, 120, .inl (upd f xn.toNatClampNeg z))))[63]? = some (.inr (10, fs)) := by
        rw [List.getElem?_set, if_neg (by decide)]
        exact h63
      refine zp_gf rfl i63 h15 ?_
      refine zp_i rfl ?_
      refine zp_bn rfl ?_
      refine zp_pf rfl i63 rfl (by rw [hf]; decide) ?_
      have hl2 : (σ.set 70 (.inl (0, 120, .inl (upd f xn.toNatClampNeg z)))).length = 90 := by
        rw [List.length_set]
        exact hl
      refine zp_la rfl rfl ?_
      refine zp_gf rfl (zm_s63 hl2) (by rw [List.getElem?_set, if_pos rfl, if_pos (by rw [hf]; decide)]) ?_
      refine zp_rt rfl rfl (hpost _ _ (upd f n z) (n + 1) (by rw [List.length_set]; exact hl2) ?_ (Or.inl ⟨hin.1, hin.2, by omega, rfl, rfl⟩))
      rw [List.getElem?_set, if_neg (by decide), List.getElem?_set, if_pos rfl, if_pos (by rw [hl]; decide), zp_nat hxn]
    · have h1 := zp_c1f h1
      refine zp_i rfl ?_
      exact zp_rt rfl rfl (hpost _ σ f n hl h70 (Or.inr ⟨fun q => by omega, rfl, rfl⟩))
  · have hin : ¬ (0 ≤ z.toInt ∧ z.toInt ≤ 255) := fun q => zp_bi_f (zp_c1f h) (hb.mpr q)
    refine zp_i rfl ?_
    exact zp_rt rfl rfl (hpost _ σ f n hl h70 (Or.inr ⟨fun q => hin ⟨q.1, q.2.1⟩, rfl, rfl⟩))
end
