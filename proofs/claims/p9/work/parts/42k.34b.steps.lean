/-! readers by hand: steps -/
section
variable {SA : rf_A} {ms : List rf_M} {C : zb_K} {mi : rf_M} {pc : Nat} {L : rf_L} {σ : rf_S} {u v : Nat} {post : rf_P} {st : List Value} {a : Int} {b c x nxt : Nat} {sw : List (Int × Nat)}
theorem zp_s {op pc' : Nat} {L' : rf_L} {st' : List Value} {σ' : rf_S} (hE : mi.2.2 pc = some (op, a, b, c, x, nxt, sw)) (hop : ¬ op = 46 ∧ ¬ (39 ≤ op ∧ op ≤ 41) ∧ ¬ 47 ≤ op) (hs : rf_stp SA (op, a, b, c, x, nxt, sw) L st σ = some (pc', L', st', σ')) (h : zb_W SA ms C mi pc' L' st' σ' u v post) : zb_W SA ms C mi pc L st σ u v post := zb_W_step hE hop.1 hop.2.1 hop.2.2 hs h
theorem zp_i (hE : mi.2.2 pc = some (0, a, b, c, x, nxt, sw)) (h : zb_W SA ms C mi nxt L (.int (Int32.ofInt a) :: st) σ u v post) : zb_W SA ms C mi pc L st σ u v post := zp_s hE (by decide) rfl h
theorem zp_ld {z : Int32} (hE : mi.2.2 pc = some (2, a, b, c, x, nxt, sw)) (hg : rf_get L b = some (.int z)) (h : zb_W SA ms C mi nxt L (.int z :: st) σ u v post) : zb_W SA ms C mi pc L st σ u v post := zp_s hE (by decide) (by simp only [rf_stp, hg]) h
theorem zp_la {q : Nat} (hE : mi.2.2 pc = some (4, a, b, c, x, nxt, sw)) (hg : rf_get L b = some (.ref q)) (h : zb_W SA ms C mi nxt L (.ref q :: st) σ u v post) : zb_W SA ms C mi pc L st σ u v post := zp_s hE (by decide) (by simp only [rf_stp, hg]) h
theorem zp_st {z : Int32} (hE : mi.2.2 pc = some (5, a, b, c, x, nxt, sw)) (h : zb_W SA ms C mi nxt (rf_set L b (.int z)) st σ u v post) : zb_W SA ms C mi pc L (.int z :: st) σ u v post := zp_s hE (by decide) rfl h
theorem zp_sa {q : Nat} (hE : mi.2.2 pc = some (6, a, b, c, x, nxt, sw)) (h : zb_W SA ms C mi nxt (rf_set L b (.ref q)) st σ u v post) : zb_W SA ms C mi pc L (.ref q :: st) σ u v post := zp_s hE (by decide) rfl h
theorem zp_inc {z : Int32} (hE : mi.2.2 pc = some (8, a, b, c, x, nxt, sw)) (hg : rf_get L b = some (.int z)) (h : zb_W SA ms C mi nxt (rf_set L b (.int (z + Int32.ofInt a))) st σ u v post) : zb_W SA ms C mi pc L st σ u v post := zp_s hE (by decide) (by simp only [rf_stp, hg]) h
theorem zp_bn {z y : Int32} (hE : mi.2.2 pc = some (9, a, b, c, x, nxt, sw)) (h : zb_W SA ms C mi nxt L (.int (rf_bin b z y) :: st) σ u v post) : zb_W SA ms C mi pc L (.int y :: .int z :: st) σ u v post := zp_s hE (by decide) rfl h
theorem zp_dv {z y : Int32} (hE : mi.2.2 pc = some (10, a, b, c, x, nxt, sw)) (hy : ¬ y = 0) (h : ∀ w : Int32, zb_W SA ms C mi nxt L (.int w :: st) σ u v post) : zb_W SA ms C mi pc L (.int y :: .int z :: st) σ u v post := zp_s (L' := L) (st' := .int (z / y) :: st) (σ' := σ) (pc' := nxt) hE (by decide) (by simp only [rf_stp, hy, decide_false, cond_false]) (h _)
theorem zp_md {z y : Int32} (hE : mi.2.2 pc = some (11, a, b, c, x, nxt, sw)) (hy : ¬ y = 0) (h : ∀ w : Int32, zb_W SA ms C mi nxt L (.int w :: st) σ u v post) : zb_W SA ms C mi pc L (.int y :: .int z :: st) σ u v post := zp_s (L' := L) (st' := .int (z - z / y * y) :: st) (σ' := σ) (pc' := nxt) hE (by decide) (by simp only [rf_stp, hy, decide_false, cond_false]) (h _)
theorem zp_ng {y : Int32} (hE : mi.2.2 pc = some (12, a, b, c, x, nxt, sw)) (h : zb_W SA ms C mi nxt L (.int (-y) :: st) σ u v post) : zb_W SA ms C mi pc L (.int y :: st) σ u v post := zp_s hE (by decide) rfl h
theorem zp_dr {q : Nat} (hE : mi.2.2 pc = some (20, a, b, c, x, nxt, sw)) (h : zb_W SA ms C mi nxt L (.ref q :: .ref q :: st) σ u v post) : zb_W SA ms C mi pc L (.ref q :: st) σ u v post := zp_s hE (by decide) rfl h
theorem zp_dx {q : Nat} {z : Int32} (hE : mi.2.2 pc = some (21, a, b, c, x, nxt, sw)) (h : zb_W SA ms C mi nxt L (.int z :: .ref q :: .int z :: st) σ u v post) : zb_W SA ms C mi pc L (.int z :: .ref q :: st) σ u v post := zp_s hE (by decide) rfl h
theorem zp_gt (hE : mi.2.2 pc = some (27, a, b, c, x, nxt, sw)) (h : zb_W SA ms C mi c L st σ u v post) : zb_W SA ms C mi pc L st σ u v post := zp_s hE (by decide) rfl h
theorem zp_sw {y : Int32} (hE : mi.2.2 pc = some (28, a, b, c, x, nxt, sw)) (h : zb_W SA ms C mi (rf_sw sw c y.toInt) L st σ u v post) : zb_W SA ms C mi pc L (.int y :: st) σ u v post := zp_s hE (by decide) rfl h
theorem zp_gf {q : Nat} {fs : List Value} {w : Value} (hE : mi.2.2 pc = some (29, a, b, c, x, nxt, sw)) (hσ : σ[q]? = some (.inr (b, fs))) (hf : fs[c]? = some w) (h : zb_W SA ms C mi nxt L (w :: st) σ u v post) : zb_W SA ms C mi pc L (.ref q :: st) σ u v post := zp_s (pc' := nxt) (L' := L) (st' := w :: st) (σ' := σ) hE (by decide) (by simp only [rf_stp, hσ, Nat.beq_refl, cond_true, hf]) h
theorem zp_pf {q : Nat} {fs : List Value} {w : Value} (hE : mi.2.2 pc = some (30, a, b, c, x, nxt, sw)) (hσ : σ[q]? = some (.inr (b, fs))) (hfit : rf_fit (rf_fty b c) w = true) (hc : c < fs.length) (h : zb_W SA ms C mi nxt L st (σ.set q (.inr (b, fs.set c w))) u v post) : zb_W SA ms C mi pc L (w :: .ref q :: st) σ u v post := by
  have hb : Nat.blt c fs.length = true := Nat.ble_eq_true_of_le hc
  exact zp_s (pc' := nxt) (L' := L) (st' := st) (σ' := σ.set q (.inr (b, fs.set c w))) hE (by decide) (by simp only [rf_stp, hσ, Nat.beq_refl, hfit, hb, Bool.and_self, cond_true]) h
theorem zp_ix {q n : Nat} {z : Int32} {f : Nat → Int32} (hE : mi.2.2 pc = some (32, a, b, c, x, nxt, sw)) (hS : rf_isS q = false) (hσ : σ[q]? = some (.inl (0, n, .inl f))) (hi : rf_ixs z n = true) (h : zb_W SA ms C mi nxt L (.int (f z.toNatClampNeg) :: st) σ u v post) : zb_W SA ms C mi pc L (.int z :: .ref q :: st) σ u v post := zp_s (pc' := nxt) (L' := L) (st' := .int (f z.toNatClampNeg) :: st) (σ' := σ) hE (by decide) (by simp only [rf_stp, hS, cond_false, hσ, hi, cond_true]) h
theorem zp_is {q n : Nat} {z w : Int32} {f : Nat → Int32} (hE : mi.2.2 pc = some (33, a, b, c, x, nxt, sw)) (hσ : σ[q]? = some (.inl (0, n, .inl f))) (hi : rf_ixs z n = true) (h : zb_W SA ms C mi nxt L st (σ.set q (.inl (0, n, .inl (upd f z.toNatClampNeg w)))) u v post) : zb_W SA ms C mi pc L (.int w :: .int z :: .ref q :: st) σ u v post := zp_s (pc' := nxt) (L' := L) (st' := st) (σ' := σ.set q (.inl (0, n, .inl (upd f z.toNatClampNeg w)))) hE (by decide) (by simp only [rf_stp, hσ, hi, cond_true]) h
theorem zp_ln {q n : Nat} {f : Nat → Int32} (hE : mi.2.2 pc = some (38, a, b, c, x, nxt, sw)) (hS : rf_isS q = false) (hσ : σ[q]? = some (.inl (0, n, .inl f))) (h : zb_W SA ms C mi nxt L (.int (Int32.ofNat n) :: st) σ u v post) : zb_W SA ms C mi pc L (.ref q :: st) σ u v post := zp_s (pc' := nxt) (L' := L) (st' := .int (Int32.ofNat n) :: st) (σ' := σ) hE (by decide) (by
  have h3 : Nat.blt 0 3 = true := rfl
  simp only [rf_stp, hS, cond_false, hσ, h3, cond_true]) h
theorem zp_rt {z : Int32} (hE : mi.2.2 pc = some (48, a, b, c, x, nxt, sw)) (hn : narrow (mi.1.2.2.2.1.getD .int) (.int z) = .int z) (hp : post (some (.int z)) σ) : zb_W SA ms C mi pc L [.int z] σ 0 0 post := zb_W_ret hE (by show ¬ (48 : Nat) = 46; decide) (by show ¬ (39 ≤ (48 : Nat) ∧ (48 : Nat) ≤ 41); decide) (by show 47 ≤ (48 : Nat); decide) (Nat.zero_le _) (Nat.zero_le _) ⟨hn, hp⟩
theorem zp_rv (hE : mi.2.2 pc = some (47, a, b, c, x, nxt, sw)) (hp : post none σ) : zb_W SA ms C mi pc L [] σ 0 0 post := zb_W_ret hE (by show ¬ (47 : Nat) = 46; decide) (by show ¬ (39 ≤ (47 : Nat) ∧ (47 : Nat) ≤ 41); decide) (by show 47 ≤ (47 : Nat); decide) (Nat.zero_le _) (Nat.zero_le _) hp
theorem zp_cl {d : Nat} {mj : rf_M} {As rest : List Value} (hE : mi.2.2 pc = some (46, a, b, c, x, nxt, sw)) (hm : ms[b]? = some mj) (hlen : c ≤ st.length) (hA : (st.take c).reverse = As) (hr : st.drop c = rest) (hcat : rf_cat rest ≤ 8) (hrecv : rf_recv mj.2.1.1 mj.2.1.2.2.2.2.1 As σ = true) (h4 : mj.2.1.2.2.1 = 0) (h5 : mj.2.1.2.2.2.1 = 0) (h6 : rf_run SA ms d b As σ (fun rv σ1 => σ1.length = σ.length ∧ zb_W SA ms (rf_run SA ms d) mi nxt L (rv.toList ++ rest) σ1 0 0 post)) : zb_W SA ms (rf_run SA ms d) mi pc L st σ 0 0 post := by
  subst hA
  subst hr
  refine zb_W_call (rf_run_det _ _ _) (fun b As σ p q => rf_run_post _ _ _ b As σ p q) hE rfl hm hlen hcat hrecv (by rw [h4]; exact Nat.zero_le _) (by rw [h5]; exact Nat.zero_le _) ?_
  rw [h4, h5]
  exact h6
theorem zp_cli {d : Nat} {mj : rf_M} (As rest : List Value) (hE : mi.2.2 pc = some (46, a, b, c, x, nxt, sw)) (hm : ms[b]? = some mj) (hlen : c ≤ st.length) (hA : (st.take c).reverse = As) (hr : st.drop c = rest) (hcat : rf_cat rest ≤ 8) (hrecv : rf_recv mj.2.1.1 mj.2.1.2.2.2.2.1 As σ = true) (h4 : mj.2.1.2.2.1 = 0) (h5 : mj.2.1.2.2.2.1 = 0) (h6 : rf_run SA ms d b As σ (fun rv σ1 => ∃ z : Int32, rv = some (.int z) ∧ σ1.length = σ.length ∧ zb_W SA ms (rf_run SA ms d) mi nxt L (.int z :: rest) σ1 0 0 post)) : zb_W SA ms (rf_run SA ms d) mi pc L st σ 0 0 post := by
  refine zp_cl hE hm hlen hA hr hcat hrecv h4 h5 (rf_run_post SA ms d _ _ _ _ _ (fun rv σ1 h => ?_) h6)
  obtain ⟨z, e, h1, h2⟩ := h
  subst e
  exact ⟨h1, h2⟩
theorem zp_clv {d : Nat} {mj : rf_M} (As rest : List Value) (hE : mi.2.2 pc = some (46, a, b, c, x, nxt, sw)) (hm : ms[b]? = some mj) (hlen : c ≤ st.length) (hA : (st.take c).reverse = As) (hr : st.drop c = rest) (hcat : rf_cat rest ≤ 8) (hrecv : rf_recv mj.2.1.1 mj.2.1.2.2.2.2.1 As σ = true) (h4 : mj.2.1.2.2.1 = 0) (h5 : mj.2.1.2.2.2.1 = 0) (h6 : rf_run SA ms d b As σ (fun rv σ1 => rv = none ∧ σ1.length = σ.length ∧ zb_W SA ms (rf_run SA ms d) mi nxt L rest σ1 0 0 post)) : zb_W SA ms (rf_run SA ms d) mi pc L st σ 0 0 post := by
  refine zp_cl hE hm hlen hA hr hcat hrecv h4 h5 (rf_run_post SA ms d _ _ _ _ _ (fun rv σ1 h => ?_) h6)
  obtain ⟨e, h1, h2⟩ := h
  subst e
  exact ⟨h1, h2⟩
theorem zp_en {d : Nat} {As : List Value} (hm : ms[b]? = some mi) (hl : (lg_sl As).length ≤ mi.1.2.2.1) (h : zb_W SA ms (rf_run SA ms d) mi 0 (lv_args 0 As) [] σ 0 0 post) : rf_run SA ms (d + 1) b As σ post := ⟨mi, hm, hl, h⟩
theorem zp_b26 {z y : Int32} (hE : mi.2.2 pc = some (26, a, b, c, x, nxt, sw)) (ht : rf_cmp b z y = true → zb_W SA ms C mi c L st σ u v post) (hf : rf_cmp b z y = false → zb_W SA ms C mi nxt L st σ u v post) : zb_W SA ms C mi pc L (.int y :: .int z :: st) σ u v post := by
  cases h : rf_cmp b z y with
  | true => exact zp_s (pc' := c) (L' := L) (st' := st) (σ' := σ) hE (by decide) (by simp only [rf_stp, h, cond_true]) (ht h)
  | false => exact zp_s (pc' := nxt) (L' := L) (st' := st) (σ' := σ) hE (by decide) (by simp only [rf_stp, h, cond_false]) (hf h)
theorem zp_b25 {z : Int32} (hE : mi.2.2 pc = some (25, a, b, c, x, nxt, sw)) (ht : rf_cmp b z 0 = true → zb_W SA ms C mi c L st σ u v post) (hf : rf_cmp b z 0 = false → zb_W SA ms C mi nxt L st σ u v post) : zb_W SA ms C mi pc L (.int z :: st) σ u v post := by
  cases h : rf_cmp b z 0 with
  | true => exact zp_s (pc' := c) (L' := L) (st' := st) (σ' := σ) hE (by decide) (by simp only [rf_stp, h, cond_true]) (ht h)
  | false => exact zp_s (pc' := nxt) (L' := L) (st' := st) (σ' := σ) hE (by decide) (by simp only [rf_stp, h, cond_false]) (hf h)
end
theorem zp_recv {σ : rf_S} {q ci : Nat} {fs l : List Value} (h : σ[q]? = some (.inr (ci, fs))) : rf_recv 1 ci (.ref q :: l) σ = true := by
  simp only [rf_recv, h, Nat.beq_refl]
section
variable {z y : Int32}
theorem zp_lt : z < y ↔ z.toInt < y.toInt := Int32.lt_iff_toInt_lt
theorem zp_le : z ≤ y ↔ z.toInt ≤ y.toInt := Int32.le_iff_toInt_le
theorem zp_c0t (h : rf_cmp 0 z y = true) : z.toInt = y.toInt := by rw [of_decide_eq_true h]
theorem zp_c0f (h : rf_cmp 0 z y = false) : ¬ z.toInt = y.toInt := fun e => of_decide_eq_false h (Int32.toInt_inj.mp e)
theorem zp_c1t (h : rf_cmp 1 z y = true) : ¬ z.toInt = y.toInt := by
  have h : (!decide (z = y)) = true := h
  rw [Bool.not_eq_true'] at h
  exact zp_c0f h
theorem zp_c1f (h : rf_cmp 1 z y = false) : z.toInt = y.toInt := by
  have h : (!decide (z = y)) = false := h
  rw [Bool.not_eq_false'] at h
  exact zp_c0t h
theorem zp_c2t (h : rf_cmp 2 z y = true) : z.toInt < y.toInt := zp_lt.mp (of_decide_eq_true h)
theorem zp_c2f (h : rf_cmp 2 z y = false) : y.toInt ≤ z.toInt := by
  have : ¬ z.toInt < y.toInt := fun e => of_decide_eq_false h (zp_lt.mpr e)
  omega
theorem zp_c3t (h : rf_cmp 3 z y = true) : y.toInt ≤ z.toInt := zp_le.mp (of_decide_eq_true h)
theorem zp_c3f (h : rf_cmp 3 z y = false) : z.toInt < y.toInt := by
  have : ¬ y.toInt ≤ z.toInt := fun e => of_decide_eq_false h (zp_le.mpr e)
  omega
theorem zp_c4t (h : rf_cmp 4 z y = true) : y.toInt < z.toInt := zp_lt.mp (of_decide_eq_true h)
theorem zp_c4f (h : rf_cmp 4 z y = false) : z.toInt ≤ y.toInt := by
  have : ¬ y.toInt < z.toInt := fun e => of_decide_eq_false h (zp_lt.mpr e)
  omega
theorem zp_c5t (h : rf_cmp 5 z y = true) : z.toInt ≤ y.toInt := zp_le.mp (of_decide_eq_true h)
theorem zp_c5f (h : rf_cmp 5 z y = false) : y.toInt < z.toInt := by
  have : ¬ z.toInt ≤ y.toInt := fun e => of_decide_eq_false h (zp_le.mpr e)
  omega
theorem zp_k {k : Int} (h1 : -2147483648 ≤ k) (h2 : k ≤ 2147483647) : (Int32.ofInt k).toInt = k := Int32.toInt_ofInt_of_le (by omega) (by omega)
theorem zp_k0 : (0 : Int32).toInt = 0 := rfl
theorem zp_a1 (h0 : -2147483648 ≤ z.toInt) (h : z.toInt < 2147483647) : (z + Int32.ofInt 1).toInt = z.toInt + 1 := by
  have k := zp_k (k := 1) (by decide) (by decide)
  rw [zb_add (by omega) (by omega), k]
theorem zp_bn1 (h0 : -2147483648 ≤ z.toInt) (h : z.toInt < 2147483647) : (rf_bin 0 z (Int32.ofInt 1)).toInt = z.toInt + 1 := zp_a1 h0 h
theorem zp_ixs {n : Nat} (h0 : 0 ≤ z.toInt) (h : z.toInt < (n : Int)) : rf_ixs z n = true := by
  refine an_ixs (fun e => ?_) ?_
  · have e := zp_lt.mp e
    rw [zp_k0] at e
    omega
  · have e1 : (z.toNatClampNeg : Int) = z.toInt := by
      show ((z.toInt.toNat : Nat) : Int) = z.toInt
      omega
    omega
theorem zp_nat {p : Nat} (h : z.toInt = (p : Int)) : z.toNatClampNeg = p := by
  show z.toInt.toNat = p
  rw [h]
  rfl
end
theorem zp_hit {k : Int} {t d : Nat} {x : Int} {r : List (Int × Nat)} (h : x = k) : rf_sw ((k, t) :: r) d x = t := by
  show (bif decide (x = k) then t else rf_sw r d x) = t
  rw [decide_eq_true h, cond_true]
theorem zp_mis {k : Int} {t d : Nat} {x : Int} {r : List (Int × Nat)} (h : ¬ x = k) : rf_sw ((k, t) :: r) d x = rf_sw r d x := by
  show (bif decide (x = k) then t else rf_sw r d x) = rf_sw r d x
  rw [decide_eq_false h, cond_false]
theorem zp_gi {L : rf_L} {i j : Nat} {v : Value} {z : Int32} (hij : ¬ j = i) (h : rf_get L j = some (.int z)) : rf_get (rf_set L i v) j = some (.int z) := zb_rget_ne hij h (fun q => by cases q)
theorem zp_gr {L : rf_L} {i j q : Nat} {v : Value} (hij : ¬ j = i) (h : rf_get L j = some (.ref q)) : rf_get (rf_set L i v) j = some (.ref q) := zb_rget_ne hij h (fun q => by cases q)
def zp_bi (b : Bool) : Int32 := bif b then Int32.ofInt 1 else Int32.ofInt 0
theorem zp_nb {b : Bool} : narrow .boolean (.int (zp_bi b)) = .int (zp_bi b) := by
  cases b with
  | false => exact zb_narrow (Or.inl rfl)
  | true => exact zb_narrow (Or.inr rfl)
theorem zp_bi_t {b : Bool} (h : ¬ (zp_bi b).toInt = (0 : Int32).toInt) : b = true := by
  cases b with
  | true => rfl
  | false => exact absurd (by decide) h
theorem zp_bi_f {b : Bool} (h : (zp_bi b).toInt = (0 : Int32).toInt) : ¬ b = true := by
  cases b with
  | false => decide
  | true => exact absurd h (by decide)
theorem zp_nb1 : narrow .boolean (.int (Int32.ofInt 1)) = .int (Int32.ofInt 1) := zb_narrow (Or.inr rfl)
theorem zp_nb0 : narrow .boolean (.int (Int32.ofInt 0)) = .int (Int32.ofInt 0) := zb_narrow (Or.inl rfl)
/-! a run's two ends are one -/
section
variable {SA : rf_A} {ms : List rf_M}
theorem zp_wp_cj {C : zb_K} {mi : rf_M} (hC : zb_mon C) (hJ : ∀ b As σ p q, C b As σ p → C b As σ q → C b As σ (fun rv s => p rv s ∧ q rv s)) : ∀ (n n' pc : Nat) (L : rf_L) (st : List Value) (σ : rf_S) (u v : Nat) (p q : rf_P), rf_wp SA ms C mi n pc L st σ u v p → rf_wp SA ms C mi n' pc L st σ u v q → rf_wp SA ms C mi n pc L st σ u v (fun rv s => p rv s ∧ q rv s) := by
  intro n
  induction n with
  | zero => intro n' pc L st σ u v p q h; exact h.elim
  | succ n ih =>
    intro n' pc L st σ u v p q h h'
    cases n' with
    | zero => exact h'.elim
    | succ n' =>
    unfold rf_wp at h h' ⊢
    cases hE : mi.2.2 pc with
    | none => rw [hE] at h; exact h.elim
    | some E =>
    rw [hE] at h h'
    dsimp only at h h' ⊢
    by_cases h46 : E.1 = 46
    · rw [if_pos h46] at h h' ⊢
      cases hm : ms[E.2.2.1]? with
      | none => rw [hm] at h; exact h.elim
      | some mj =>
      rw [hm] at h h'
      obtain ⟨h1, h2, h3, h4, h5, h6⟩ := h
      obtain ⟨-, -, -, -, -, h6'⟩ := h'
      exact ⟨h1, h2, h3, h4, h5, hC _ _ _ _ _ (fun r s hr => ⟨hr.1.1, ih _ _ _ _ _ _ _ _ _ hr.1.2 hr.2.2⟩) (hJ _ _ _ _ _ h6 h6')⟩
    · rw [if_neg h46] at h h' ⊢
      by_cases hal : 39 ≤ E.1 ∧ E.1 ≤ 41
      · rw [if_pos hal] at h h' ⊢
        cases ha : rf_alc E st with
        | none => rw [ha] at h; exact h.elim
        | some w =>
        obtain ⟨r, o, w⟩ := w
        rw [ha] at h h'
        obtain ⟨h1, h2, h3, h4, h5, h6⟩ := h
        obtain ⟨-, -, -, -, -, h6'⟩ := h'
        exact ⟨h1, h2, h3, h4, h5, ih _ _ _ _ _ _ _ _ _ h6 h6'⟩
      · rw [if_neg hal] at h h' ⊢
        by_cases h47 : 47 ≤ E.1
        · rw [if_pos h47] at h h' ⊢
          obtain ⟨h1, h2, h3⟩ := h
          obtain ⟨-, -, h3'⟩ := h'
          refine ⟨h1, h2, ?_⟩
          rcases zb_rt_inv h3 with ⟨e1, e2, h⟩ | ⟨z, e1, e2, h⟩ | ⟨z, e1, e2, h⟩ | ⟨z, e1, e2, h⟩
          · rw [e1, e2] at h3' ⊢; exact ⟨h, h3'⟩
          · rw [e1, e2] at h3' ⊢; exact ⟨h.1, h.2, h3'.2⟩
          · rw [e1, e2] at h3' ⊢; exact ⟨h, h3'⟩
          · rw [e1, e2] at h3' ⊢; exact ⟨h, h3'⟩
        · rw [if_neg h47] at h h' ⊢
          cases hs : rf_stp SA E L st σ with
          | none => rw [hs] at h; exact h.elim
          | some w =>
          obtain ⟨pc', L', st', σ'⟩ := w
          rw [hs] at h h'
          exact ih _ _ _ _ _ _ _ _ _ h h'
theorem zp_cj : ∀ (d b : Nat) (As : List Value) (σ : rf_S) (p q : rf_P), rf_run SA ms d b As σ p → rf_run SA ms d b As σ q → rf_run SA ms d b As σ (fun rv s => p rv s ∧ q rv s) := by
  intro d
  induction d with
  | zero => intro b As σ p q h; exact h.elim
  | succ d ih =>
    intro b As σ p q h h'
    obtain ⟨mi, h1, h2, n, h3⟩ := h
    obtain ⟨mi', h1', -, n', h3'⟩ := h'
    rw [h1] at h1'
    cases h1'
    exact ⟨mi, h1, h2, n, zp_wp_cj (rf_run_post SA ms d) ih n n' _ _ _ _ _ _ _ _ h3 h3'⟩
end
