/-! by hand: the first loop of Model.friends (191): up to the customer's place -/
theorem zb_frl {SA : rf_A} {C : zb_K} {post : rf_P} {σ : rf_S} {fs : List Value} {f : Nat → Int32} {k : Int32} {p : Nat} {u v : Nat} {v1 : Int32} (h63 : σ[63]? = some (.inr (10, fs))) (h12 : fs[12]? = some (.ref 69)) (h69 : σ[69]? = some (.inl (0, 7, .inl f))) (hp : p < 7) (hk : f p = k) (hnext : ∀ L z, rf_get L 0 = some (.ref 63) → rf_get L 1 = some (.int v1) → rf_get L 2 = some (.int k) → rf_get L 3 = some (.int z) → zb_W SA rf_ms C rf_m191 49 L [] σ u v post) : ∀ (m i : Nat) (z : Int32) (L : rf_L), i + m = p → rf_get L 0 = some (.ref 63) → rf_get L 1 = some (.int v1) → rf_get L 2 = some (.int k) → rf_get L 3 = some (.int z) → rf_get L 4 = some (.int (Int32.ofNat i)) → zb_W SA rf_ms C rf_m191 20 L [] σ u v post := by
  intro m
  induction m with
  | zero =>
    intro i z L hi g0 g1 g2 g3 g4
    have ep : i = p := by omega
    subst ep
    have x7 := zb_ix7 hp
    refine zb_W_step (pc' := 21) (L' := L) (st' := [.ref 63]) (σ' := σ) rfl (by decide) (by decide) (by decide) (by simp only [rf_stp, g0]) ?_
    refine zb_W_step (pc' := 24) (L' := L) (st' := [.ref 69]) (σ' := σ) rfl (by decide) (by decide) (by decide) (by simp only [rf_stp, h63, Nat.beq_refl, cond_true, h12]) ?_
    refine zb_W_step (pc' := 26) (L' := L) (st' := [.int (Int32.ofNat i), .ref 69]) (σ' := σ) rfl (by decide) (by decide) (by decide) (by simp only [rf_stp, g4]) ?_
    refine zb_W_step (pc' := 27) (L' := L) (st' := [.int (f i)]) (σ' := σ) rfl (by decide) (by decide) (by decide) (by
      have e := an_st_H (SA := SA) (L' := L) (σ' := σ) (r2 := []) (a := 0) (b := 0) (c := 0) (x := 0) (nxt := 27) (sw := []) (r0 := 69) (i := Int32.ofNat i) rfl h69 x7.1
      rw [x7.2] at e
      exact e) ?_
    refine zb_W_step (pc' := 28) (L' := L) (st' := [.int k, .int (f i)]) (σ' := σ) rfl (by decide) (by decide) (by decide) (by simp only [rf_stp, g2]) ?_
    refine zb_W_step (pc' := 49) (L' := L) (st' := []) (σ' := σ) rfl (by decide) (by decide) (by decide) (by simp only [rf_stp, rf_cmp, hk, decide_true, cond_true]) ?_
    exact hnext L z g0 g1 g2 g3
  | succ m ih =>
    intro i z L hi g0 g1 g2 g3 g4
    have i7 : i < 7 := by omega
    have x7 := zb_ix7 i7
    refine zb_W_step (pc' := 21) (L' := L) (st' := [.ref 63]) (σ' := σ) rfl (by decide) (by decide) (by decide) (by simp only [rf_stp, g0]) ?_
    refine zb_W_step (pc' := 24) (L' := L) (st' := [.ref 69]) (σ' := σ) rfl (by decide) (by decide) (by decide) (by simp only [rf_stp, h63, Nat.beq_refl, cond_true, h12]) ?_
    refine zb_W_step (pc' := 26) (L' := L) (st' := [.int (Int32.ofNat i), .ref 69]) (σ' := σ) rfl (by decide) (by decide) (by decide) (by simp only [rf_stp, g4]) ?_
    refine zb_W_step (pc' := 27) (L' := L) (st' := [.int (f i)]) (σ' := σ) rfl (by decide) (by decide) (by decide) (by
      have e := an_st_H (SA := SA) (L' := L) (σ' := σ) (r2 := []) (a := 0) (b := 0) (c := 0) (x := 0) (nxt := 27) (sw := []) (r0 := 69) (i := Int32.ofNat i) rfl h69 x7.1
      rw [x7.2] at e
      exact e) ?_
    refine zb_W_step (pc' := 28) (L' := L) (st' := [.int k, .int (f i)]) (σ' := σ) rfl (by decide) (by decide) (by decide) (by simp only [rf_stp, g2]) ?_
    by_cases he : f i = k
    · refine zb_W_step (pc' := 49) (L' := L) (st' := []) (σ' := σ) rfl (by decide) (by decide) (by decide) (by simp only [rf_stp, rf_cmp, he, decide_true, cond_true]) ?_
      exact hnext L z g0 g1 g2 g3
    · refine zb_W_step (pc' := 31) (L' := L) (st' := []) (σ' := σ) rfl (by decide) (by decide) (by decide) (by simp only [rf_stp, rf_cmp, he, decide_false, cond_false]) ?_
      refine zb_W_step (pc' := 32) (L' := L) (st' := [.int z]) (σ' := σ) rfl (by decide) (by decide) (by decide) (by simp only [rf_stp, g3]) ?_
      refine zb_W_step (pc' := 33) (L' := L) (st' := [.int (Int32.ofInt 1), .int z]) (σ' := σ) rfl (by decide) (by decide) (by decide) rfl ?_
      refine zb_W_step (pc' := 34) (L' := L) (st' := [.ref 63, .int (Int32.ofInt 1), .int z]) (σ' := σ) rfl (by decide) (by decide) (by decide) (by simp only [rf_stp, g0]) ?_
      refine zb_W_step (pc' := 37) (L' := L) (st' := [.ref 69, .int (Int32.ofInt 1), .int z]) (σ' := σ) rfl (by decide) (by decide) (by decide) (by simp only [rf_stp, h63, Nat.beq_refl, cond_true, h12]) ?_
      refine zb_W_step (pc' := 39) (L' := L) (st' := [.int (Int32.ofNat i), .ref 69, .int (Int32.ofInt 1), .int z]) (σ' := σ) rfl (by decide) (by decide) (by decide) (by simp only [rf_stp, g4]) ?_
      refine zb_W_step (pc' := 40) (L' := L) (st' := [.int (f i), .int (Int32.ofInt 1), .int z]) (σ' := σ) rfl (by decide) (by decide) (by decide) (by
        have e := an_st_H (SA := SA) (L' := L) (σ' := σ) (r2 := [.int (Int32.ofInt 1), .int z]) (a := 0) (b := 0) (c := 0) (x := 0) (nxt := 40) (sw := []) (r0 := 69) (i := Int32.ofNat i) rfl h69 x7.1
        rw [x7.2] at e
        exact e) ?_
      refine zb_W_step (pc' := 41) (L' := L) (σ' := σ) rfl (by decide) (by decide) (by decide) rfl ?_
      refine zb_W_step (pc' := 42) (L' := L) (σ' := σ) rfl (by decide) (by decide) (by decide) rfl ?_
      refine zb_W_step (pc' := 43) (st' := []) (σ' := σ) rfl (by decide) (by decide) (by decide) rfl ?_
      have g4a : rf_get (rf_set L 3 (.int (rf_bin 4 z (rf_bin 6 (Int32.ofInt 1) (f i))))) 4 = some (.int (Int32.ofNat i)) := zb_rget_ne (by decide) g4 (fun q => by cases q)
      refine zb_W_step (pc' := 46) (L' := rf_set (rf_set L 3 (.int (rf_bin 4 z (rf_bin 6 (Int32.ofInt 1) (f i))))) 4 (.int (Int32.ofNat i + Int32.ofInt 1))) (st' := []) (σ' := σ) rfl (by decide) (by decide) (by decide) (by simp only [rf_stp, g4a]) ?_
      refine zb_W_step (pc' := 20) (st' := []) (σ' := σ) rfl (by decide) (by decide) (by decide) rfl ?_
      refine ih (i + 1) _ _ (by omega) (zb_rget_ne (by decide) (zb_rget_ne (by decide) g0 (fun q => by cases q)) (fun q => by cases q)) (zb_rget_ne (by decide) (zb_rget_ne (by decide) g1 (fun q => by cases q)) (fun q => by cases q)) (zb_rget_ne (by decide) (zb_rget_ne (by decide) g2 (fun q => by cases q)) (fun q => by cases q)) (zb_rget_ne (by decide) (zb_rget_set _ _ _) (fun q => by cases q)) ?_
      rw [← zb_ofs i7]
      exact zb_rget_set _ _ _
