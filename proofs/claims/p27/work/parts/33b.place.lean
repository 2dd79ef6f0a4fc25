/-! by hand: a customer's place in the row (153); the row holds every customer -/
/-- what a scalar's cell holds -/
def zb_val (σ : rf_S) (s : Nat) : Int := zb_int (zb_cw zb_locT [] [] σ (1, s))
/-- index i of a row of seven -/
theorem zb_ix7 {i : Nat} (h : i < 7) : rf_ixs (Int32.ofNat i) 7 = true ∧ (Int32.ofNat i).toNatClampNeg = i := by
  have : i = 0 ∨ i = 1 ∨ i = 2 ∨ i = 3 ∨ i = 4 ∨ i = 5 ∨ i = 6 := by omega
  rcases this with rfl | rfl | rfl | rfl | rfl | rfl | rfl <;> decide
theorem zb_ofs {i : Nat} (h : i < 7) : Int32.ofNat i + Int32.ofInt 1 = Int32.ofNat (i + 1) := by
  have : i = 0 ∨ i = 1 ∨ i = 2 ∨ i = 3 ∨ i = 4 ∨ i = 5 ∨ i = 6 := by omega
  rcases this with rfl | rfl | rfl | rfl | rfl | rfl | rfl <;> decide
/-- from the loop's head, the place p that holds k not yet passed -/
theorem zb_plc {SA : rf_A} {C : zb_K} {post : rf_P} {σ : rf_S} {fs : List Value} {f : Nat → Int32} {k : Int32} {p : Nat} (h63 : σ[63]? = some (.inr (10, fs))) (h12 : fs[12]? = some (.ref 69)) (h69 : σ[69]? = some (.inl (0, 7, .inl f))) (hp : p < 7) (hk : f p = k) (hpost : ∀ i, i ≤ p → post (some (.int (Int32.ofNat i))) σ) : ∀ (m i : Nat) (L : rf_L), i + m = p → rf_get L 0 = some (.ref 63) → rf_get L 1 = some (.int k) → rf_get L 2 = some (.int (Int32.ofNat i)) → zb_W SA rf_ms C rf_m153 2 L [] σ 0 0 post := by
  intro m
  induction m with
  | zero =>
    intro i L hi g0 g1 g2
    have ep : i = p := by omega
    subst ep
    have x7 := zb_ix7 hp
    refine zb_W_step (pc' := 3) (L' := L) (st' := [.ref 63]) (σ' := σ) rfl (by decide) (by decide) (by decide) (by simp only [rf_stp, g0]) ?_
    refine zb_W_step (pc' := 6) (L' := L) (st' := [.ref 69]) (σ' := σ) rfl (by decide) (by decide) (by decide) (by simp only [rf_stp, h63, Nat.beq_refl, cond_true, h12]) ?_
    refine zb_W_step (pc' := 7) (L' := L) (st' := [.int (Int32.ofNat i), .ref 69]) (σ' := σ) rfl (by decide) (by decide) (by decide) (by simp only [rf_stp, g2]) ?_
    refine zb_W_step (pc' := 8) (L' := L) (st' := [.int (f i)]) (σ' := σ) rfl (by decide) (by decide) (by decide) (by
      have e := an_st_H (SA := SA) (L' := L) (σ' := σ) (r2 := []) (a := 0) (b := 0) (c := 0) (x := 0) (nxt := 8) (sw := []) (r0 := 69) (i := Int32.ofNat i) rfl h69 x7.1
      rw [x7.2] at e
      exact e) ?_
    refine zb_W_step (pc' := 9) (L' := L) (st' := [.int k, .int (f i)]) (σ' := σ) rfl (by decide) (by decide) (by decide) (by simp only [rf_stp, g1]) ?_
    refine zb_W_step (pc' := 18) (L' := L) (st' := []) (σ' := σ) rfl (by decide) (by decide) (by decide) (by simp only [rf_stp, rf_cmp, hk, decide_true, cond_true]) ?_
    refine zb_W_step (pc' := 19) (L' := L) (st' := [.int (Int32.ofNat i)]) (σ' := σ) rfl (by decide) (by decide) (by decide) (by simp only [rf_stp, g2]) ?_
    exact zb_W_ret rfl (by decide) (by decide) (by decide) (Nat.zero_le _) (Nat.zero_le _) ⟨rfl, hpost i (Nat.le_refl _)⟩
  | succ m ih =>
    intro i L hi g0 g1 g2
    have i7 : i < 7 := by omega
    have x7 := zb_ix7 i7
    refine zb_W_step (pc' := 3) (L' := L) (st' := [.ref 63]) (σ' := σ) rfl (by decide) (by decide) (by decide) (by simp only [rf_stp, g0]) ?_
    refine zb_W_step (pc' := 6) (L' := L) (st' := [.ref 69]) (σ' := σ) rfl (by decide) (by decide) (by decide) (by simp only [rf_stp, h63, Nat.beq_refl, cond_true, h12]) ?_
    refine zb_W_step (pc' := 7) (L' := L) (st' := [.int (Int32.ofNat i), .ref 69]) (σ' := σ) rfl (by decide) (by decide) (by decide) (by simp only [rf_stp, g2]) ?_
    refine zb_W_step (pc' := 8) (L' := L) (st' := [.int (f i)]) (σ' := σ) rfl (by decide) (by decide) (by decide) (by
      have e := an_st_H (SA := SA) (L' := L) (σ' := σ) (r2 := []) (a := 0) (b := 0) (c := 0) (x := 0) (nxt := 8) (sw := []) (r0 := 69) (i := Int32.ofNat i) rfl h69 x7.1
      rw [x7.2] at e
      exact e) ?_
    refine zb_W_step (pc' := 9) (L' := L) (st' := [.int k, .int (f i)]) (σ' := σ) rfl (by decide) (by decide) (by decide) (by simp only [rf_stp, g1]) ?_
    by_cases he : f i = k
    · refine zb_W_step (pc' := 18) (L' := L) (st' := []) (σ' := σ) rfl (by decide) (by decide) (by decide) (by simp only [rf_stp, rf_cmp, he, decide_true, cond_true]) ?_
      refine zb_W_step (pc' := 19) (L' := L) (st' := [.int (Int32.ofNat i)]) (σ' := σ) rfl (by decide) (by decide) (by decide) (by simp only [rf_stp, g2]) ?_
      exact zb_W_ret rfl (by decide) (by decide) (by decide) (Nat.zero_le _) (Nat.zero_le _) ⟨rfl, hpost i (by omega)⟩
    · refine zb_W_step (pc' := 12) (L' := L) (st' := []) (σ' := σ) rfl (by decide) (by decide) (by decide) (by simp only [rf_stp, rf_cmp, he, decide_false, cond_false]) ?_
      refine zb_W_step (pc' := 15) (L' := rf_set L 2 (.int (Int32.ofNat i + Int32.ofInt 1))) (st' := []) (σ' := σ) rfl (by decide) (by decide) (by decide) (by simp only [rf_stp, g2]) ?_
      refine zb_W_step (pc' := 2) (L' := rf_set L 2 (.int (Int32.ofNat i + Int32.ofInt 1))) (st' := []) (σ' := σ) rfl (by decide) (by decide) (by decide) rfl ?_
      refine ih (i + 1) _ (by omega) (zb_rget_ne (by decide) g0 (fun q => by cases q)) (zb_rget_ne (by decide) g1 (fun q => by cases q)) ?_
      rw [zb_ofs i7]
      exact zb_rget_set _ _ _
