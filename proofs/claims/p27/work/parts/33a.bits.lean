/-! a test in pieces: each segment is a theorem of its own -/
theorem zb_every_to {α : Type} {f : α → Bool} : ∀ {l : List α}, (∀ a, a ∈ l → f a = true) → zb_every f l = true
  | [], _ => rfl
  | b :: l, h => by
    show (bif f b then zb_every f l else false) = true
    rw [h b List.mem_cons_self, cond_true]
    exact zb_every_to (fun a ha => h a (List.mem_cons_of_mem _ ha))
theorem zb_chk_of {T : zb_T} {sl : Bool × List Nat} {ms : List rf_M} {SP : Nat → List zb_Sp} {X : zb_St} {F T0 ns : Nat} {mi : rf_M} {p : zb_Sp} (h1 : zb_dn ns p = true) (h2 : zb_dq T0 p = true) (h3 : zb_seg T sl ms (zb_S ms SP X p.1.1.1.length p.2.2.2.2 p.2.2.2.1 T0) F T0 mi p 0 p.1 none = true) (h4 : ∀ q, q ∈ p.2.2.1 → zb_seg T sl ms (zb_S ms SP X p.1.1.1.length p.2.2.2.2 p.2.2.2.1 T0) F T0 mi p q.1 q.2.1 (some q.2.2) = true) : zb_chk T sl ms SP X F T0 ns mi p = true := by
  have h5 : zb_chkc T sl ms SP X F T0 mi p = true := zb_every_to h4
  unfold zb_chk
  rw [h1, h2, h3, h5]
  rfl
/-! by hand: how many bits a set has (139) -/
theorem zb_clear {x : Int32} (h : ¬ x = 0) : (x &&& (x - 1)).toBitVec.toNat < x.toBitVec.toNat := by
  have e1 : (x &&& (x - 1)).toBitVec = x.toBitVec &&& (x.toBitVec - 1#32) := rfl
  have hx : x.toBitVec.toNat ≠ 0 := fun q => h (Int32.toBitVec_inj.mp (BitVec.eq_of_toNat_eq (by rw [q]; rfl)))
  have e2 : (x.toBitVec - 1#32).toNat = x.toBitVec.toNat - 1 := by
    rw [BitVec.toNat_sub]
    have := x.toBitVec.isLt
    have e3 : (1#32).toNat = 1 := rfl
    rw [e3]
    omega
  rw [e1, BitVec.toNat_and]
  have := Nat.and_le_right (n := x.toBitVec.toNat) (m := (x.toBitVec - 1#32).toNat)
  omega
theorem zb_bits {SA : rf_A} {C : zb_K} {post : rf_P} {σ : rf_S} (hpost : ∀ r : Int32, post (some (.int r)) σ) : ∀ (m : Nat) (n x : Int32) (L : rf_L), x.toBitVec.toNat < m → rf_get L 1 = some (.int n) → rf_get L 2 = some (.int x) → zb_W SA rf_ms C rf_m139 4 L [] σ 0 0 post := by
  intro m
  induction m with
  | zero => intro n x L h; omega
  | succ m ih =>
    intro n x L hx h1 h2
    refine zb_W_step (pc' := 5) (L' := L) (st' := [.int x]) (σ' := σ) rfl (by decide) (by decide) (by decide) (by simp only [rf_stp, h2]) ?_
    by_cases h0 : x = 0
    · refine zb_W_step (pc' := 20) (L' := L) (st' := []) (σ' := σ) rfl (by decide) (by decide) (by decide) (by simp only [rf_stp, rf_cmp, h0, decide_true, cond_true]) ?_
      refine zb_W_step (pc' := 21) (L' := L) (st' := [.int n]) (σ' := σ) rfl (by decide) (by decide) (by decide) (by simp only [rf_stp, h1]) ?_
      exact zb_W_ret rfl (by decide) (by decide) (by decide) (Nat.zero_le _) (Nat.zero_le _) ⟨rfl, hpost n⟩
    · refine zb_W_step (pc' := 8) (L' := L) (st' := []) (σ' := σ) rfl (by decide) (by decide) (by decide) (by simp only [rf_stp, rf_cmp, h0, decide_false, cond_false]) ?_
      have h2a : rf_get (rf_set L 1 (.int (n + Int32.ofInt 1))) 2 = some (.int x) := zb_rget_ne (by decide) h2 (fun q => by cases q)
      refine zb_W_step (pc' := 11) (L' := rf_set L 1 (.int (n + Int32.ofInt 1))) (st' := []) (σ' := σ) rfl (by decide) (by decide) (by decide) (by simp only [rf_stp, h1]) ?_
      refine zb_W_step (pc' := 12) (L' := rf_set L 1 (.int (n + Int32.ofInt 1))) (st' := [.int x]) (σ' := σ) rfl (by decide) (by decide) (by decide) (by simp only [rf_stp, h2a]) ?_
      refine zb_W_step (pc' := 13) (L' := rf_set L 1 (.int (n + Int32.ofInt 1))) (st' := [.int x, .int x]) (σ' := σ) rfl (by decide) (by decide) (by decide) (by simp only [rf_stp, h2a]) ?_
      refine zb_W_step (pc' := 14) (L' := rf_set L 1 (.int (n + Int32.ofInt 1))) (st' := [.int (Int32.ofInt 1), .int x, .int x]) (σ' := σ) rfl (by decide) (by decide) (by decide) rfl ?_
      refine zb_W_step (pc' := 15) (L' := rf_set L 1 (.int (n + Int32.ofInt 1))) (st' := [.int (x - Int32.ofInt 1), .int x]) (σ' := σ) rfl (by decide) (by decide) (by decide) rfl ?_
      refine zb_W_step (pc' := 16) (L' := rf_set L 1 (.int (n + Int32.ofInt 1))) (st' := [.int (x &&& (x - Int32.ofInt 1))]) (σ' := σ) rfl (by decide) (by decide) (by decide) rfl ?_
      refine zb_W_step (pc' := 17) (L' := rf_set (rf_set L 1 (.int (n + Int32.ofInt 1))) 2 (.int (x &&& (x - Int32.ofInt 1)))) (st' := []) (σ' := σ) rfl (by decide) (by decide) (by decide) rfl ?_
      refine zb_W_step (pc' := 4) (L' := rf_set (rf_set L 1 (.int (n + Int32.ofInt 1))) 2 (.int (x &&& (x - Int32.ofInt 1)))) (st' := []) (σ' := σ) rfl (by decide) (by decide) (by decide) rfl ?_
      have hlt := zb_clear h0
      have e1 : (Int32.ofInt 1) = 1 := rfl
      rw [e1] at *
      exact ih (n + 1) (x &&& (x - 1)) _ (by omega) (zb_rget_ne (by decide) (zb_rget_set _ _ _) (fun q => by cases q)) (zb_rget_set _ _ _)
set_option maxRecDepth 100000 in
theorem zb_h139 {LL : Nat} {xs : Nat → Int32} (d : Nat) : zb_Sum zb_tT 90 (rf_SA LL xs) rf_ms zb_J0 139 zb_p139_0 d := by
  intro ρP As' σ post hd ham hlg hJ hpost
  have hdep : (zb_ev ρP zb_p139_0.2.2.2.1).toNat = 4 + 1 := by
    show (0 * ρP 0 + 5 : Int).toNat = 5
    rw [Int.zero_mul]
    rfl
  rw [hdep]
  obtain ⟨mi, hmi, hml⟩ := hlg
  have hm : rf_ms[139]? = some rf_m139 := rfl
  rw [hm] at hmi
  cases hmi
  obtain ⟨a1, a2, a3, a4⟩ := ham
  obtain ⟨w, w1, w2⟩ := a2 0 (.inr (0, .ofNat zb_ns, .ofNat 0)) rfl
  obtain ⟨-, x, rfl, -⟩ := w2
  have hp : ∀ r : Int32, post (some (.int r)) σ := fun r => by
    refine hpost zb_b139_0_0 List.mem_cons_self _ (zb_ru ρP _ r.toInt) (some (.int r)) σ (Nat.le_succ _) (zb_ru_ag _) ⟨?_, ⟨⟨?_, r, rfl, ?_⟩, trivial⟩, zb_ss_ext (Nat.le_succ _) (zb_ru_ag _) a4⟩ (fun _ _ => rfl)
    · exact zb_en_app (b := (.negSucc 2147483647, .ofNat 2147483647)) (fs := []) a1 (zb_32 r).1 (zb_32 r).2 (fun f hf => absurd hf List.not_mem_nil)
    · decide +kernel
    · show r.toInt = zb_ru ρP zb_p139_0.1.1.1.length r.toInt zb_p139_0.1.1.1.length + 0
      rw [zb_ru_at]
      omega
  have hW : zb_W (rf_SA LL xs) rf_ms (rf_run (rf_SA LL xs) rf_ms 4) rf_m139 0 (lv_args 0 As') [] σ 0 0 post := by
    refine zb_W_step (pc' := 1) (L' := lv_args 0 As') (st' := [.int (Int32.ofInt 0)]) (σ' := σ) rfl (by decide) (by decide) (by decide) rfl ?_
    have h0a : rf_get (rf_set (lv_args 0 As') 1 (.int (Int32.ofInt 0))) 0 = some (.int x) := zb_rget_ne (by decide) w1 (fun q => by cases q)
    refine zb_W_step (pc' := 2) (L' := rf_set (lv_args 0 As') 1 (.int (Int32.ofInt 0))) (st' := []) (σ' := σ) rfl (by decide) (by decide) (by decide) rfl ?_
    refine zb_W_step (pc' := 3) (L' := rf_set (lv_args 0 As') 1 (.int (Int32.ofInt 0))) (st' := [.int x]) (σ' := σ) rfl (by decide) (by decide) (by decide) (by simp only [rf_stp, h0a]) ?_
    refine zb_W_step (pc' := 4) (L' := rf_set (rf_set (lv_args 0 As') 1 (.int (Int32.ofInt 0))) 2 (.int x)) (st' := []) (σ' := σ) rfl (by decide) (by decide) (by decide) rfl ?_
    exact zb_bits hp (x.toBitVec.toNat + 1) (Int32.ofInt 0) x _ (Nat.lt_succ_self _) (zb_rget_ne (by decide) (zb_rget_set _ _ _) (fun q => by cases q)) (zb_rget_set _ _ _)
  obtain ⟨n, hn⟩ := hW
  exact ⟨rf_m139, hm, hml, n, hn⟩
