/-! by hand: holdRow (57) lays nothing but 0; shift of the reference (225) copies through a row of its own -/
theorem zc_of {i : Nat} (h : i < 2147483648) : (Int32.ofNat i).toInt = (i : Int) := Int32.toInt_ofNat_of_lt (by omega)
theorem zc_inc {i : Nat} (h : i + 1 < 2147483648) : Int32.ofNat i + Int32.ofInt 1 = Int32.ofNat (i + 1) := by
  apply Int32.toInt_inj.mp
  have e1 : (Int32.ofInt 1).toInt = 1 := by decide
  have e0 := zc_of (i := i) (by omega)
  rw [zb_add (by rw [e1, e0]; omega) (by rw [e1, e0]; omega), e1, e0, zc_of h]
  omega
/-- 60 times d, and i -/
theorem zc_ix {x y : Int32} {d : Nat} (hx : x.toInt = (d : Int)) (hd : d < 6) (h0 : 0 ≤ y.toInt) (h1 : y.toInt < 1000) : (x * 60 + y).toInt = 60 * (d : Int) + y.toInt := by
  have e60 : (60 : Int32).toInt = 60 := by decide
  have em : (x * 60).toInt = x.toInt * 60 := by
    rw [zb_mul (by rw [hx, e60]; omega) (by rw [hx, e60]; omega), e60]
  rw [zb_add (by rw [em, hx]; omega) (by rw [em, hx]; omega), em, hx]
  omega
theorem zc_ix' {x y : Int32} {d : Nat} (hx : x.toInt = (d : Int)) (hd : d < 6) (h0 : 0 ≤ y.toInt) (h1 : y.toInt < 1000) : (60 * x + y).toInt = 60 * (d : Int) + y.toInt := by
  rw [Int32.mul_comm]
  exact zc_ix hx hd h0 h1
theorem zc_ixs {i : Int32} {n : Nat} (h0 : 0 ≤ i.toInt) (h1 : i.toInt < (n : Int)) : rf_ixs i n = true ∧ (i.toNatClampNeg : Int) = i.toInt := by
  have e : (i.toNatClampNeg : Int) = i.toInt := by
    show ((i.toInt.toNat : Nat) : Int) = i.toInt
    omega
  exact ⟨an_ixs (fun q => by
    have q := Int32.lt_iff_toInt_lt.mp q
    have e0 : (0 : Int32).toInt = 0 := rfl
    omega) (by omega), e⟩
theorem zc_fref {T : zb_T} {len N : Nat} {ρ : Nat → Int} {D : zb_D} {σ : rf_S} {r ci : Nat} {ds : List zb_G} (hσ : zb_ss T len D N ρ σ) (ht : T r = some (.inr (ci, ds))) : ∃ fs, σ[r]? = some (.inr (ci, fs)) ∧ ∀ (c q : Nat), ds[c]? = some ((1, 0, Sum.inl (Value.ref q)) : zb_G) → fs[c]? = some (Value.ref q) := by
  obtain ⟨fs, f1, f2⟩ := zb_ss_obj hσ ht
  refine ⟨fs, f1, fun c q hc => ?_⟩
  obtain ⟨w, w1, w2⟩ := f2.2 c _ hc
  rw [w1]
  have w2 : w = .ref q := w2
  rw [w2]
section
variable {SA : rf_A} {C : zb_K} {post : rf_P}
theorem zc_hrl {d n : Nat} {xd xn : Int32} (hd : xd.toInt = (d : Int)) (hn : xn.toInt = (n : Int)) (hd6 : d < 6) (hn60 : n ≤ 60) : ∀ (m i : Nat) (L : rf_L) (σ : rf_S) (f : Nat → Int64) (fs : List Value), i + m = n → rf_get L 0 = some (.ref 57) → rf_get L 1 = some (.int xd) → rf_get L 3 = some (.int xn) → rf_get L 4 = some (.int (Int32.ofNat i)) → σ[57]? = some (.inr (6, fs)) → fs[3]? = some (.ref 61) → σ[61]? = some (.inl (1, 360, .inr (.inl f))) →
    (∀ (σ' : rf_S) (f' : Nat → Int64), σ'.length = σ.length → (∀ q, ¬ q = 61 → σ'[q]? = σ[q]?) → σ'[61]? = some (.inl (1, 360, .inr (.inl f'))) → (∀ x, x < 360 → (f' x).toInt = if 60 * d + i ≤ x ∧ x < 60 * d + n then 0 else (f x).toInt) → post none σ') → zb_W SA rf_ms C rf_m57 17 L [] σ 0 0 post := by
  intro m
  induction m with
  | zero =>
    intro i L σ f fs hi g0 g1 g3 g4 h57 h3 h61 hpost
    have hle : xn ≤ Int32.ofNat i := Int32.le_iff_toInt_le.mpr (by rw [hn, zc_of (by omega)]; omega)
    refine zb_W_step (pc' := 19) (L' := L) (st' := [.int (Int32.ofNat i)]) (σ' := σ) rfl (by decide) (by decide) (by decide) (by simp only [rf_stp, g4]) ?_
    refine zb_W_step (pc' := 20) (L' := L) (st' := [.int xn, .int (Int32.ofNat i)]) (σ' := σ) rfl (by decide) (by decide) (by decide) (by simp only [rf_stp, g3]) ?_
    refine zb_W_step (pc' := 42) (L' := L) (st' := []) (σ' := σ) rfl (by decide) (by decide) (by decide) (by simp only [rf_stp, rf_cmp, hle, decide_true, cond_true]) ?_
    exact zb_W_ret rfl (by decide) (by decide) (by decide) (Nat.zero_le _) (Nat.zero_le _) (hpost σ f rfl (fun _ _ => rfl) h61 (fun x hx => by rw [if_neg (by omega)]))
  | succ m ih =>
    intro i L σ f fs hi g0 g1 g3 g4 h57 h3 h61 hpost
    have ei := zc_of (i := i) (by omega)
    have hle : ¬ xn ≤ Int32.ofNat i := fun q => by
      have q := Int32.le_iff_toInt_le.mp q
      omega
    have eix := zc_ix (y := Int32.ofNat i) hd hd6 (by omega) (by omega)
    obtain ⟨x1, x2⟩ := zc_ixs (i := xd * 60 + Int32.ofNat i) (n := 360) (by omega) (by omega)
    have e60 : Int32.ofInt 60 = 60 := by decide
    have e1 : (Int64.ofInt 0) = 0 := by decide
    refine zb_W_step (pc' := 19) (L' := L) (st' := [.int (Int32.ofNat i)]) (σ' := σ) rfl (by decide) (by decide) (by decide) (by simp only [rf_stp, g4]) ?_
    refine zb_W_step (pc' := 20) (L' := L) (st' := [.int xn, .int (Int32.ofNat i)]) (σ' := σ) rfl (by decide) (by decide) (by decide) (by simp only [rf_stp, g3]) ?_
    refine zb_W_step (pc' := 23) (L' := L) (st' := []) (σ' := σ) rfl (by decide) (by decide) (by decide) (by simp only [rf_stp, rf_cmp, hle, decide_false, cond_false]) ?_
    refine zb_W_step (pc' := 24) (L' := L) (st' := [.ref 57]) (σ' := σ) rfl (by decide) (by decide) (by decide) (by simp only [rf_stp, g0]) ?_
    refine zb_W_step (pc' := 27) (L' := L) (st' := [.ref 61]) (σ' := σ) rfl (by decide) (by decide) (by decide) (by simp only [rf_stp, h57, Nat.beq_refl, cond_true, h3]) ?_
    refine zb_W_step (pc' := 28) (L' := L) (st' := [.int xd, .ref 61]) (σ' := σ) rfl (by decide) (by decide) (by decide) (by simp only [rf_stp, g1]) ?_
    refine zb_W_step (pc' := 30) (L' := L) (st' := [.int (Int32.ofInt 60), .int xd, .ref 61]) (σ' := σ) rfl (by decide) (by decide) (by decide) rfl ?_
    refine zb_W_step (pc' := 31) (L' := L) (st' := [.int (xd * 60), .ref 61]) (σ' := σ) rfl (by decide) (by decide) (by decide) (by rw [e60]; rfl) ?_
    refine zb_W_step (pc' := 33) (L' := L) (st' := [.int (Int32.ofNat i), .int (xd * 60), .ref 61]) (σ' := σ) rfl (by decide) (by decide) (by decide) (by simp only [rf_stp, g4]) ?_
    refine zb_W_step (pc' := 34) (L' := L) (st' := [.int (xd * 60 + Int32.ofNat i), .ref 61]) (σ' := σ) rfl (by decide) (by decide) (by decide) rfl ?_
    refine zb_W_step (pc' := 35) (L' := L) (st' := [.long (Int64.ofInt 0), .int (xd * 60 + Int32.ofNat i), .ref 61]) (σ' := σ) rfl (by decide) (by decide) (by decide) rfl ?_
    refine zb_W_step (pc' := 36) (L' := L) (st' := []) (σ' := σ.set 61 (.inl (1, 360, .inr (.inl (vp_updL f (xd * 60 + Int32.ofNat i).toNatClampNeg (Int64.ofInt 0)))))) rfl (by decide) (by decide) (by decide) (by simp only [rf_stp, h61, x1, cond_true]) ?_
    refine zb_W_step (pc' := 39) (L' := rf_set L 4 (.int (Int32.ofNat i + Int32.ofInt 1))) (st' := []) (σ' := σ.set 61 (.inl (1, 360, .inr (.inl (vp_updL f (xd * 60 + Int32.ofNat i).toNatClampNeg (Int64.ofInt 0)))))) rfl (by decide) (by decide) (by decide) (by simp only [rf_stp, g4]) ?_
    refine zb_W_step (pc' := 17) (L' := rf_set L 4 (.int (Int32.ofNat i + Int32.ofInt 1))) (st' := []) (σ' := σ.set 61 (.inl (1, 360, .inr (.inl (vp_updL f (xd * 60 + Int32.ofNat i).toNatClampNeg (Int64.ofInt 0)))))) rfl (by decide) (by decide) (by decide) rfl ?_
    have hlt : 61 < σ.length := (List.getElem?_eq_some_iff.mp h61).1
    rw [zc_inc (by omega)]
    refine ih (i + 1) _ _ (vp_updL f (xd * 60 + Int32.ofNat i).toNatClampNeg (Int64.ofInt 0)) fs (by omega) (zb_rget_ne (by decide) g0 (fun q => by cases q)) (zb_rget_ne (by decide) g1 (fun q => by cases q)) (zb_rget_ne (by decide) g3 (fun q => by cases q)) (zb_rget_set _ _ _) (by rw [List.getElem?_set, if_neg (by decide)]; exact h57) h3 (by rw [List.getElem?_set, if_pos rfl, if_pos hlt]) (fun σ' f' a1 a2 a3 a4 => ?_)
    refine hpost σ' f' (by rw [a1, List.length_set]) (fun q hq => by rw [a2 q hq, List.getElem?_set, if_neg (fun e => hq e.symm)]) a3 (fun x hx => ?_)
    rw [a4 x hx]
    unfold vp_updL
    by_cases h1 : 60 * d + (i + 1) ≤ x ∧ x < 60 * d + n
    · rw [if_pos h1, if_pos (by omega)]
    · rw [if_neg h1]
      by_cases h2 : x = (xd * 60 + Int32.ofNat i).toNatClampNeg
      · rw [if_pos h2, if_pos (by omega)]
        decide
      · rw [if_neg h2, if_neg (by omega)]
/-- Model.shift's first loop -/
theorem zc_sl1 {d a n : Nat} {xd xa xn : Int32} {f : Nat → Int64} {fs : List Value} (hd : xd.toInt = (d : Int)) (ha : xa.toInt = (a : Int)) (hn : xn.toInt = (n : Int)) (hd6 : d < 6) (han : a + n ≤ 60) (h60 : fs[60]? = some (.ref 88)) (h61 : fs[61]? = some (.ref 89)) : ∀ (m k : Nat) (L : rf_L) (σ : rf_S) (c : Nat → Int64), k + m = n → rf_get L 0 = some (.ref 63) → rf_get L 1 = some (.int xd) → rf_get L 2 = some (.int xa) → rf_get L 5 = some (.int xn) → rf_get L 6 = some (.int (Int32.ofNat k)) → σ[63]? = some (.inr (10, fs)) → σ[88]? = some (.inl (1, 360, .inr (.inl f))) → σ[89]? = some (.inl (1, 60, .inr (.inl c))) → (∀ y, y < k → c y = f (60 * d + a + y)) →
    (∀ (L' : rf_L) (σ' : rf_S) (c' : Nat → Int64), (∀ i v, i < 6 → rf_get L i = some v → v.category = 1 → rf_get L' i = some v) → σ'.length = σ.length → (∀ q, ¬ q = 89 → σ'[q]? = σ[q]?) → σ'[89]? = some (.inl (1, 60, .inr (.inl c'))) → (∀ y, y < n → c' y = f (60 * d + a + y)) → zb_W SA rf_ms C rf_m225 147 L' [] σ' 0 0 post) → zb_W SA rf_ms C rf_m225 113 L [] σ 0 0 post := by
  intro m
  induction m with
  | zero =>
    intro k L σ c hk g0 g1 g2 g5 g6 h63 h88 h89 hc hpost
    have hle : xn ≤ Int32.ofNat k := Int32.le_iff_toInt_le.mpr (by rw [hn, zc_of (by omega)]; omega)
    refine zb_W_step (pc' := 115) (L' := L) (st' := [.int (Int32.ofNat k)]) (σ' := σ) rfl (by decide) (by decide) (by decide) (by simp only [rf_stp, g6]) ?_
    refine zb_W_step (pc' := 117) (L' := L) (st' := [.int xn, .int (Int32.ofNat k)]) (σ' := σ) rfl (by decide) (by decide) (by decide) (by simp only [rf_stp, g5]) ?_
    refine zb_W_step (pc' := 147) (L' := L) (st' := []) (σ' := σ) rfl (by decide) (by decide) (by decide) (by simp only [rf_stp, rf_cmp, hle, decide_true, cond_true]) ?_
    exact hpost L σ c (fun i v hi hv _ => hv) rfl (fun _ _ => rfl) h89 (fun y hy => hc y (by omega))
  | succ m ih =>
    intro k L σ c hk g0 g1 g2 g5 g6 h63 h88 h89 hc hpost
    have ek := zc_of (i := k) (by omega)
    have hle : ¬ xn ≤ Int32.ofNat k := fun q => by
      have q := Int32.le_iff_toInt_le.mp q
      omega
    have ei := zc_ix' (y := xa) hd hd6 (by omega) (by omega)
    have e2 : (60 * xd + xa + Int32.ofNat k).toInt = 60 * (d : Int) + a + k := by rw [zb_add (by omega) (by omega)]; omega
    obtain ⟨x1, x2⟩ := zc_ixs (i := 60 * xd + xa + Int32.ofNat k) (n := 360) (by omega) (by omega)
    obtain ⟨y1, y2⟩ := zc_ixs (i := Int32.ofNat k) (n := 60) (by omega) (by omega)
    have e60 : Int32.ofInt 60 = 60 := by decide
    refine zb_W_step (pc' := 115) (L' := L) (st' := [.int (Int32.ofNat k)]) (σ' := σ) rfl (by decide) (by decide) (by decide) (by simp only [rf_stp, g6]) ?_
    refine zb_W_step (pc' := 117) (L' := L) (st' := [.int xn, .int (Int32.ofNat k)]) (σ' := σ) rfl (by decide) (by decide) (by decide) (by simp only [rf_stp, g5]) ?_
    refine zb_W_step (pc' := 120) (L' := L) (st' := []) (σ' := σ) rfl (by decide) (by decide) (by decide) (by simp only [rf_stp, rf_cmp, hle, decide_false, cond_false]) ?_
    refine zb_W_step (pc' := 121) (L' := L) (st' := [.ref 63]) (σ' := σ) rfl (by decide) (by decide) (by decide) (by simp only [rf_stp, g0]) ?_
    refine zb_W_step (pc' := 124) (L' := L) (st' := [.ref 89]) (σ' := σ) rfl (by decide) (by decide) (by decide) (by simp only [rf_stp, h63, Nat.beq_refl, cond_true, h61]) ?_
    refine zb_W_step (pc' := 126) (L' := L) (st' := [.int (Int32.ofNat k), .ref 89]) (σ' := σ) rfl (by decide) (by decide) (by decide) (by simp only [rf_stp, g6]) ?_
    refine zb_W_step (pc' := 127) (L' := L) (st' := [.ref 63, .int (Int32.ofNat k), .ref 89]) (σ' := σ) rfl (by decide) (by decide) (by decide) (by simp only [rf_stp, g0]) ?_
    refine zb_W_step (pc' := 130) (L' := L) (st' := [.ref 88, .int (Int32.ofNat k), .ref 89]) (σ' := σ) rfl (by decide) (by decide) (by decide) (by simp only [rf_stp, h63, Nat.beq_refl, cond_true, h60]) ?_
    refine zb_W_step (pc' := 132) (L' := L) (st' := [.int (Int32.ofInt 60), .ref 88, .int (Int32.ofNat k), .ref 89]) (σ' := σ) rfl (by decide) (by decide) (by decide) rfl ?_
    refine zb_W_step (pc' := 133) (L' := L) (st' := [.int xd, .int (Int32.ofInt 60), .ref 88, .int (Int32.ofNat k), .ref 89]) (σ' := σ) rfl (by decide) (by decide) (by decide) (by simp only [rf_stp, g1]) ?_
    refine zb_W_step (pc' := 134) (L' := L) (st' := [.int (60 * xd), .ref 88, .int (Int32.ofNat k), .ref 89]) (σ' := σ) rfl (by decide) (by decide) (by decide) (by rw [e60]; rfl) ?_
    refine zb_W_step (pc' := 135) (L' := L) (st' := [.int xa, .int (60 * xd), .ref 88, .int (Int32.ofNat k), .ref 89]) (σ' := σ) rfl (by decide) (by decide) (by decide) (by simp only [rf_stp, g2]) ?_
    refine zb_W_step (pc' := 136) (L' := L) (st' := [.int (60 * xd + xa), .ref 88, .int (Int32.ofNat k), .ref 89]) (σ' := σ) rfl (by decide) (by decide) (by decide) rfl ?_
    refine zb_W_step (pc' := 138) (L' := L) (st' := [.int (Int32.ofNat k), .int (60 * xd + xa), .ref 88, .int (Int32.ofNat k), .ref 89]) (σ' := σ) rfl (by decide) (by decide) (by decide) (by simp only [rf_stp, g6]) ?_
    refine zb_W_step (pc' := 139) (L' := L) (st' := [.int (60 * xd + xa + Int32.ofNat k), .ref 88, .int (Int32.ofNat k), .ref 89]) (σ' := σ) rfl (by decide) (by decide) (by decide) rfl ?_
    refine zb_W_step (pc' := 140) (L' := L) (st' := [.long (f (60 * xd + xa + Int32.ofNat k).toNatClampNeg), .int (Int32.ofNat k), .ref 89]) (σ' := σ) rfl (by decide) (by decide) (by decide) (by simp only [rf_stp, h88, x1, cond_true]) ?_
    refine zb_W_step (pc' := 141) (L' := L) (st' := []) (σ' := σ.set 89 (.inl (1, 60, .inr (.inl (vp_updL c (Int32.ofNat k).toNatClampNeg (f (60 * xd + xa + Int32.ofNat k).toNatClampNeg)))))) rfl (by decide) (by decide) (by decide) (by simp only [rf_stp, h89, y1, cond_true]) ?_
    refine zb_W_step (pc' := 144) (L' := rf_set L 6 (.int (Int32.ofNat k + Int32.ofInt 1))) (st' := []) (σ' := σ.set 89 (.inl (1, 60, .inr (.inl (vp_updL c (Int32.ofNat k).toNatClampNeg (f (60 * xd + xa + Int32.ofNat k).toNatClampNeg)))))) rfl (by decide) (by decide) (by decide) (by simp only [rf_stp, g6]) ?_
    refine zb_W_step (pc' := 113) (L' := rf_set L 6 (.int (Int32.ofNat k + Int32.ofInt 1))) (st' := []) (σ' := σ.set 89 (.inl (1, 60, .inr (.inl (vp_updL c (Int32.ofNat k).toNatClampNeg (f (60 * xd + xa + Int32.ofNat k).toNatClampNeg)))))) rfl (by decide) (by decide) (by decide) rfl ?_
    have hlt : 89 < σ.length := (List.getElem?_eq_some_iff.mp h89).1
    rw [zc_inc (by omega)]
    refine ih (k + 1) _ _ (vp_updL c (Int32.ofNat k).toNatClampNeg (f (60 * xd + xa + Int32.ofNat k).toNatClampNeg)) (by omega) (zb_rget_ne (by decide) g0 (fun q => by cases q)) (zb_rget_ne (by decide) g1 (fun q => by cases q)) (zb_rget_ne (by decide) g2 (fun q => by cases q)) (zb_rget_ne (by decide) g5 (fun q => by cases q)) (zb_rget_set _ _ _) (by rw [List.getElem?_set, if_neg (by decide)]; exact h63) (by rw [List.getElem?_set, if_neg (by decide)]; exact h88) (by rw [List.getElem?_set, if_pos rfl, if_pos hlt]) (fun y hy => ?_) (fun L' σ' c' a0 a1 a2 a3 a4 => ?_)
    · unfold vp_updL
      by_cases h2 : y = (Int32.ofNat k).toNatClampNeg
      · rw [if_pos h2]
        congr 1
        omega
      · rw [if_neg h2]
        exact hc y (by omega)
    · exact hpost L' σ' c' (fun i v hi hv hv1 => a0 i v hi (zb_rget_ne (by omega) hv (fun q => by rw [q] at hv1; cases hv1)) hv1) (by rw [a1, List.length_set]) (fun q hq => by rw [a2 q hq, List.getElem?_set, if_neg (fun e => hq e.symm)]) a3 a4
/-- its second -/
theorem zc_sl2 {e b n : Nat} {xe xb xn : Int32} {c : Nat → Int64} {fs : List Value} (he : xe.toInt = (e : Int)) (hb : xb.toInt = (b : Int)) (hn : xn.toInt = (n : Int)) (he6 : e < 6) (hbn : b + n ≤ 60) (h60 : fs[60]? = some (.ref 88)) (h61 : fs[61]? = some (.ref 89)) : ∀ (m k : Nat) (L : rf_L) (σ : rf_S) (f : Nat → Int64), k + m = n → rf_get L 0 = some (.ref 63) → rf_get L 3 = some (.int xe) → rf_get L 4 = some (.int xb) → rf_get L 5 = some (.int xn) → rf_get L 6 = some (.int (Int32.ofNat k)) → σ[63]? = some (.inr (10, fs)) → σ[88]? = some (.inl (1, 360, .inr (.inl f))) → σ[89]? = some (.inl (1, 60, .inr (.inl c))) →
    (∀ (σ' : rf_S) (f' : Nat → Int64), σ'.length = σ.length → (∀ q, ¬ q = 88 → σ'[q]? = σ[q]?) → σ'[88]? = some (.inl (1, 360, .inr (.inl f'))) → (∀ x, f' x = if 60 * e + b + k ≤ x ∧ x < 60 * e + b + n then c (x - (60 * e + b)) else f x) → post (some (.int xn)) σ') → zb_W SA rf_ms C rf_m225 150 L [] σ 0 0 post := by
  intro m
  induction m with
  | zero =>
    intro k L σ f hk g0 g3 g4 g5 g6 h63 h88 h89 hpost
    have hle : xn ≤ Int32.ofNat k := Int32.le_iff_toInt_le.mpr (by rw [hn, zc_of (by omega)]; omega)
    refine zb_W_step (pc' := 152) (L' := L) (st' := [.int (Int32.ofNat k)]) (σ' := σ) rfl (by decide) (by decide) (by decide) (by simp only [rf_stp, g6]) ?_
    refine zb_W_step (pc' := 154) (L' := L) (st' := [.int xn, .int (Int32.ofNat k)]) (σ' := σ) rfl (by decide) (by decide) (by decide) (by simp only [rf_stp, g5]) ?_
    refine zb_W_step (pc' := 185) (L' := L) (st' := []) (σ' := σ) rfl (by decide) (by decide) (by decide) (by simp only [rf_stp, rf_cmp, hle, decide_true, cond_true]) ?_
    refine zb_W_step (pc' := 187) (L' := L) (st' := [.int xn]) (σ' := σ) rfl (by decide) (by decide) (by decide) (by simp only [rf_stp, g5]) ?_
    exact zb_W_ret rfl (by decide) (by decide) (by decide) (Nat.zero_le _) (Nat.zero_le _) ⟨rfl, hpost σ f rfl (fun _ _ => rfl) h88 (fun x => by rw [if_neg (by omega)])⟩
  | succ m ih =>
    intro k L σ f hk g0 g3 g4 g5 g6 h63 h88 h89 hpost
    have ek := zc_of (i := k) (by omega)
    have hle : ¬ xn ≤ Int32.ofNat k := fun q => by
      have q := Int32.le_iff_toInt_le.mp q
      omega
    have ei := zc_ix' (y := xb) he he6 (by omega) (by omega)
    have e2 : (60 * xe + xb + Int32.ofNat k).toInt = 60 * (e : Int) + b + k := by rw [zb_add (by omega) (by omega)]; omega
    obtain ⟨x1, x2⟩ := zc_ixs (i := 60 * xe + xb + Int32.ofNat k) (n := 360) (by omega) (by omega)
    obtain ⟨y1, y2⟩ := zc_ixs (i := Int32.ofNat k) (n := 60) (by omega) (by omega)
    have e60 : Int32.ofInt 60 = 60 := by decide
    refine zb_W_step (pc' := 152) (L' := L) (st' := [.int (Int32.ofNat k)]) (σ' := σ) rfl (by decide) (by decide) (by decide) (by simp only [rf_stp, g6]) ?_
    refine zb_W_step (pc' := 154) (L' := L) (st' := [.int xn, .int (Int32.ofNat k)]) (σ' := σ) rfl (by decide) (by decide) (by decide) (by simp only [rf_stp, g5]) ?_
    refine zb_W_step (pc' := 157) (L' := L) (st' := []) (σ' := σ) rfl (by decide) (by decide) (by decide) (by simp only [rf_stp, rf_cmp, hle, decide_false, cond_false]) ?_
    refine zb_W_step (pc' := 158) (L' := L) (st' := [.ref 63]) (σ' := σ) rfl (by decide) (by decide) (by decide) (by simp only [rf_stp, g0]) ?_
    refine zb_W_step (pc' := 161) (L' := L) (st' := [.ref 88]) (σ' := σ) rfl (by decide) (by decide) (by decide) (by simp only [rf_stp, h63, Nat.beq_refl, cond_true, h60]) ?_
    refine zb_W_step (pc' := 163) (L' := L) (st' := [.int (Int32.ofInt 60), .ref 88]) (σ' := σ) rfl (by decide) (by decide) (by decide) rfl ?_
    refine zb_W_step (pc' := 164) (L' := L) (st' := [.int xe, .int (Int32.ofInt 60), .ref 88]) (σ' := σ) rfl (by decide) (by decide) (by decide) (by simp only [rf_stp, g3]) ?_
    refine zb_W_step (pc' := 165) (L' := L) (st' := [.int (60 * xe), .ref 88]) (σ' := σ) rfl (by decide) (by decide) (by decide) (by rw [e60]; rfl) ?_
    refine zb_W_step (pc' := 167) (L' := L) (st' := [.int xb, .int (60 * xe), .ref 88]) (σ' := σ) rfl (by decide) (by decide) (by decide) (by simp only [rf_stp, g4]) ?_
    refine zb_W_step (pc' := 168) (L' := L) (st' := [.int (60 * xe + xb), .ref 88]) (σ' := σ) rfl (by decide) (by decide) (by decide) rfl ?_
    refine zb_W_step (pc' := 170) (L' := L) (st' := [.int (Int32.ofNat k), .int (60 * xe + xb), .ref 88]) (σ' := σ) rfl (by decide) (by decide) (by decide) (by simp only [rf_stp, g6]) ?_
    refine zb_W_step (pc' := 171) (L' := L) (st' := [.int (60 * xe + xb + Int32.ofNat k), .ref 88]) (σ' := σ) rfl (by decide) (by decide) (by decide) rfl ?_
    refine zb_W_step (pc' := 172) (L' := L) (st' := [.ref 63, .int (60 * xe + xb + Int32.ofNat k), .ref 88]) (σ' := σ) rfl (by decide) (by decide) (by decide) (by simp only [rf_stp, g0]) ?_
    refine zb_W_step (pc' := 175) (L' := L) (st' := [.ref 89, .int (60 * xe + xb + Int32.ofNat k), .ref 88]) (σ' := σ) rfl (by decide) (by decide) (by decide) (by simp only [rf_stp, h63, Nat.beq_refl, cond_true, h61]) ?_
    refine zb_W_step (pc' := 177) (L' := L) (st' := [.int (Int32.ofNat k), .ref 89, .int (60 * xe + xb + Int32.ofNat k), .ref 88]) (σ' := σ) rfl (by decide) (by decide) (by decide) (by simp only [rf_stp, g6]) ?_
    refine zb_W_step (pc' := 178) (L' := L) (st' := [.long (c (Int32.ofNat k).toNatClampNeg), .int (60 * xe + xb + Int32.ofNat k), .ref 88]) (σ' := σ) rfl (by decide) (by decide) (by decide) (by simp only [rf_stp, h89, y1, cond_true]) ?_
    refine zb_W_step (pc' := 179) (L' := L) (st' := []) (σ' := σ.set 88 (.inl (1, 360, .inr (.inl (vp_updL f (60 * xe + xb + Int32.ofNat k).toNatClampNeg (c (Int32.ofNat k).toNatClampNeg)))))) rfl (by decide) (by decide) (by decide) (by simp only [rf_stp, h88, x1, cond_true]) ?_
    refine zb_W_step (pc' := 182) (L' := rf_set L 6 (.int (Int32.ofNat k + Int32.ofInt 1))) (st' := []) (σ' := σ.set 88 (.inl (1, 360, .inr (.inl (vp_updL f (60 * xe + xb + Int32.ofNat k).toNatClampNeg (c (Int32.ofNat k).toNatClampNeg)))))) rfl (by decide) (by decide) (by decide) (by simp only [rf_stp, g6]) ?_
    refine zb_W_step (pc' := 150) (L' := rf_set L 6 (.int (Int32.ofNat k + Int32.ofInt 1))) (st' := []) (σ' := σ.set 88 (.inl (1, 360, .inr (.inl (vp_updL f (60 * xe + xb + Int32.ofNat k).toNatClampNeg (c (Int32.ofNat k).toNatClampNeg)))))) rfl (by decide) (by decide) (by decide) rfl ?_
    have hlt : 88 < σ.length := (List.getElem?_eq_some_iff.mp h88).1
    rw [zc_inc (by omega)]
    refine ih (k + 1) _ _ (vp_updL f (60 * xe + xb + Int32.ofNat k).toNatClampNeg (c (Int32.ofNat k).toNatClampNeg)) (by omega) (zb_rget_ne (by decide) g0 (fun q => by cases q)) (zb_rget_ne (by decide) g3 (fun q => by cases q)) (zb_rget_ne (by decide) g4 (fun q => by cases q)) (zb_rget_ne (by decide) g5 (fun q => by cases q)) (zb_rget_set _ _ _) (by rw [List.getElem?_set, if_neg (by decide)]; exact h63) (by rw [List.getElem?_set, if_pos rfl, if_pos hlt]) (by rw [List.getElem?_set, if_neg (by decide)]; exact h89) (fun σ' f' a1 a2 a3 a4 => ?_)
    refine hpost σ' f' (by rw [a1, List.length_set]) (fun q hq => by rw [a2 q hq, List.getElem?_set, if_neg (fun e => hq e.symm)]) a3 (fun x => ?_)
    rw [a4 x]
    unfold vp_updL
    by_cases h1 : 60 * e + b + (k + 1) ≤ x ∧ x < 60 * e + b + n
    · rw [if_pos h1, if_pos (by omega)]
    · rw [if_neg h1]
      by_cases h2 : x = (60 * xe + xb + Int32.ofNat k).toNatClampNeg
      · rw [if_pos h2, if_pos (by omega)]
        congr 1
        omega
      · rw [if_neg h2, if_neg (by omega)]
end
