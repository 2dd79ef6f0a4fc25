/-! the turns that read or write the shelves' elements: their starts, the tests of their ends -/
noncomputable def zc_S : zc_St := fun b => bif Nat.beq b 57 then some (zc_hH 66 72) else bif Nat.beq b 225 then some (zc_hM zb_tL (zb_has zb_lw) (true, []) rf_ms (zc_run zb_tL (zb_has zb_lw) (true, []) rf_ms (fun _ => none) 3000 6) 3000) else bif Nat.beq b 96 then some zc_hI else none
noncomputable def zc_jt (env : zb_N) (k : Nat) (c : Int) (fs : List zb_F) : Option Nat := List.rec (motive := fun _ => Option Nat) none (fun f _ ih => bif Nat.beq f.1 3 && (zc_hf env.2 0 f.2.1 k c && zc_hf env.2 0 k f.2.1 (-c)) then some f.2.1 else ih) fs
/-- how many customers there are, a number and c: by the name of which the row's fact speaks -/
noncomputable def zc_cv (env : zb_N) (D : zb_D) : zb_D := match zb_nth D 23, zb_nth D 1 with
  | some (.inr (0, k, c)), some v => bif !(zb_ieq c 0) && zc_nm v k.toNat c then (match zc_jt env k.toNat c env.2 with
    | some t => zb_upd (zb_upd D 23 (.inr (0, Int.ofNat t, 0))) 1 (.inr (0, Int.ofNat t, 0))
    | none => D) else D
  | _, _ => D
noncomputable def zc_le2 (env : zb_N) (pc : Nat) (L : zb_L) (st : List an_V) (D : zb_D) (G : zc_G) : Bool := Nat.beq pc 18 && ((Nat.beq D.length 90 && (zb_rend env D && zc_cend env D G.2.1 G.2.2)) && (match zb_fitA 1 (env, pc, L, st, D) zb_LH with
  | some ds => (match zb_nth ds 6 with
    | some (.inr (0, k, c)) => Nat.beq k.toNat 7 && zb_ieq c 6
    | _ => false)
  | none => false))
noncomputable def zc_lend (e : Bool × zc_C) : Bool := bif e.1 then false else zc_le2 e.2.1.1 e.2.1.2.1 e.2.1.2.2.1 e.2.1.2.2.2.1 (zc_cv e.2.1.1 e.2.1.2.2.2.2) e.2.2
noncomputable def zc_gtst (t : Nat) (c : zb_N × zb_D) : Bool := match zc_body zb_tL (zb_has zb_lw) (true, []) rf_ms (zc_run zb_tL (zb_has zb_lw) (true, []) rf_ms zc_S 3000 12) rf_law (fun k => Nat.beq k 18) 3000 true ((c.1, t, zb_LC.2.1, [], c.2), ([], [], [])) with
  | some cs => cs.all zc_lend
  | none => false
/-- a case gone through in two: to the place pm, and on from each of the ends there -/
noncomputable def zc_ph1 (t pm : Nat) (c : zb_N × zb_D) : zc_B := zc_body zb_tL (zb_has zb_lw) (true, []) rf_ms (zc_run zb_tL (zb_has zb_lw) (true, []) rf_ms zc_S 3000 12) rf_law (fun k => Nat.beq k pm) 3000 true ((c.1, t, zb_LC.2.1, [], c.2), ([], [], []))
noncomputable def zc_ph2 (e : Bool × zc_C) : Bool := bif e.1 then false else (match zc_body zb_tL (zb_has zb_lw) (true, []) rf_ms (zc_run zb_tL (zb_has zb_lw) (true, []) rf_ms zc_S 3000 12) rf_law (fun k => Nat.beq k 18) 3000 true e.2 with
  | some cs => cs.all zc_lend
  | none => false)
noncomputable def zc_ph (t pm a n : Nat) (c : zb_N × zb_D) : Bool := match zc_ph1 t pm c with
  | some cs => zb_every zc_ph2 ((cs.drop a).take n)
  | none => false
noncomputable def zc_phn (t pm n : Nat) (c : zb_N × zb_D) : Bool := match zc_ph1 t pm c with
  | some cs => Nat.ble cs.length n
  | none => false
theorem zc_in {t pm a n : Nat} {c : zb_N × zb_D} {cs : List (Bool × zc_C)} (h1 : zc_ph1 t pm c = some cs) (h : zc_ph t pm a n c = true) {j : Nat} (hj : j < cs.length) (ha : a ≤ j) (hn : j < a + n) : zc_ph2 cs[j] = true := by
  unfold zc_ph at h
  rw [h1] at h
  refine zb_every_ok h _ (List.mem_iff_getElem?.mpr ⟨j - a, ?_⟩)
  rw [List.getElem?_take_of_lt (by omega), List.getElem?_drop, show a + (j - a) = j by omega, List.getElem?_eq_getElem hj]
theorem zc_len {t pm n : Nat} {c : zb_N × zb_D} (h : zc_phn t pm n c = true) : ∃ cs, zc_ph1 t pm c = some cs ∧ cs.length ≤ n := by
  unfold zc_phn at h
  split at h
  case h_2 => cases h
  case h_1 cs hcs => exact ⟨cs, hcs, Nat.le_of_ble_eq_true h⟩
noncomputable def zc_c0 : zb_N × zb_D := (zb_LC.1, zb_LC.2.2.2.1)
noncomputable def zc_na (k : Nat) (b : Int × Int) (c : zb_N × zb_D) : zb_N × zb_D := ((zb_upd c.1.1 k b, c.1.2), c.2)
/-- shelf d holds nothing (0), a taking (1), a row (2), a row of sort s (3 + s) -/
noncomputable def zc_rs (d al : Nat) (c : zb_N × zb_D) : zb_N × zb_D := match al with
  | 0 => ((zb_upd (zb_upd c.1.1 (74 + d) (-1, -1)) (68 + d) (-1, -1), c.1.2), c.2)
  | 1 => ((zb_upd (zb_upd c.1.1 (74 + d) (9, 9)) (68 + d) (0, 49), (0, 68 + d, 8 + 17, -1) :: c.1.2), zb_upd c.2 (78 + d) (.inr (0, Int.ofNat (68 + d), 0)))
  | 2 => ((zb_upd (zb_upd c.1.1 (74 + d) (0, 4)) (68 + d) (50, 54), c.1.2), zb_upd c.2 (60 + d) (.inr (0, Int.ofNat (74 + d), 50)))
  | s + 3 => ((zb_upd (zb_upd c.1.1 (74 + d) (Int.ofNat s, Int.ofNat s)) (68 + d) (Int.ofNat (50 + s), Int.ofNat (50 + s)), c.1.2), zb_upd c.2 (60 + d) (.inr (0, Int.ofNat (74 + d), 50)))
noncomputable def zc_kd (c : zb_N × zb_D) (d : Nat) : Bool := (match zb_nth c.2 (78 + d) with
  | some v => zb_same v (86 + d)
  | none => false) && (match zb_nth c.2 (60 + d) with
  | some v => zb_same v (68 + d)
  | none => false)
noncomputable def zc_cd (d : Nat) : zb_N × zb_D := zc_na 2 (Int.ofNat d, Int.ofNat d) zc_c0
def zc_st (ρ : Nat → Int) (σ : rf_S) (c : zb_N × zb_D) : Prop := zb_en 98 ρ c.1 ∧ zb_ss zb_tL 90 c.2 98 ρ σ
set_option maxRecDepth 100000 in
theorem zc_kd1_all : (List.range 6).all (fun d => zc_kd (zc_cd d) d) = true := by decide +kernel
theorem zc_kd1 {d : Nat} (hd : d < 6) : zc_kd (zc_cd d) d = true := List.all_eq_true.mp zc_kd1_all d (List.mem_range.mpr hd)
set_option maxRecDepth 100000 in
theorem zc_kd2_all : (List.range 6).all (fun d => (List.range 6).all (fun f => Nat.beq d f || (zc_kd (zc_rs d 1 (zc_cd d)) f && zc_kd (zc_rs d 2 (zc_cd d)) f))) = true := by decide +kernel
theorem zc_kd2 {d f : Nat} (hd : d < 6) (hf : f < 6) (hn : ¬ d = f) : zc_kd (zc_rs d 1 (zc_cd d)) f = true ∧ zc_kd (zc_rs d 2 (zc_cd d)) f = true := by
  have g := List.all_eq_true.mp (List.all_eq_true.mp zc_kd2_all d (List.mem_range.mpr hd)) f (List.mem_range.mpr hf)
  rw [Bool.or_eq_true] at g
  rcases g with g | g
  · exact absurd (Nat.eq_of_beq_eq_true g) hn
  · exact an_and g
section
variable {ρ : Nat → Int} {σ : rf_S}
theorem zc_na_ok {c : zb_N × zb_D} {k : Nat} {b : Int × Int} (h : zc_st ρ σ c) (h1 : b.1 ≤ ρ k) (h2 : ρ k ≤ b.2) : zc_st ρ σ (zc_na k b c) := ⟨zb_en_upd h.1 h1 h2, h.2⟩
theorem zc_bod (h : zb_en 98 ρ zc_c0.1) : ρ (8 + 17) ≤ 50 := (h.2.1 (8 + 17) (.ofNat 0, .ofNat 50) rfl).2
theorem zc_rs_ok {c : zb_N × zb_D} {d : Nat} (hd : d < 6) (hk : zc_kd c d = true) (h : zc_st ρ σ c) (hb : ρ (8 + 17) ≤ 50) (hR : zb_RI ρ) : zc_st ρ σ (zc_rs d 0 c) ∨ zc_st ρ σ (zc_rs d 1 c) ∨ (zc_st ρ σ (zc_rs d 2 c) ∧ ∃ s, s < 5 ∧ zc_st ρ σ (zc_rs d (s + 3) c)) := by
  have kd := an_and hk
  have kb := kd.1
  have kh := kd.2
  split at kb
  case h_2 => cases kb
  case h_1 vb hvb =>
  split at kh
  case h_2 => cases kh
  case h_1 vh hvh =>
  rw [zb_nth_eq] at hvb hvh
  obtain ⟨e1, e2⟩ := h
  have hr := hR d hd
  rw [show 8 + (66 + d) = 74 + d by omega, show 8 + (78 + d) = 86 + d by omega, show 8 + (60 + d) = 68 + d by omega] at hr
  rcases hr with ⟨r1, r2⟩ | ⟨r1, r2, r3, r4⟩ | ⟨r1, r2, r3⟩
  · exact Or.inl ⟨zb_en_upd (zb_en_upd e1 (by show (-1 : Int) ≤ _; omega) (by show _ ≤ (-1 : Int); omega)) (by show (-1 : Int) ≤ _; omega) (by show _ ≤ (-1 : Int); omega), e2⟩
  · exact Or.inr (Or.inl ⟨zb_en_cons (zb_en_upd (zb_en_upd e1 (by show (9 : Int) ≤ _; omega) (by show _ ≤ (9 : Int); omega)) (by show (0 : Int) ≤ _; omega) (by show _ ≤ (49 : Int); omega)) ⟨by omega, by decide, by show _ ≤ _ + (-1 : Int); omega⟩, zb_ss_upd1 e2 hvb (zb_reD kb (by omega) (by omega))⟩)
  · refine Or.inr (Or.inr ⟨⟨zb_en_upd (zb_en_upd e1 (by show (0 : Int) ≤ _; omega) (by show _ ≤ (4 : Int); omega)) (by show (50 : Int) ≤ _; omega) (by show _ ≤ (54 : Int); omega), zb_ss_upd1 e2 hvh (zb_reD kh (by omega) (by omega))⟩, ?_⟩)
    obtain ⟨s, hs⟩ : ∃ s : Nat, ρ (74 + d) = (s : Int) := ⟨(ρ (74 + d)).toNat, by omega⟩
    exact ⟨s, by omega, zb_en_upd (zb_en_upd e1 (by show (s : Int) ≤ _; omega) (by show _ ≤ (s : Int); omega)) (by show ((50 + s : Nat) : Int) ≤ _; omega) (by show _ ≤ ((50 + s : Nat) : Int); omega), zb_ss_upd1 e2 hvh (zb_reD kh (by omega) (by omega))⟩
theorem zc_jt_ok {N : Nat} {env : zb_N} {k : Nat} {c : Int} (he : zb_en N ρ env) : ∀ {fs : List zb_F} {t : Nat}, zc_jt env k c fs = some t → t < N ∧ ρ t = ρ k + c
  | [], _, h => by cases h
  | f :: fs, t, h => by
    have h : (bif Nat.beq f.1 3 && (zc_hf env.2 0 f.2.1 k c && zc_hf env.2 0 k f.2.1 (-c)) then some f.2.1 else zc_jt env k c fs) = some t := h
    cases hc : (Nat.beq f.1 3 && (zc_hf env.2 0 f.2.1 k c && zc_hf env.2 0 k f.2.1 (-c))) with
    | true =>
      rw [hc, cond_true] at h
      cases h
      have h1 := an_and hc
      have h2 := an_and h1.2
      obtain ⟨p1, p2, p3⟩ := (he.2.2 _ (zc_hf_ok h2.1) : f.2.1 < N ∧ k < N ∧ ρ f.2.1 ≤ ρ k + c)
      obtain ⟨q1, q2, q3⟩ := (he.2.2 _ (zc_hf_ok h2.2) : k < N ∧ f.2.1 < N ∧ ρ k ≤ ρ f.2.1 + -c)
      exact ⟨p1, by omega⟩
    | false =>
      rw [hc, cond_false] at h
      exact zc_jt_ok he h
theorem zc_cv_ok {N : Nat} {env : zb_N} {D : zb_D} (he : zb_en N ρ env) (hσ : zb_ss zb_tL 90 D N ρ σ) : zb_ss zb_tL 90 (zc_cv env D) N ρ σ := by
  unfold zc_cv
  split
  case h_2 => exact hσ
  case h_1 k c v h1 h2 =>
  rw [zb_nth_eq] at h1 h2
  cases hc : (!(zb_ieq c 0) && zc_nm v k.toNat c) with
  | false => exact hσ
  | true =>
  rw [cond_true]
  split
  case h_2 => exact hσ
  case h_1 t ht =>
  obtain ⟨t1, t2⟩ := zc_jt_ok he ht
  have hn := (an_and hc).2
  have s1 : zb_ss zb_tL 90 (zb_upd D 23 (.inr (0, Int.ofNat t, 0))) N ρ σ := zb_ss_upd1 hσ h1 (fun w hw => by
    obtain ⟨-, x, rfl, hx⟩ := hw
    exact ⟨t1, x, rfl, by show x.toInt = ρ t + 0; omega⟩)
  exact zb_ss_upd1 s1 (by rw [zb_upd_eq, List.getElem?_set, if_neg (by decide)]; exact h2) (fun w hw => by
    obtain ⟨-, x, rfl, hx⟩ := zc_nm_ok hn hw
    exact ⟨t1, x, rfl, by show x.toInt = ρ t + 0; omega⟩)
end
set_option maxRecDepth 100000 in
theorem zc_g34_low : zc_gtst 1102 (zc_na 2 (zb_lo32, -1) (zc_c0)) = true := by decide +kernel
set_option maxRecDepth 100000 in
theorem zc_g34_high : zc_gtst 1102 (zc_na 2 (6, zb_hi32) (zc_c0)) = true := by decide +kernel
set_option maxRecDepth 100000 in
theorem zc_g34_0_0 : zc_gtst 1102 (zc_rs 0 0 (zc_cd 0)) = true := by decide +kernel
set_option maxRecDepth 100000 in
theorem zc_g34_0_1 : zc_gtst 1102 (zc_rs 0 1 (zc_cd 0)) = true := by decide +kernel
set_option maxRecDepth 100000 in
theorem zc_g34_0_2 : zc_gtst 1102 (zc_rs 0 2 (zc_cd 0)) = true := by decide +kernel
set_option maxRecDepth 100000 in
theorem zc_g34_1_0 : zc_gtst 1102 (zc_rs 1 0 (zc_cd 1)) = true := by decide +kernel
set_option maxRecDepth 100000 in
theorem zc_g34_1_1 : zc_gtst 1102 (zc_rs 1 1 (zc_cd 1)) = true := by decide +kernel
set_option maxRecDepth 100000 in
theorem zc_g34_1_2 : zc_gtst 1102 (zc_rs 1 2 (zc_cd 1)) = true := by decide +kernel
set_option maxRecDepth 100000 in
theorem zc_g34_2_0 : zc_gtst 1102 (zc_rs 2 0 (zc_cd 2)) = true := by decide +kernel
set_option maxRecDepth 100000 in
theorem zc_g34_2_1 : zc_gtst 1102 (zc_rs 2 1 (zc_cd 2)) = true := by decide +kernel
set_option maxRecDepth 100000 in
theorem zc_g34_2_2 : zc_gtst 1102 (zc_rs 2 2 (zc_cd 2)) = true := by decide +kernel
set_option maxRecDepth 100000 in
theorem zc_g34_3_0 : zc_gtst 1102 (zc_rs 3 0 (zc_cd 3)) = true := by decide +kernel
set_option maxRecDepth 100000 in
theorem zc_g34_3_1 : zc_gtst 1102 (zc_rs 3 1 (zc_cd 3)) = true := by decide +kernel
set_option maxRecDepth 100000 in
theorem zc_g34_3_2 : zc_gtst 1102 (zc_rs 3 2 (zc_cd 3)) = true := by decide +kernel
set_option maxRecDepth 100000 in
theorem zc_g34_4_0 : zc_gtst 1102 (zc_rs 4 0 (zc_cd 4)) = true := by decide +kernel
set_option maxRecDepth 100000 in
theorem zc_g34_4_1 : zc_gtst 1102 (zc_rs 4 1 (zc_cd 4)) = true := by decide +kernel
set_option maxRecDepth 100000 in
theorem zc_g34_4_2 : zc_gtst 1102 (zc_rs 4 2 (zc_cd 4)) = true := by decide +kernel
set_option maxRecDepth 100000 in
theorem zc_g34_5_0 : zc_gtst 1102 (zc_rs 5 0 (zc_cd 5)) = true := by decide +kernel
set_option maxRecDepth 100000 in
theorem zc_g34_5_1 : zc_gtst 1102 (zc_rs 5 1 (zc_cd 5)) = true := by decide +kernel
set_option maxRecDepth 100000 in
theorem zc_g34_5_2 : zc_gtst 1102 (zc_rs 5 2 (zc_cd 5)) = true := by decide +kernel
theorem zc_g34 : ∀ d, d < 6 → ∀ al, (al = 0 ∨ al = 1 ∨ al = 2) → zc_gtst 1102 (zc_rs d al (zc_cd d)) = true := by
  intro d hd al ha
  have h6 : d = 0 ∨ d = 1 ∨ d = 2 ∨ d = 3 ∨ d = 4 ∨ d = 5 := by omega
  rcases h6 with rfl | rfl | rfl | rfl | rfl | rfl <;> rcases ha with rfl | rfl | rfl
  · exact zc_g34_0_0
  · exact zc_g34_0_1
  · exact zc_g34_0_2
  · exact zc_g34_1_0
  · exact zc_g34_1_1
  · exact zc_g34_1_2
  · exact zc_g34_2_0
  · exact zc_g34_2_1
  · exact zc_g34_2_2
  · exact zc_g34_3_0
  · exact zc_g34_3_1
  · exact zc_g34_3_2
  · exact zc_g34_4_0
  · exact zc_g34_4_1
  · exact zc_g34_4_2
  · exact zc_g34_5_0
  · exact zc_g34_5_1
  · exact zc_g34_5_2
set_option maxRecDepth 100000 in
theorem zc_g33_low : zc_gtst 1029 (zc_na 2 (zb_lo32, -1) (zc_c0)) = true := by decide +kernel
set_option maxRecDepth 100000 in
theorem zc_g33_high : zc_gtst 1029 (zc_na 2 (6, zb_hi32) (zc_c0)) = true := by decide +kernel
set_option maxRecDepth 100000 in
theorem zc_g33_0_0 : zc_gtst 1029 (zc_rs 0 0 (zc_cd 0)) = true := by decide +kernel
set_option maxRecDepth 100000 in
theorem zc_g33_0_1 : zc_gtst 1029 (zc_rs 0 1 (zc_cd 0)) = true := by decide +kernel
set_option maxRecDepth 100000 in
theorem zc_g33_0_3 : zc_gtst 1029 (zc_rs 0 3 (zc_cd 0)) = true := by decide +kernel
set_option maxRecDepth 100000 in
theorem zc_g33_0_4 : zc_gtst 1029 (zc_rs 0 4 (zc_cd 0)) = true := by decide +kernel
set_option maxRecDepth 100000 in
theorem zc_g33_0_5 : zc_gtst 1029 (zc_rs 0 5 (zc_cd 0)) = true := by decide +kernel
set_option maxRecDepth 100000 in
theorem zc_g33_0_6 : zc_gtst 1029 (zc_rs 0 6 (zc_cd 0)) = true := by decide +kernel
set_option maxRecDepth 100000 in
theorem zc_g33_0_7 : zc_gtst 1029 (zc_rs 0 7 (zc_cd 0)) = true := by decide +kernel
set_option maxRecDepth 100000 in
theorem zc_g33_1_0 : zc_gtst 1029 (zc_rs 1 0 (zc_cd 1)) = true := by decide +kernel
set_option maxRecDepth 100000 in
theorem zc_g33_1_1 : zc_gtst 1029 (zc_rs 1 1 (zc_cd 1)) = true := by decide +kernel
set_option maxRecDepth 100000 in
theorem zc_g33_1_3 : zc_gtst 1029 (zc_rs 1 3 (zc_cd 1)) = true := by decide +kernel
set_option maxRecDepth 100000 in
theorem zc_g33_1_4 : zc_gtst 1029 (zc_rs 1 4 (zc_cd 1)) = true := by decide +kernel
set_option maxRecDepth 100000 in
theorem zc_g33_1_5 : zc_gtst 1029 (zc_rs 1 5 (zc_cd 1)) = true := by decide +kernel
set_option maxRecDepth 100000 in
theorem zc_g33_1_6 : zc_gtst 1029 (zc_rs 1 6 (zc_cd 1)) = true := by decide +kernel
set_option maxRecDepth 100000 in
theorem zc_g33_1_7 : zc_gtst 1029 (zc_rs 1 7 (zc_cd 1)) = true := by decide +kernel
set_option maxRecDepth 100000 in
theorem zc_g33_2_0 : zc_gtst 1029 (zc_rs 2 0 (zc_cd 2)) = true := by decide +kernel
set_option maxRecDepth 100000 in
theorem zc_g33_2_1 : zc_gtst 1029 (zc_rs 2 1 (zc_cd 2)) = true := by decide +kernel
set_option maxRecDepth 100000 in
theorem zc_g33_2_3 : zc_gtst 1029 (zc_rs 2 3 (zc_cd 2)) = true := by decide +kernel
set_option maxRecDepth 100000 in
theorem zc_g33_2_4 : zc_gtst 1029 (zc_rs 2 4 (zc_cd 2)) = true := by decide +kernel
set_option maxRecDepth 100000 in
theorem zc_g33_2_5 : zc_gtst 1029 (zc_rs 2 5 (zc_cd 2)) = true := by decide +kernel
set_option maxRecDepth 100000 in
theorem zc_g33_2_6 : zc_gtst 1029 (zc_rs 2 6 (zc_cd 2)) = true := by decide +kernel
set_option maxRecDepth 100000 in
theorem zc_g33_2_7 : zc_gtst 1029 (zc_rs 2 7 (zc_cd 2)) = true := by decide +kernel
set_option maxRecDepth 100000 in
theorem zc_g33_3_0 : zc_gtst 1029 (zc_rs 3 0 (zc_cd 3)) = true := by decide +kernel
set_option maxRecDepth 100000 in
theorem zc_g33_3_1 : zc_gtst 1029 (zc_rs 3 1 (zc_cd 3)) = true := by decide +kernel
set_option maxRecDepth 100000 in
theorem zc_g33_3_3 : zc_gtst 1029 (zc_rs 3 3 (zc_cd 3)) = true := by decide +kernel
set_option maxRecDepth 100000 in
theorem zc_g33_3_4 : zc_gtst 1029 (zc_rs 3 4 (zc_cd 3)) = true := by decide +kernel
set_option maxRecDepth 100000 in
theorem zc_g33_3_5 : zc_gtst 1029 (zc_rs 3 5 (zc_cd 3)) = true := by decide +kernel
set_option maxRecDepth 100000 in
theorem zc_g33_3_6 : zc_gtst 1029 (zc_rs 3 6 (zc_cd 3)) = true := by decide +kernel
set_option maxRecDepth 100000 in
theorem zc_g33_3_7 : zc_gtst 1029 (zc_rs 3 7 (zc_cd 3)) = true := by decide +kernel
set_option maxRecDepth 100000 in
theorem zc_g33_4_0 : zc_gtst 1029 (zc_rs 4 0 (zc_cd 4)) = true := by decide +kernel
set_option maxRecDepth 100000 in
theorem zc_g33_4_1 : zc_gtst 1029 (zc_rs 4 1 (zc_cd 4)) = true := by decide +kernel
set_option maxRecDepth 100000 in
theorem zc_g33_4_3 : zc_gtst 1029 (zc_rs 4 3 (zc_cd 4)) = true := by decide +kernel
set_option maxRecDepth 100000 in
theorem zc_g33_4_4 : zc_gtst 1029 (zc_rs 4 4 (zc_cd 4)) = true := by decide +kernel
set_option maxRecDepth 100000 in
theorem zc_g33_4_5 : zc_gtst 1029 (zc_rs 4 5 (zc_cd 4)) = true := by decide +kernel
set_option maxRecDepth 100000 in
theorem zc_g33_4_6 : zc_gtst 1029 (zc_rs 4 6 (zc_cd 4)) = true := by decide +kernel
set_option maxRecDepth 100000 in
theorem zc_g33_4_7 : zc_gtst 1029 (zc_rs 4 7 (zc_cd 4)) = true := by decide +kernel
set_option maxRecDepth 100000 in
theorem zc_g33_5_0 : zc_gtst 1029 (zc_rs 5 0 (zc_cd 5)) = true := by decide +kernel
set_option maxRecDepth 100000 in
theorem zc_g33_5_1 : zc_gtst 1029 (zc_rs 5 1 (zc_cd 5)) = true := by decide +kernel
set_option maxRecDepth 100000 in
theorem zc_g33_5_3 : zc_gtst 1029 (zc_rs 5 3 (zc_cd 5)) = true := by decide +kernel
set_option maxRecDepth 100000 in
theorem zc_g33_5_4 : zc_gtst 1029 (zc_rs 5 4 (zc_cd 5)) = true := by decide +kernel
set_option maxRecDepth 100000 in
theorem zc_g33_5_5 : zc_gtst 1029 (zc_rs 5 5 (zc_cd 5)) = true := by decide +kernel
set_option maxRecDepth 100000 in
theorem zc_g33_5_6 : zc_gtst 1029 (zc_rs 5 6 (zc_cd 5)) = true := by decide +kernel
set_option maxRecDepth 100000 in
theorem zc_g33_5_7 : zc_gtst 1029 (zc_rs 5 7 (zc_cd 5)) = true := by decide +kernel
theorem zc_g33 : ∀ d, d < 6 → ∀ al, (al = 0 ∨ al = 1 ∨ al = 3 ∨ al = 4 ∨ al = 5 ∨ al = 6 ∨ al = 7) → zc_gtst 1029 (zc_rs d al (zc_cd d)) = true := by
  intro d hd al ha
  have h6 : d = 0 ∨ d = 1 ∨ d = 2 ∨ d = 3 ∨ d = 4 ∨ d = 5 := by omega
  rcases h6 with rfl | rfl | rfl | rfl | rfl | rfl <;> rcases ha with rfl | rfl | rfl | rfl | rfl | rfl | rfl
  · exact zc_g33_0_0
  · exact zc_g33_0_1
  · exact zc_g33_0_3
  · exact zc_g33_0_4
  · exact zc_g33_0_5
  · exact zc_g33_0_6
  · exact zc_g33_0_7
  · exact zc_g33_1_0
  · exact zc_g33_1_1
  · exact zc_g33_1_3
  · exact zc_g33_1_4
  · exact zc_g33_1_5
  · exact zc_g33_1_6
  · exact zc_g33_1_7
  · exact zc_g33_2_0
  · exact zc_g33_2_1
  · exact zc_g33_2_3
  · exact zc_g33_2_4
  · exact zc_g33_2_5
  · exact zc_g33_2_6
  · exact zc_g33_2_7
  · exact zc_g33_3_0
  · exact zc_g33_3_1
  · exact zc_g33_3_3
  · exact zc_g33_3_4
  · exact zc_g33_3_5
  · exact zc_g33_3_6
  · exact zc_g33_3_7
  · exact zc_g33_4_0
  · exact zc_g33_4_1
  · exact zc_g33_4_3
  · exact zc_g33_4_4
  · exact zc_g33_4_5
  · exact zc_g33_4_6
  · exact zc_g33_4_7
  · exact zc_g33_5_0
  · exact zc_g33_5_1
  · exact zc_g33_5_3
  · exact zc_g33_5_4
  · exact zc_g33_5_5
  · exact zc_g33_5_6
  · exact zc_g33_5_7
