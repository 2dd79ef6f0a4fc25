/-! the store behind the constructors is one of those that are held -/
/-- a known value lies in that -/
noncomputable def zb_vi (v a : an_V) : Bool := match v with
  | .inl (.int x) => zb_sub ([], []) (.inr (1, x.toInt, x.toInt)) a
  | .inl (.long x) => zb_sub ([], []) (.inr (2, x.toInt, x.toInt)) a
  | .inl (.ref q) => zb_sub ([], []) (.inl (.ref q)) a
  | _ => false
theorem zb_vi_ok {M : Nat} {ρ' : Nat → Int} {r : Nat → Int32} {v a : an_V} {w : Value} (h : zb_vi v a = true) (hg : an_g r v w) : zb_g M ρ' a w := by
  unfold zb_vi at h
  split at h
  case h_1 x =>
    have hg : w = .int x := hg
    subst hg
    exact zb_sub_ok (N := 0) (ρ := ρ') zb_en_nil h ⟨x, rfl, Int.le_refl _, Int.le_refl _⟩
  case h_2 x =>
    have hg : w = .long x := hg
    subst hg
    exact zb_sub_ok (N := 0) (ρ := ρ') zb_en_nil h ⟨x, rfl, Int.le_refl _, Int.le_refl _⟩
  case h_3 q =>
    have hg : w = .ref q := hg
    subst hg
    exact zb_sub_ok (N := 0) (ρ := ρ') zb_en_nil h rfl
  case h_4 => cases h
def zb_vs (ini : Nat → Int) (v : an_V) (s : Nat) : Bool := match v with
  | .inl (.int x) => zb_ieq x.toInt (ini s) && Nat.blt s 90
  | _ => false
noncomputable def zb_i2 (ini : Nat → Int) : List zb_G → List an_V → Bool
  | [], [] => true
  | (0, s, _) :: gs, v :: fs => zb_vs ini v s && zb_i2 ini gs fs
  | (_ + 1, _, a) :: gs, v :: fs => zb_vi v a && zb_i2 ini gs fs
  | _, _ => false
noncomputable def zb_i1 (ini : Nat → Int) (t : (Nat × Nat × an_V) ⊕ (Nat × List zb_G)) (o : an_O) : Bool := match t, o with
  | .inl (k, n, .inr (9, b, _)), .inl (k', m, e, ups) => decide (k = 0) && (decide (k' = 0) && (decide (m = n) && (List.range n).all (fun j => zb_vs ini (an_at e ups j) (b.toNat + j))))
  | .inl (k, n, d), .inl (k', m, e, ups) => decide (k = k') && (decide (m = n) && (zb_nc d && (List.range n).all (fun j => zb_vi (an_at e ups j) d)))
  | .inr (ci, gs), .inr (cj, fs) => decide (ci = cj) && zb_i2 ini gs fs
  | _, _ => false
section
variable {M : Nat} {ρ' : Nat → Int} {r : Nat → Int32} {ini : Nat → Int} {D : zb_D}
theorem zb_vs_ok {v : an_V} {s : Nat} {w : Value} (hD : ∀ s, s < 90 → ∃ a, D[s]? = some a ∧ ∀ x : Int32, x.toInt = ini s → zb_g M ρ' a (.int x)) (h : zb_vs ini v s = true) (hg : an_g r v w) : ∃ a, D[s]? = some a ∧ zb_g M ρ' a w := by
  unfold zb_vs at h
  split at h
  case h_2 => cases h
  case h_1 x =>
  have hg : w = .int x := hg
  subst hg
  have h := an_and h
  obtain ⟨a, a1, a2⟩ := hD s (Nat.le_of_ble_eq_true h.2)
  exact ⟨a, a1, a2 x (zb_ieq_of h.1)⟩
theorem zb_i2_ok (hD : ∀ s, s < 90 → ∃ a, D[s]? = some a ∧ ∀ x : Int32, x.toInt = ini s → zb_g M ρ' a (.int x)) : ∀ {gs : List zb_G} {fs : List an_V} {ws : List Value}, zb_i2 ini gs fs = true → an_gl r fs ws → zb_fos D M ρ' gs ws
  | [], [], [], _, _ => ⟨rfl, fun c g hg => by simp at hg⟩
  | [], [], _ :: _, _, h => h.elim
  | [], _ :: _, _, h, _ => by cases h
  | (0, _, _) :: _, [], _, h, _ => by cases h
  | (_ + 1, _, _) :: _, [], _, h, _ => by cases h
  | _ :: _, _ :: _, [], _, h => h.elim
  | (0, s, x) :: gs, v :: fs, w :: ws, h, hg => by
    have h := an_and (show (zb_vs ini v s && zb_i2 ini gs fs) = true from h)
    obtain ⟨i1, i2⟩ := zb_i2_ok hD h.2 hg.2
    refine ⟨by rw [List.length_cons, List.length_cons, i1], fun c g hc => ?_⟩
    match c, hc with
    | 0, hc =>
      simp only [List.getElem?_cons_zero, Option.some.injEq] at hc
      subst hc
      exact ⟨w, rfl, zb_vs_ok hD h.1 hg.1⟩
    | c + 1, hc => exact i2 c g hc
  | (k + 1, s, a) :: gs, v :: fs, w :: ws, h, hg => by
    have h := an_and (show (zb_vi v a && zb_i2 ini gs fs) = true from h)
    obtain ⟨i1, i2⟩ := zb_i2_ok hD h.2 hg.2
    refine ⟨by rw [List.length_cons, List.length_cons, i1], fun c g hc => ?_⟩
    match c, hc with
    | 0, hc =>
      simp only [List.getElem?_cons_zero, Option.some.injEq] at hc
      subst hc
      exact ⟨w, rfl, zb_vi_ok h.1 hg.1⟩
    | c + 1, hc => exact i2 c g hc
theorem zb_go_inv {k n : Nat} {d : an_V} {ups : List (Nat × an_V)} {w : va_E} (h : an_go r (.inl (k, n, d, ups)) w) : (k = 0 ∧ ∃ f, w = .inl (0, n, .inl f) ∧ ∀ j, an_g r (an_at d ups j) (.int (f j))) ∨ (k = 1 ∧ ∃ f, w = .inl (1, n, .inr (.inl f)) ∧ ∀ j, an_g r (an_at d ups j) (.long (f j))) ∨ (k = 2 ∧ ∃ f, w = .inl (2, n, .inr (.inr (.inr (.inr f)))) ∧ ∀ j, an_g r (an_at d ups j) (va_rf (f j))) := by
  rcases w with ⟨kk, m, f | f | f | f | f⟩ | q
  · match k, h with
    | 0, h => obtain ⟨rfl, rfl, g⟩ := h; exact Or.inl ⟨rfl, f, rfl, g⟩
    | 1, h => exact h.elim
    | 2, h => exact h.elim
    | k + 3, h => exact h.elim
  · match k, h with
    | 0, h => exact h.elim
    | 1, h => obtain ⟨rfl, rfl, g⟩ := h; exact Or.inr (Or.inl ⟨rfl, f, rfl, g⟩)
    | 2, h => exact h.elim
    | k + 3, h => exact h.elim
  · match k, h with
    | 0, h => exact h.elim
    | 1, h => exact h.elim
    | 2, h => exact h.elim
    | k + 3, h => exact h.elim
  · match k, h with
    | 0, h => exact h.elim
    | 1, h => exact h.elim
    | 2, h => exact h.elim
    | k + 3, h => exact h.elim
  · match k, h with
    | 0, h => exact h.elim
    | 1, h => exact h.elim
    | 2, h => obtain ⟨rfl, rfl, g⟩ := h; exact Or.inr (Or.inr ⟨rfl, f, rfl, g⟩)
    | k + 3, h => exact h.elim
  · match k, h with
    | 0, h => exact h.elim
    | 1, h => exact h.elim
    | 2, h => exact h.elim
    | k + 3, h => exact h.elim
theorem zb_i1_ok {t : (Nat × Nat × an_V) ⊕ (Nat × List zb_G)} {o : an_O} {w : va_E} (hD : ∀ s, s < 90 → ∃ a, D[s]? = some a ∧ ∀ x : Int32, x.toInt = ini s → zb_g M ρ' a (.int x)) (h : zb_i1 ini t o = true) (hg : an_go r o w) : zb_ob D M ρ' t w := by
  rcases t with ⟨k, n, d⟩ | ⟨ci, gs⟩
  · rcases o with ⟨k', m, e, ups⟩ | ⟨cj, fs⟩
    · show zb_rw D M ρ' k n d w
      have hcase : (∃ b x, d = .inr (9, b, x) ∧ (decide (k = 0) && (decide (k' = 0) && (decide (m = n) && (List.range n).all (fun j => zb_vs ini (an_at e ups j) (b.toNat + j))))) = true) ∨ (decide (k = k') && (decide (m = n) && (zb_nc d && (List.range n).all (fun j => zb_vi (an_at e ups j) d)))) = true := by
        unfold zb_i1 at h
        split at h
        · rename_i he _
          cases he
          rename_i hf
          cases hf
          exact Or.inl ⟨_, _, rfl, h⟩
        · rename_i he hf
          cases he
          cases hf
          exact Or.inr h
        · rename_i he _
          cases he
        · cases h
      rcases hcase with ⟨b, x, rfl, h⟩ | h
      · have h1 := an_and h
        have h2 := an_and h1.2
        have h3 := an_and h2.2
        have e1 := of_decide_eq_true h1.1
        have e2 := of_decide_eq_true h2.1
        have e3 := of_decide_eq_true h3.1
        subst e1
        subst e2
        subst e3
        rcases zb_go_inv hg with ⟨-, f, rfl, g⟩ | ⟨q, -⟩ | ⟨q, -⟩
        · exact ⟨rfl, f, rfl, fun j hj => zb_vs_ok hD (List.all_eq_true.mp h3.2 j (List.mem_range.mpr hj)) (g j)⟩
        · cases q
        · cases q
      · have h1 := an_and h
        have h2 := an_and h1.2
        have h3 := an_and h2.2
        have e1 := of_decide_eq_true h1.1
        have e2 := of_decide_eq_true h2.1
        subst e1
        subst e2
        rw [zb_rw_nc h3.1]
        have h4 : ∀ j, j < m → zb_vi (an_at e ups j) d = true := fun j hj => List.all_eq_true.mp h3.2 j (List.mem_range.mpr hj)
        rcases zb_go_inv hg with ⟨rfl, f, rfl, g⟩ | ⟨rfl, f, rfl, g⟩ | ⟨rfl, f, rfl, g⟩
        · exact ⟨rfl, rfl, rfl, fun j hj => zb_vi_ok (h4 j hj) (g j)⟩
        · exact ⟨rfl, rfl, rfl, fun j hj => zb_vi_ok (h4 j hj) (g j)⟩
        · refine ⟨rfl, rfl, rfl, fun j hj => ?_⟩
          have g4 : zb_g 0 zb_z0 d (va_rf (f j)) := zb_vi_ok (h4 j hj) (g j)
          have g5 := g j
          cases hf : f j with
          | some q => rw [hf] at g4; exact ⟨q, rfl, g4⟩
          | none =>
            rw [hf] at g5
            have h5 := h4 j hj
            unfold zb_vi at h5
            split at h5
            case h_1 hv => rw [hv] at g5; cases g5
            case h_2 hv => rw [hv] at g5; cases g5
            case h_3 hv => rw [hv] at g5; cases g5
            case h_4 => cases h5
    · exfalso
      unfold zb_i1 at h
      split at h
      all_goals first
        | cases h
        | (rename_i h1 h2; cases h2; done)
        | (rename_i h1 h2; cases h1; done)
        | (rename_i h1 h2 h3; cases h2; done)
        | (rename_i h1 h2 h3; cases h1; done)
  · rcases o with ⟨k', m, e, ups⟩ | ⟨cj, fs⟩
    · cases h
    · have h1 := an_and (show (decide (ci = cj) && zb_i2 ini gs fs) = true from h)
      have e1 := of_decide_eq_true h1.1
      subst e1
      rcases w with w | ⟨ck, ws⟩
      · exact hg.elim
      · obtain ⟨rfl, g2⟩ := hg
        exact ⟨rfl, zb_i2_ok hD h1.2 g2⟩
end
theorem zb_agc {r : Nat → Int32} {a : Nat × an_V} {as : an_L} {L' : rf_L} (h : an_gL r (a :: as) L') : ∃ (k : Nat) (w : Value) (vs : rf_L), L' = (k, w) :: vs ∧ a.1 = k ∧ an_g r a.2 w ∧ an_gL r as vs := by
  cases L' with
  | nil => exact h.elim
  | cons v vs => exact ⟨v.1, v.2, vs, rfl, h.1.1, h.1.2, h.2⟩
theorem an_gs_at {r : Nat → Int32} : ∀ {σa : an_S} {σ : rf_S}, an_gs r σa σ → σa.length = σ.length ∧ ∀ (i : Nat) (o : an_O), σa[i]? = some o → ∃ w, σ[i]? = some w ∧ an_go r o w
  | [], [], _ => ⟨rfl, fun i o h => by simp at h⟩
  | [], _ :: _, h => h.elim
  | _ :: _, [], h => h.elim
  | a :: as, v :: vs, h => by
    obtain ⟨i1, i2⟩ := an_gs_at h.2
    refine ⟨by rw [List.length_cons, List.length_cons, i1], fun i o hi => ?_⟩
    match i, hi with
    | 0, hi =>
      simp only [List.getElem?_cons_zero, Option.some.injEq] at hi
      subst hi
      exact ⟨v, rfl, h.1⟩
    | i + 1, hi => exact i2 i o hi
noncomputable def zb_inm (s : Nat) : Bool := zb_has [25, 60, 61, 62, 63, 64, 65, 66, 67, 68, 69, 70, 71] s
/-- the scalars at the start -/
noncomputable def zb_ini (s : Nat) : Int := bif zb_inm s then -1 else 0
noncomputable def zb_r0 (LL : Nat) : Nat → Int := fun j => if j = 0 then (LL : Int) else if j < 8 then 0 else zb_ini (j - 8)
noncomputable def zb_it (i : Nat) : Bool := match zb_tL i, zb_nth an_sh0 i with
  | some t, some o => zb_i1 zb_ini t o
  | _, _ => false
set_option maxRecDepth 100000 in
theorem zb_it_all : (List.range 90).all zb_it = true := by decide +kernel
noncomputable def zb_id (s : Nat) : Bool := match zb_nth zb_LH.2.2.2.1 s with
  | some (.inr (0, k, c)) => Nat.ble 8 k.toNat && (Nat.blt k.toNat 98 && (zb_ieq c 0 && zb_ieq (zb_ini (k.toNat - 8)) (zb_ini s)))
  | _ => false
set_option maxRecDepth 100000 in
theorem zb_id_all : (List.range 90).all zb_id = true := by decide +kernel
noncomputable def zb_ib (k : Nat) : Bool := match zb_nth zb_LH.1.1 (k + 1) with
  | some b => zb_le b.1 (zb_r0 0 (k + 1)) && zb_le (zb_r0 0 (k + 1)) b.2
  | none => false
set_option maxRecDepth 100000 in
theorem zb_ib_all : (List.range 97).all zb_ib = true := by decide +kernel
set_option maxRecDepth 100000 in
theorem zb_tL_len : an_sh0.length = 90 := rfl
theorem zb_r0_s {LL k : Nat} : zb_r0 LL (k + 1) = zb_r0 0 (k + 1) := by
  unfold zb_r0
  rw [if_neg (Nat.succ_ne_zero k), if_neg (Nat.succ_ne_zero k)]
theorem zb_r0_8 {LL k : Nat} (h : 8 ≤ k) : zb_r0 LL k = zb_ini (k - 8) := by
  unfold zb_r0
  rw [if_neg (by omega), if_neg (by omega)]
set_option maxRecDepth 100000 in
theorem zb_am0 {LL : Nat} {xs : Nat → Int32} {L1 : rf_L} {st1 : List Value} {σ1 : rf_S} (hLL : LL ≤ 3072) (hg : an_gc xs an_st0 L1 st1 σ1) : st1 = [] ∧ zb_am zb_tL 90 zb_LH 98 (zb_r0 LL) L1 [] σ1 := by
  obtain ⟨-, hL, hst, hσ⟩ := hg
  have est : st1 = [] := an_gl_nil hst
  refine ⟨est, ⟨rfl, fun k b hb => ?_, fun f hf => ?_⟩, fun i v hv => ?_, trivial, ?_⟩
  · match k, hb with
    | 0, hb =>
      cases hb
      show (0 : Int) ≤ zb_r0 LL 0 ∧ zb_r0 LL 0 ≤ (3072 : Int)
      have e : zb_r0 LL 0 = (LL : Int) := rfl
      omega
    | k + 1, hb =>
      have hk : k < 97 := by
        have h := (List.getElem?_eq_some_iff.mp hb).1
        have h : k + 1 < 98 := h
        omega
      have g := List.all_eq_true.mp zb_ib_all k (List.mem_range.mpr hk)
      unfold zb_ib at g
      rw [zb_nth_eq, hb] at g
      have g := an_and g
      rw [zb_r0_s]
      exact ⟨zb_le_of g.1, zb_le_of g.2⟩
  · have hf : f ∈ [((0, 29, 28, .ofNat 0) : zb_F), (0, 35, 36, .ofNat 0), (0, 49, 31, .ofNat 0), (3, 31, 54, .ofNat 0), (3, 49, 61, .ofNat 0)] := hf
    simp only [List.mem_cons, List.not_mem_nil, or_false] at hf
    have z : ∀ k, k < 30 → zb_inm k = false → zb_r0 LL (8 + k) = 0 := fun k _ h => by
      rw [zb_r0_8 (by omega), show 8 + k - 8 = k by omega]
      unfold zb_ini
      rw [h]
      rfl
    have z2 : ∀ k, zb_inm k = false → zb_r0 LL (8 + k) = 0 := fun k h => by
      rw [zb_r0_8 (by omega), show 8 + k - 8 = k by omega]
      unfold zb_ini
      rw [h]
      rfl
    rcases hf with rfl | rfl | rfl | rfl | rfl
    · exact ⟨by decide, by decide, by show zb_r0 LL (8 + 21) ≤ zb_r0 LL (8 + 20) + 0; rw [z2 21 rfl, z2 20 rfl]; decide⟩
    · exact ⟨by decide, by decide, by show zb_r0 LL (8 + 27) ≤ zb_r0 LL (8 + 28) + 0; rw [z2 27 rfl, z2 28 rfl]; decide⟩
    · exact ⟨by decide, by decide, by show zb_r0 LL (8 + 41) ≤ zb_r0 LL (8 + 23) + 0; rw [z2 41 rfl, z2 23 rfl]; decide⟩
    · refine ⟨by decide, by decide, fun k k0 k1 => ?_⟩
      have k1 : k < zb_r0 LL (8 + 23) := k1
      rw [z2 23 rfl] at k1
      omega
    · refine ⟨by decide, by decide, fun k k0 k1 => ?_⟩
      have k1 : k < zb_r0 LL (8 + 41) := k1
      rw [z2 41 rfl] at k1
      omega
  · obtain ⟨k3, w3, L2, rfl, h3, l3, hL⟩ := zb_agc hL
    obtain ⟨k2, w2, L3, rfl, h2, l2, hL⟩ := zb_agc hL
    obtain ⟨k1, w1, L4, rfl, h1, l1, hL⟩ := zb_agc hL
    obtain ⟨k0, w0, L5, rfl, h0, l0, hL⟩ := zb_agc hL
    have h3 : 3 = k3 := h3
    have h2 : 2 = k2 := h2
    have h1 : 1 = k1 := h1
    have h0 : 0 = k0 := h0
    subst h3
    subst h2
    subst h1
    subst h0
    have l3 : w3 = .int 0 := l3
    have l2 : w2 = .ref 63 := l2
    have l1 : w1 = .ref 0 := l1
    have l0 : w0 = .ref 1000002 := l0
    subst l3
    subst l2
    subst l1
    subst l0
    match i, hv with
    | 0, hv => cases hv; exact ⟨_, rfl, rfl⟩
    | 1, hv => cases hv; exact ⟨_, rfl, rfl⟩
    | 2, hv => cases hv; exact ⟨_, rfl, rfl⟩
    | 3, hv => cases hv; exact ⟨_, rfl, by decide, 0, rfl, rfl⟩
    | i + 4, hv => cases hv
  · have hD : ∀ s, s < 90 → ∃ a, zb_LH.2.2.2.1[s]? = some a ∧ ∀ x : Int32, x.toInt = zb_ini s → zb_g 98 (zb_r0 LL) a (.int x) := fun s hs => by
      have g := List.all_eq_true.mp zb_id_all s (List.mem_range.mpr hs)
      unfold zb_id at g
      split at g
      case h_2 => cases g
      case h_1 k c hk =>
      rw [zb_nth_eq] at hk
      have g1 := an_and g
      have g2 := an_and g1.2
      have g3 := an_and g2.2
      have ec := zb_ieq_of g3.1
      have ei := zb_ieq_of g3.2
      subst ec
      refine ⟨_, hk, fun x hx => ⟨Nat.le_of_ble_eq_true g2.1, x, rfl, ?_⟩⟩
      rw [hx, zb_r0_8 (Nat.le_of_ble_eq_true g1.1), ei, Int.add_zero]
    obtain ⟨e1, e2⟩ := an_gs_at hσ
    have e1 : an_sh0.length = σ1.length := e1
    refine ⟨by rw [← e1]; exact zb_tL_len, fun i t ht => ?_⟩
    have g := List.all_eq_true.mp zb_it_all i (List.mem_range.mpr (zb_tL_lt ht))
    unfold zb_it at g
    split at g
    case h_2 => cases g
    case h_1 t' o ht' ho =>
    rw [ht] at ht'
    cases ht'
    rw [zb_nth_eq] at ho
    obtain ⟨w, w1, w2⟩ := e2 i o ho
    exact ⟨w, w1, zb_i1_ok hD g w2⟩
theorem zb_RI0 {LL : Nat} : zb_RI (zb_r0 LL) := fun d hd => by
  have h6 : d = 0 ∨ d = 1 ∨ d = 2 ∨ d = 3 ∨ d = 4 ∨ d = 5 := by omega
  rcases h6 with rfl | rfl | rfl | rfl | rfl | rfl <;> exact Or.inl ⟨by rw [zb_r0_8 (by omega)]; rfl, by rw [zb_r0_8 (by omega)]; rfl⟩
theorem zc_CS0 {LL : Nat} {L1 : rf_L} {σ1 : rf_S} (ham : zb_am zb_tL 90 zb_LH 98 (zb_r0 LL) L1 [] σ1) : zc_CS (zb_r0 LL) σ1 := by
  obtain ⟨a1, a2, a3, a4⟩ := ham
  obtain ⟨o, o1, o2⟩ := a4.2 61 (.inl (1, 360, zb_topL)) rfl
  have o2 : zb_rw zb_LH.2.2.2.1 98 (zb_r0 LL) 1 360 zb_topL o := o2
  obtain ⟨f, rfl, -⟩ := zb_ro1 (Eq.mp (zb_rw_nc rfl) o2)
  obtain ⟨o, p1, p2⟩ := a4.2 88 (.inl (1, 360, zb_topL)) rfl
  have p2 : zb_rw zb_LH.2.2.2.1 98 (zb_r0 LL) 1 360 zb_topL o := p2
  obtain ⟨g, rfl, -⟩ := zb_ro1 (Eq.mp (zb_rw_nc rfl) p2)
  refine ⟨f, g, o1, p1, fun x _ => zb_64 _, fun d hd j hj hj2 => ?_⟩
  exfalso
  have h6 : d = 0 ∨ d = 1 ∨ d = 2 ∨ d = 3 ∨ d = 4 ∨ d = 5 := by omega
  have h0 : zb_r0 LL (80 + d) = 0 := by
    rw [show 80 + d = 8 + (72 + d) by omega, zb_r0_8 (by omega)]
    rcases h6 with rfl | rfl | rfl | rfl | rfl | rfl <;> rfl
  omega
