/-! what a shelf holds, on both sides: sort and body of the class's, shelf of the reference's -/
def zb_Rl (s b h n : Int) : Prop := (s = -1 ∧ h = -1) ∨ (s = 9 ∧ 0 ≤ h ∧ h ≤ n - 1 ∧ b = h) ∨ (0 ≤ s ∧ s ≤ 4 ∧ h = s + 50)
def zb_RI (ρ : Nat → Int) : Prop := ∀ d, d < 6 → zb_Rl (ρ (8 + (66 + d))) (ρ (8 + (78 + d))) (ρ (8 + (60 + d))) (ρ (8 + 17))
noncomputable def zb_rq (env : zb_N) (s b h n : an_V) : Bool := match zb_pi env s, zb_pi env b, zb_pi env h, zb_pi env n with
  | some qs, some qb, some qh, some qn => (zb_le qs.2.2 (-1) && (zb_le (-1) qs.2.1 && (zb_le qh.2.2 (-1) && zb_le (-1) qh.2.1))) || ((zb_le qs.2.2 9 && (zb_le 9 qs.2.1 && (zb_le 0 qh.2.1 && (zb_ent env.2 qh qn (-1) && (zb_ent env.2 qb qh 0 && zb_ent env.2 qh qb 0))))) || (zb_le 0 qs.2.1 && (zb_le qs.2.2 4 && (zb_ent env.2 qh qs 50 && zb_ent env.2 qs qh (-50)))))
  | _, _, _, _ => false
/-- it has the name that it had -/
def zb_same (v : an_V) (k : Nat) : Bool := match v with
  | .inr (0, j, c) => Nat.beq j.toNat k && zb_ieq c 0
  | _ => false
/-- the bodies are no fewer -/
noncomputable def zb_grow (env : zb_N) (n : an_V) : Bool := match zb_pi env (.inr (0, Int.ofNat (8 + 17), 0)), zb_pi env n with
  | some p, some q => zb_ent env.2 p q 0
  | _, _ => false
noncomputable def zb_rdd (env : zb_N) (D : zb_D) (d : Nat) : Bool := match zb_nth D (66 + d), zb_nth D (78 + d), zb_nth D (60 + d), zb_nth D 17 with
  | some s, some b, some h, some n => ((zb_same s (8 + (66 + d)) && (zb_same b (8 + (78 + d)) && zb_same h (8 + (60 + d)))) && zb_grow env n) || zb_rq env s b h n
  | _, _, _, _ => false
noncomputable def zb_rend (env : zb_N) (D : zb_D) : Bool := zb_every (zb_rdd env D) [0, 1, 2, 3, 4, 5]
theorem zb_mem6 {i : Nat} (h : i < 6) : i ∈ [0, 1, 2, 3, 4, 5] := by
  have : i = 0 ∨ i = 1 ∨ i = 2 ∨ i = 3 ∨ i = 4 ∨ i = 5 := by omega
  rcases this with rfl | rfl | rfl | rfl | rfl | rfl <;> decide
section
variable {N M : Nat} {ρ ρ' : Nat → Int} {env : zb_N}
theorem zb_rq_ok {s b h n : an_V} {vs vb vh vn : Int} (he : zb_en N ρ env) (hs : ∀ q, zb_pi env s = some q → zb_qk N ρ q vs) (hb : ∀ q, zb_pi env b = some q → zb_qk N ρ q vb) (hh : ∀ q, zb_pi env h = some q → zb_qk N ρ q vh) (hn : ∀ q, zb_pi env n = some q → zb_qk N ρ q vn) (ht : zb_rq env s b h n = true) : zb_Rl vs vb vh vn := by
  unfold zb_rq at ht
  split at ht
  case h_2 => cases ht
  case h_1 qs qb qh qn e1 e2 e3 e4 =>
  have ks := hs qs e1
  have kb := hb qb e2
  have kh := hh qh e3
  have kn := hn qn e4
  have s1 := ks.1
  have s2 := ks.2.1
  have h1 := kh.1
  have h2 := kh.2.1
  rw [Bool.or_eq_true] at ht
  rcases ht with ht | ht
  · have t1 := an_and ht
    have t2 := an_and t1.2
    have t3 := an_and t2.2
    have u1 := zb_le_of t1.1
    have u2 := zb_le_of t2.1
    have u3 := zb_le_of t3.1
    have u4 := zb_le_of t3.2
    exact Or.inl ⟨by omega, by omega⟩
  rw [Bool.or_eq_true] at ht
  rcases ht with ht | ht
  · have t1 := an_and ht
    have t2 := an_and t1.2
    have t3 := an_and t2.2
    have t4 := an_and t3.2
    have t5 := an_and t4.2
    have u1 := zb_le_of t1.1
    have u2 := zb_le_of t2.1
    have u3 := zb_le_of t3.1
    have u4 := zb_ent_ok he t4.1 kh kn
    have u5 := zb_ent_ok he t5.1 kb kh
    have u6 := zb_ent_ok he t5.2 kh kb
    exact Or.inr (Or.inl ⟨by omega, by omega, by omega, by omega⟩)
  · have t1 := an_and ht
    have t2 := an_and t1.2
    have t3 := an_and t2.2
    have u1 := zb_le_of t1.1
    have u2 := zb_le_of t2.1
    have u3 := zb_ent_ok he t3.1 kh ks
    have u4 := zb_ent_ok he t3.2 ks kh
    exact Or.inr (Or.inr ⟨by omega, by omega, by omega⟩)
theorem zb_same_ok {v : an_V} {k : Nat} {q : zb_q} {z : Int} (h : zb_same v k = true) (hq : zb_pi env v = some q) (hk : zb_qk N ρ q z) : z = ρ k := by
  unfold zb_same at h
  split at h
  case h_2 => cases h
  case h_1 j c =>
  have h := an_and h
  have e1 := Nat.eq_of_beq_eq_true h.1
  have e2 := zb_ieq_of h.2
  have hq : (match zb_nth env.1 j.toNat with
    | some b => some (some (j.toNat, c), b.1 + c, b.2 + c)
    | none => none) = some q := hq
  split at hq
  case h_2 => cases hq
  case h_1 b hb =>
  cases hq
  have g := (hk.2.2 j.toNat c rfl).2
  rw [e1] at g
  omega
theorem zb_pi_I {v : an_V} {w : Value} (he : zb_en N ρ env) (hv : zb_g N ρ v w) (h : zb_isI v = true) : ∃ q, zb_pi env v = some q := by
  rcases v with v | ⟨k, x, y⟩
  · cases h
  · match k, h, hv with
    | 0, _, hv =>
      obtain ⟨h1, -⟩ := hv
      have : x.toNat < env.1.length := by rw [he.1]; exact h1
      refine ⟨(some (x.toNat, y), (env.1[x.toNat]).1 + y, (env.1[x.toNat]).2 + y), ?_⟩
      show (match zb_nth env.1 x.toNat with
        | some b => some (some (x.toNat, y), b.1 + y, b.2 + y)
        | none => none) = _
      rw [zb_nth_eq, List.getElem?_eq_getElem this]
    | 1, _, _ => exact ⟨_, rfl⟩
    | k + 2, h, _ => cases h
end
/-- a turn's end: the shelves are held alike -/
theorem zb_rend_ok {N M : Nat} {ρ ρ' : Nat → Int} {env : zb_N} {D : zb_D} {L1 : rf_L} {st1 : List Value} {σ1 : rf_S} {srcs : List (Nat × Nat)} (he : zb_en M ρ' env) (hσ : zb_ss zb_tL 90 D M ρ' σ1) (hD : D.length = 90) (hN : 98 ≤ N) (hNM : N ≤ M) (hag : zb_ag N ρ ρ') (hsr : ∀ s, s < 90 → srcs[8 + s - 1]? = some (1, s)) (h0 : zb_RI ρ) (h : zb_rend env D = true) : zb_RI (zb_rA zb_locL 1 ρ' srcs L1 st1 σ1) := by
  intro d hd
  have g := zb_every_ok h d (zb_mem6 hd)
  unfold zb_rdd at g
  split at g
  case h_2 => cases g
  case h_1 s b h n e1 e2 e3 e4 =>
  rw [zb_nth_eq] at e1 e2 e3 e4
  have val : ∀ (x : Nat) (v : an_V), x < 90 → D[x]? = some v → ∃ w, zb_g M ρ' v w ∧ zb_rA zb_locL 1 ρ' srcs L1 st1 σ1 (8 + x) = zb_int (some w) := fun x v hx hv => by
    obtain ⟨w, w1, w2⟩ := zb_scal (ns := 90) (L' := L1) (st' := st1) zb_hlcL hD hσ hv
    refine ⟨w, w2, ?_⟩
    unfold zb_rA
    rw [if_neg (by omega), hsr x hx]
    show zb_int (zb_cw zb_locL L1 st1 σ1 (1, x)) = _
    rw [w1]
  obtain ⟨ws, s1, s2⟩ := val _ _ (by omega) e1
  obtain ⟨wb, b1, b2⟩ := val _ _ (by omega) e2
  obtain ⟨wh, h1, h2⟩ := val _ _ (by omega) e3
  obtain ⟨wn, n1, n2⟩ := val _ _ (by omega) e4
  have qk : ∀ (v : an_V) (w : Value), zb_g M ρ' v w → ∀ q, zb_pi env v = some q → zb_qk M ρ' q (zb_int (some w)) := fun v w hw q hq => by
    obtain ⟨x, rfl, hx⟩ := zb_pi_ok he hq hw
    exact hx
  rw [s2, b2, h2, n2]
  rw [Bool.or_eq_true] at g
  rcases g with g | g
  · have g0 := an_and g
    have g1 := an_and g0.1
    have g2 := an_and g1.2
    have eq1 : ∀ (v : an_V) (w : Value) (k : Nat), k < 98 → zb_g M ρ' v w → zb_same v k = true → zb_int (some w) = ρ k := fun v w k hk hw hv => by
      have hI : zb_isI v = true := by
        unfold zb_same at hv
        split at hv
        case h_1 => rfl
        case h_2 => cases hv
      obtain ⟨q, hq⟩ := zb_pi_I he hw hI
      rw [zb_same_ok hv hq (qk v w hw q hq), hag k (by omega)]
    rw [eq1 _ _ _ (by omega) s1 g1.1, eq1 _ _ _ (by omega) b1 g2.1, eq1 _ _ _ (by omega) h1 g2.2]
    have hgr : ρ (8 + 17) ≤ zb_int (some wn) := by
      have g3 := g0.2
      unfold zb_grow at g3
      split at g3
      case h_2 => cases g3
      case h_1 p q hp hq =>
      have kq := qk _ _ n1 q hq
      have hlt : 8 + 17 < env.1.length := by rw [he.1]; omega
      have hp2 : (match zb_nth env.1 (8 + 17) with
        | some b => some (some (8 + 17, (0 : Int)), b.1 + 0, b.2 + 0)
        | none => none) = some p := hp
      rw [zb_nth_eq, List.getElem?_eq_getElem hlt] at hp2
      cases hp2
      have hb := he.2.1 (8 + 17) _ (List.getElem?_eq_getElem hlt)
      have kp : zb_qk M ρ' (some (8 + 17, (0 : Int)), (env.1[8 + 17]).1 + 0, (env.1[8 + 17]).2 + 0) (ρ' (8 + 17)) := ⟨by dsimp only; omega, by dsimp only; omega, fun k c hkc => by
        cases hkc
        exact ⟨by omega, by omega⟩⟩
      have := zb_ent_ok he g3 kp kq
      have e := hag (8 + 17) (by omega)
      omega
    rcases h0 d hd with hh | ⟨r1, r2, r3, r4⟩ | hh
    · exact Or.inl hh
    · exact Or.inr (Or.inl ⟨r1, r2, by omega, r4⟩)
    · exact Or.inr (Or.inr hh)
  · exact zb_rq_ok he (qk _ _ s1) (qk _ _ b1) (qk _ _ h1) (qk _ _ n1) g
/-! a start split by what a shelf holds -/
theorem zb_ss_upd1 {T : zb_T} {len N : Nat} {ρ : Nat → Int} {D : zb_D} {σ : rf_S} {s : Nat} {a a' : an_V} (h : zb_ss T len D N ρ σ) (hs : D[s]? = some a) (ha : ∀ w, zb_g N ρ a w → zb_g N ρ a' w) : zb_ss T len (zb_upd D s a') N ρ σ := by
  have key : ∀ (x : Nat) (b : an_V) (w : Value), D[x]? = some b → zb_g N ρ b w → ∃ b', (zb_upd D s a')[x]? = some b' ∧ zb_g N ρ b' w := fun x b w hx hb => by
    rw [zb_upd_eq, List.getElem?_set]
    by_cases e : s = x
    · subst e
      rw [if_pos rfl, if_pos (List.getElem?_eq_some_iff.mp hs).1]
      rw [hs] at hx
      cases hx
      exact ⟨a', rfl, ha w hb⟩
    · rw [if_neg e]
      exact ⟨b, hx, hb⟩
  refine ⟨h.1, fun r t ht => ?_⟩
  obtain ⟨o, h1, h2⟩ := h.2 r t ht
  refine ⟨o, h1, ?_⟩
  rcases t with ⟨k, n, d⟩ | ⟨ci, ds⟩
  · have h2 : zb_rw D N ρ k n d o := h2
    show zb_rw (zb_upd D s a') N ρ k n d o
    unfold zb_rw at h2 ⊢
    split at h2
    case h_1 =>
      obtain ⟨g1, f, g2, g3⟩ := h2
      refine ⟨g1, f, g2, fun j hj => ?_⟩
      obtain ⟨b, b1, b2⟩ := g3 j hj
      exact key _ _ _ b1 b2
    case h_2 => exact h2
  · rcases o with o | ⟨cj, fs⟩
    · exact h2.elim
    · refine ⟨h2.1, h2.2.1, fun c g hg => ?_⟩
      obtain ⟨w, w1, w2⟩ := h2.2.2 c g hg
      refine ⟨w, w1, ?_⟩
      obtain ⟨k, x, v⟩ := g
      match k, w2 with
      | 0, w2 =>
        obtain ⟨b, b1, b2⟩ := w2
        exact key _ _ _ b1 b2
      | k + 1, w2 => exact w2
theorem zb_en_cons {N : Nat} {ρ : Nat → Int} {bs : List (Int × Int)} {fs : List zb_F} {f : zb_F} (h : zb_en N ρ (bs, fs)) (hf : zb_fk N ρ f) : zb_en N ρ (bs, f :: fs) := ⟨h.1, h.2.1, fun g hg => by
  rcases List.mem_cons.mp hg with e | e
  · rw [e]; exact hf
  · exact h.2.2 g e⟩
/-- the starts: shelf d (number 2) holds nothing, a taking, a row -/
noncomputable def zb_sA (d : Nat) (al : Nat) : zb_N × zb_D := match al with
  | 0 => ((zb_upd (zb_upd (zb_upd zb_LC.1.1 2 (Int.ofNat d, Int.ofNat d)) (8 + (66 + d)) (-1, -1)) (8 + (60 + d)) (-1, -1), zb_LC.1.2), zb_LC.2.2.2.1)
  | 1 => ((zb_upd (zb_upd (zb_upd zb_LC.1.1 2 (Int.ofNat d, Int.ofNat d)) (8 + (66 + d)) (9, 9)) (8 + (60 + d)) (0, 49), (0, 8 + (60 + d), 8 + 17, -1) :: zb_LC.1.2), zb_upd zb_LC.2.2.2.1 (78 + d) (.inr (0, Int.ofNat (8 + (60 + d)), 0)))
  | _ => ((zb_upd (zb_upd (zb_upd zb_LC.1.1 2 (Int.ofNat d, Int.ofNat d)) (8 + (66 + d)) (0, 4)) (8 + (60 + d)) (50, 54), zb_LC.1.2), zb_upd zb_LC.2.2.2.1 (60 + d) (.inr (0, Int.ofNat (8 + (66 + d)), 50)))
noncomputable def zb_sO (al : Nat) : zb_N × zb_D := match al with
  | 0 => ((zb_upd zb_LC.1.1 2 (zb_lo32, -1), zb_LC.1.2), zb_LC.2.2.2.1)
  | _ => ((zb_upd zb_LC.1.1 2 (6, zb_hi32), zb_LC.1.2), zb_LC.2.2.2.1)
noncomputable def zb_stN : List (zb_N × zb_D) := [zb_sO 0, zb_sO 1, zb_sA 0 0, zb_sA 0 2, zb_sA 1 0, zb_sA 1 2, zb_sA 2 0, zb_sA 2 2, zb_sA 3 0, zb_sA 3 2, zb_sA 4 0, zb_sA 4 2, zb_sA 5 0, zb_sA 5 2]
noncomputable def zb_kD (d : Nat) : Bool := (match zb_nth zb_LC.2.2.2.1 (78 + d) with
  | some v => zb_same v (8 + (78 + d))
  | none => false) && (match zb_nth zb_LC.2.2.2.1 (60 + d) with
  | some v => zb_same v (8 + (60 + d))
  | none => false)
set_option maxRecDepth 100000 in
theorem zb_kD_all : (List.range 6).all zb_kD = true := by decide +kernel
section
variable {ρ : Nat → Int} {σ : rf_S}
theorem zb_reD {k k' : Nat} {c : Int} {v : an_V} (hv : zb_same v k = true) (hk' : k' < 98) (he : ρ k = ρ k' + c) : ∀ w, zb_g 98 ρ v w → zb_g 98 ρ (.inr (0, Int.ofNat k', c)) w := fun w hw => by
  unfold zb_same at hv
  split at hv
  case h_2 => cases hv
  case h_1 j d =>
  have hv := an_and hv
  have e1 := Nat.eq_of_beq_eq_true hv.1
  have e2 := zb_ieq_of hv.2
  obtain ⟨-, x, rfl, hx⟩ := hw
  refine ⟨hk', x, rfl, ?_⟩
  show x.toInt = ρ k' + c
  rw [e1] at hx
  omega
theorem zb_st6_ok (he : zb_en 98 ρ zb_LC.1) (hσ : zb_ss zb_tL 90 zb_LC.2.2.2.1 98 ρ σ) (hR : zb_RI ρ) : (∃ c, c ∈ zb_stN ∧ zb_en 98 ρ c.1 ∧ zb_ss zb_tL 90 c.2 98 ρ σ) ∨ ∃ d, d < 6 ∧ 0 ≤ ρ (8 + (60 + d)) ∧ ρ (8 + (60 + d)) ≤ 49 ∧ zb_en 98 ρ (zb_sA d 1).1 ∧ zb_ss zb_tL 90 (zb_sA d 1).2 98 ρ σ := by
  have b2 := he.2.1 2 (zb_lo32, zb_hi32) rfl
  by_cases h1 : ρ 2 < 0
  · exact Or.inl ⟨zb_sO 0, List.mem_of_getElem? (i := 0) rfl, zb_en_upd he b2.1 (by show ρ 2 ≤ (-1 : Int); omega), hσ⟩
  by_cases h2 : 5 < ρ 2
  · exact Or.inl ⟨zb_sO 1, List.mem_of_getElem? (i := 1) rfl, zb_en_upd he (by show (6 : Int) ≤ ρ 2; omega) b2.2, hσ⟩
  obtain ⟨d, hd⟩ : ∃ d : Nat, ρ 2 = (d : Int) := ⟨(ρ 2).toNat, by omega⟩
  have hd6 : d < 6 := by omega
  have e1 : zb_en 98 ρ (zb_upd zb_LC.1.1 2 (Int.ofNat d, Int.ofNat d), zb_LC.1.2) := zb_en_upd he (by show (d : Int) ≤ ρ 2; omega) (by show ρ 2 ≤ (d : Int); omega)
  have kd := an_and (List.all_eq_true.mp zb_kD_all d (List.mem_range.mpr hd6))
  have mem : ∀ al, al = 0 ∨ al = 2 → zb_sA d al ∈ zb_stN := fun al h3 => by
    have h6 : d = 0 ∨ d = 1 ∨ d = 2 ∨ d = 3 ∨ d = 4 ∨ d = 5 := by omega
    rcases h6 with rfl | rfl | rfl | rfl | rfl | rfl <;> rcases h3 with rfl | rfl
    · exact List.mem_of_getElem? (i := 2) rfl
    · exact List.mem_of_getElem? (i := 3) rfl
    · exact List.mem_of_getElem? (i := 4) rfl
    · exact List.mem_of_getElem? (i := 5) rfl
    · exact List.mem_of_getElem? (i := 6) rfl
    · exact List.mem_of_getElem? (i := 7) rfl
    · exact List.mem_of_getElem? (i := 8) rfl
    · exact List.mem_of_getElem? (i := 9) rfl
    · exact List.mem_of_getElem? (i := 10) rfl
    · exact List.mem_of_getElem? (i := 11) rfl
    · exact List.mem_of_getElem? (i := 12) rfl
    · exact List.mem_of_getElem? (i := 13) rfl
  have kb := kd.1
  have kh := kd.2
  split at kb
  case h_2 => cases kb
  case h_1 vb hvb =>
  split at kh
  case h_2 => cases kh
  case h_1 vh hvh =>
  rw [zb_nth_eq] at hvb hvh
  have bn := he.2.1 (8 + 17) (.ofNat 0, .ofNat 50) rfl
  have bn : ρ (8 + 17) ≤ (50 : Int) := bn.2
  rcases hR d hd6 with ⟨r1, r2⟩ | ⟨r1, r2, r3, r4⟩ | ⟨r1, r2, r3⟩
  · exact Or.inl ⟨zb_sA d 0, mem 0 (Or.inl rfl), zb_en_upd (zb_en_upd e1 (by show (-1 : Int) ≤ _; omega) (by show _ ≤ (-1 : Int); omega)) (by show (-1 : Int) ≤ _; omega) (by show _ ≤ (-1 : Int); omega), hσ⟩
  · exact Or.inr ⟨d, hd6, r2, by omega, zb_en_cons (zb_en_upd (zb_en_upd e1 (by show (9 : Int) ≤ _; omega) (by show _ ≤ (9 : Int); omega)) (by show (0 : Int) ≤ _; omega) (by show _ ≤ (49 : Int); omega)) ⟨by omega, by decide, by show _ ≤ _ + (-1 : Int); omega⟩, zb_ss_upd1 hσ hvb (zb_reD kb (by omega) (by omega))⟩
  · exact Or.inl ⟨zb_sA d 2, mem 2 (Or.inr rfl), zb_en_upd (zb_en_upd e1 (by show (0 : Int) ≤ _; omega) (by show _ ≤ (4 : Int); omega)) (by show (50 : Int) ≤ _; omega) (by show _ ≤ (54 : Int); omega), zb_ss_upd1 hσ hvh (zb_reD kh (by omega) (by omega))⟩
end
