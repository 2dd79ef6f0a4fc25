/-! the places of the scalars are right -/
def zb_ck1 (r : Nat) : Nat → List zb_G → Bool
  | _, [] => true
  | c, g :: gs => (match g with
    | (0, s, _) => decide (zb_locT s = (r, c))
    | _ => true) && zb_ck1 r (c + 1) gs
theorem zb_ck1_ok {r : Nat} : ∀ {gs : List zb_G} {c0 : Nat}, zb_ck1 r c0 gs = true → ∀ (c s : Nat) (v : an_V), gs[c]? = some (0, s, v) → zb_locT s = (r, c0 + c)
  | [], _, _, c, s, v, h => by simp at h
  | g :: gs, c0, h, c, s, v, hc => by
    unfold zb_ck1 at h
    have h := an_and h
    match c, hc with
    | 0, hc =>
      simp only [List.getElem?_cons_zero, Option.some.injEq] at hc
      subst hc
      exact of_decide_eq_true h.1
    | c + 1, hc =>
      simp only [List.getElem?_cons_succ] at hc
      have := zb_ck1_ok h.2 c s v hc
      rw [this, Nat.add_assoc, Nat.add_comm 1 c]
def zb_ck2 (r : Nat) : Bool := match zb_tT r with
  | some (.inr (_, ds)) => zb_ck1 r 0 ds
  | some (.inl (0, n, .inr (9, b, _))) => (List.range n).all fun j => decide (zb_locT (b.toNat + j) = (r, j))
  | _ => true
def zb_ck3 (s : Nat) : Bool := match zb_tT (zb_locT s).1 with
  | some (.inr (_, ds)) => (match ds[(zb_locT s).2]? with
    | some (0, t, _) => decide (t = s)
    | _ => false)
  | some (.inl (0, n, .inr (9, b, _))) => decide ((zb_locT s).2 < n ∧ b.toNat + (zb_locT s).2 = s)
  | _ => false
theorem zb_ck2_all : (List.range 90).all zb_ck2 = true := by decide +kernel
theorem zb_ck3_all : (List.range 66).all zb_ck3 = true := by decide +kernel
theorem zb_tT_lt {r : Nat} {t} (h : zb_tT r = some t) : r < 90 := by
  rcases Nat.lt_or_ge r 90 with h1 | h1
  · exact h1
  have hb : ∀ c, c ≤ 90 → Nat.blt r c = false := fun c hc => by
    cases q : Nat.blt r c with
    | false => rfl
    | true =>
      have : r < c := Nat.le_of_ble_eq_true q
      omega
  have he : ∀ c, c < 90 → Nat.beq r c = false := fun c hc => by
    cases q : Nat.beq r c with
    | false => rfl
    | true =>
      have : r = c := Nat.eq_of_beq_eq_true q
      omega
  unfold zb_tT at h
  repeat rw [hb _ (by decide), cond_false] at h
  rw [he _ (by decide), cond_false] at h
  cases h
theorem zb_hloc : zb_loc zb_tT zb_locT := by
  refine ⟨fun r ci ds c s v h hd => ?_, fun r n b x h j hj => ?_⟩
  · have g := List.all_eq_true.mp zb_ck2_all r (List.mem_range.mpr (zb_tT_lt h))
    unfold zb_ck2 at g
    rw [h] at g
    have := zb_ck1_ok g c s v hd
    rwa [Nat.zero_add] at this
  · have g := List.all_eq_true.mp zb_ck2_all r (List.mem_range.mpr (zb_tT_lt h))
    unfold zb_ck2 at g
    rw [h] at g
    exact of_decide_eq_true (List.all_eq_true.mp g j (List.mem_range.mpr hj))
theorem zb_hlc : zb_lc2 zb_tT zb_locT 66 := by
  intro s hs
  have g := List.all_eq_true.mp zb_ck3_all s (List.mem_range.mpr hs)
  unfold zb_ck3 at g
  split at g
  case h_1 ci ds h =>
    split at g
    case h_1 t v hd =>
      have e := of_decide_eq_true g
      subst e
      exact .inl ⟨ci, ds, v, h, hd⟩
    case h_2 => cases g
  case h_2 n b x h =>
    have e := of_decide_eq_true g
    exact .inr ⟨n, b, x, h, e.1, e.2⟩
  case h_3 => cases g
