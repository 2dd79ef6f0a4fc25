/-! a richer table: rows of the poorer one whose elements are scalars here, behind the others -/
def zb_tlt (n : Nat) : (Nat × Nat × an_V) ⊕ (Nat × List zb_G) → Bool
  | .inl (_, m, .inr (9, b, _)) => Nat.ble (b.toNat + m) n
  | .inl _ => true
  | .inr (_, ds) => ds.all (fun g => match g with
    | (0, s, _) => Nat.blt s n
    | _ => true)
section
variable {N M : Nat} {ρ ρ' : Nat → Int} {D D2 E : zb_D}
theorem zb_ob_take {n : Nat} {t : (Nat × Nat × an_V) ⊕ (Nat × List zb_G)} {o : va_E} (h : zb_ob D N ρ t o) (ht : zb_tlt n t = true) : zb_ob (D.take n) N ρ t o := by
  rcases t with ⟨k, m, d⟩ | ⟨ci, ds⟩
  · have h : zb_rw D N ρ k m d o := h
    show zb_rw (D.take n) N ρ k m d o
    unfold zb_rw at h ⊢
    split at h
    case h_2 => exact h
    case h_1 b y x =>
      have hb : b.toNat + m ≤ n := Nat.le_of_ble_eq_true ht
      obtain ⟨g1, f, g2, g3⟩ := h
      refine ⟨g1, f, g2, fun j hj => ?_⟩
      obtain ⟨a, a1, a2⟩ := g3 j hj
      exact ⟨a, by rw [List.getElem?_take_of_lt (by omega)]; exact a1, a2⟩
  · rcases o with o | ⟨cj, fs⟩
    · exact h.elim
    · refine ⟨h.1, h.2.1, fun c g hg => ?_⟩
      obtain ⟨w, w1, w2⟩ := h.2.2 c g hg
      refine ⟨w, w1, ?_⟩
      have hs := List.all_eq_true.mp ht g (List.mem_of_getElem? hg)
      obtain ⟨k, s, v⟩ := g
      match k, w2, hs with
      | 0, w2, hs =>
        obtain ⟨a, a1, a2⟩ := w2
        have hs : s < n := Nat.le_of_ble_eq_true hs
        exact ⟨a, by rw [List.getElem?_take_of_lt hs]; exact a1, a2⟩
      | k + 1, w2, _ => exact w2
theorem zb_app_at {s : Nat} {a : an_V} (h : D2[s]? = some a) : (D2 ++ E)[s]? = some a := by
  rw [List.getElem?_append_left (List.getElem?_eq_some_iff.mp h).1]
  exact h
theorem zb_ob_app {t : (Nat × Nat × an_V) ⊕ (Nat × List zb_G)} {o : va_E} (h : zb_ob D2 N ρ t o) : zb_ob (D2 ++ E) N ρ t o := by
  rcases t with ⟨k, m, d⟩ | ⟨ci, ds⟩
  · have h : zb_rw D2 N ρ k m d o := h
    show zb_rw (D2 ++ E) N ρ k m d o
    unfold zb_rw at h ⊢
    split at h
    case h_2 => exact h
    case h_1 b x =>
      obtain ⟨g1, f, g2, g3⟩ := h
      refine ⟨g1, f, g2, fun j hj => ?_⟩
      obtain ⟨a, a1, a2⟩ := g3 j hj
      exact ⟨a, zb_app_at a1, a2⟩
  · rcases o with o | ⟨cj, fs⟩
    · exact h.elim
    · refine ⟨h.1, h.2.1, fun c g hg => ?_⟩
      obtain ⟨w, w1, w2⟩ := h.2.2 c g hg
      refine ⟨w, w1, ?_⟩
      obtain ⟨k, s, v⟩ := g
      match k, w2 with
      | 0, w2 =>
        obtain ⟨a, a1, a2⟩ := w2
        exact ⟨a, zb_app_at a1, a2⟩
      | k + 1, w2 => exact w2
end
/-- rows (number, length, first scalar, what fits in the poorer table) that are scalars in the richer one; n scalars in the poorer one -/
def zb_rel (n : Nat) (T T' : zb_T) (rs : List (Nat × Nat × Nat × an_V)) : Prop :=
  (∀ r, (∀ q, q ∈ rs → ¬ q.1 = r) → T' r = T r) ∧ (∀ q, q ∈ rs → T q.1 = some (.inl (0, q.2.1, q.2.2.2)) ∧ zb_nc q.2.2.2 = true ∧ n ≤ q.2.2.1 ∧ T' q.1 = some (.inl (0, q.2.1, .inr (9, ((q.2.2.1 : Nat) : Int), 0)))) ∧ ∀ r t, T r = some t → zb_tlt n t = true
noncomputable def zb_rck (env : zb_N) (D : zb_D) (rs : List (Nat × Nat × Nat × an_V)) : Bool := zb_every (fun q => zb_every (fun j => match zb_nth D (q.2.2.1 + j) with
  | some v => zb_sub env v q.2.2.2
  | none => false) (List.range q.2.1)) rs
section
variable {n len N M : Nat} {ρ ρ' : Nat → Int} {D D2 : zb_D} {T T' : zb_T} {rs : List (Nat × Nat × Nat × an_V)} {env : zb_N} {σ σ1 : rf_S}
theorem zb_in_rs (r : Nat) : (∃ q, q ∈ rs ∧ q.1 = r) ∨ ∀ q, q ∈ rs → ¬ q.1 = r := by
  by_cases h : ∃ q, q ∈ rs ∧ q.1 = r
  · exact Or.inl h
  · exact Or.inr (fun q h1 h2 => h ⟨q, h1, h2⟩)
theorem zb_cells {r m b : Nat} (h : zb_ss T' len D N ρ σ) (ht : T' r = some (.inl (0, m, .inr (9, ((b : Nat) : Int), 0)))) : ∃ f, σ[r]? = some (.inl (0, m, .inl f)) ∧ ∀ j, j < m → ∃ a, D[b + j]? = some a ∧ zb_g N ρ a (.int (f j)) := by
  obtain ⟨o, o1, o2⟩ := h.2 _ _ ht
  have o2 : zb_rw D N ρ 0 m (.inr (9, ((b : Nat) : Int), 0)) o := o2
  unfold zb_rw at o2
  obtain ⟨-, f, rfl, o3⟩ := o2
  refine ⟨f, o1, fun j hj => ?_⟩
  obtain ⟨a, a1, a2⟩ := o3 j hj
  rw [Int.toNat_natCast] at a1
  exact ⟨a, a1, a2⟩
theorem zb_poor (hrel : zb_rel n T T' rs) (he : zb_en N ρ env) (h : zb_ss T' len D N ρ σ) (hck : zb_rck env D rs = true) : zb_ss T len (D.take n) N ρ σ := by
  refine ⟨h.1, fun r t ht => ?_⟩
  rcases zb_in_rs (rs := rs) r with ⟨q, q1, q2⟩ | hno
  · subst q2
    obtain ⟨r1, r2, r3, r4⟩ := hrel.2.1 q q1
    rw [r1] at ht
    cases ht
    obtain ⟨f, f1, f2⟩ := zb_cells h r4
    refine ⟨_, f1, ?_⟩
    show zb_rw (D.take n) N ρ 0 q.2.1 q.2.2.2 _
    rw [zb_rw_nc r2]
    refine ⟨rfl, rfl, rfl, fun j hj => ?_⟩
    obtain ⟨a, a1, a2⟩ := f2 j hj
    have g := zb_every_ok (zb_every_ok hck q q1) j (List.mem_range.mpr hj)
    rw [zb_nth_eq, a1] at g
    exact zb_sub_ok he g a2
  · have ht2 : T' r = some t := by rw [hrel.1 r hno]; exact ht
    obtain ⟨o, o1, o2⟩ := h.2 r t ht2
    exact ⟨o, o1, zb_ob_take o2 (hrel.2.2 r t ht)⟩
theorem zb_back (hrel : zb_rel n T T' rs) (h : zb_ss T len D2 M ρ' σ1) (hl : D2.length = n) (h0 : zb_ss T' len D N ρ σ) (hN : N ≤ M) (hag : zb_ag N ρ ρ') (hun : ∀ q, q ∈ rs → σ1[q.1]? = σ[q.1]?) : zb_ss T' len (D2 ++ D.drop n) M ρ' σ1 := by
  refine ⟨h.1, fun r t ht => ?_⟩
  rcases zb_in_rs (rs := rs) r with ⟨q, q1, q2⟩ | hno
  · subst q2
    obtain ⟨r1, r2, r3, r4⟩ := hrel.2.1 q q1
    rw [r4] at ht
    cases ht
    obtain ⟨f, f1, f2⟩ := zb_cells h0 r4
    refine ⟨_, by rw [hun q q1]; exact f1, ?_⟩
    show zb_rw (D2 ++ D.drop n) M ρ' 0 q.2.1 (.inr (9, ((q.2.2.1 : Nat) : Int), 0)) _
    unfold zb_rw
    refine ⟨rfl, f, rfl, fun j hj => ?_⟩
    obtain ⟨a, a1, a2⟩ := f2 j hj
    refine ⟨a, ?_, zb_g_ext hN hag a2⟩
    rw [Int.toNat_natCast, List.getElem?_append_right (by omega), List.getElem?_drop, hl, show n + (q.2.2.1 + j - n) = q.2.2.1 + j by omega]
    exact a1
  · rw [hrel.1 r hno] at ht
    obtain ⟨o, o1, o2⟩ := h.2 r t ht
    exact ⟨o, o1, zb_ob_app o2⟩
end
/-- what is known over the poorer table, used over the richer one -/
noncomputable def zb_SL (n : Nat) (rs : List (Nat × Nat × Nat × an_V)) (S : zb_St) : zb_St := fun b => match S b with
  | some f => some (fun env As D => bif zb_rck env D rs then zb_bnd (f env As (D.take n)) (zb_map (fun r => bif Nat.beq r.2.2.length n then some (r.1, r.2.1, r.2.2 ++ D.drop n) else none)) else none)
  | none => none
theorem zb_SL_ok {n len n0 : Nat} {T T' : zb_T} {rs : List (Nat × Nat × Nat × an_V)} {wl wl' : List Nat} {ρ0 : Nat → Int} {σ0 : rf_S} {S : zb_St} {C : zb_K} (hrel : zb_rel n T T' rs) (hw : ∀ q, q ∈ rs → zb_has wl' q.1 = false) (hww : ∀ q, zb_has wl q = false → zb_has wl' q = false) (hS : ∀ σ0', zb_sok T len (zb_has wl') n0 ρ0 σ0' S C) : zb_sok T' len (zb_has wl) n0 ρ0 σ0 (zb_SL n rs S) C := by
  intro b env As D rs1 As' σ post N ρ h he hA hσ hH hpost
  dsimp only at h
  unfold zb_SL at h
  cases hb : S b with
  | none => rw [hb] at h; cases h
  | some f =>
    rw [hb] at h
    dsimp only at h
    obtain ⟨k1, k2⟩ := zb_cond h
    obtain ⟨rs0, k3, k4⟩ := zb_bnd_some k2
    refine hS σ b env As (D.take n) rs0 As' σ post N ρ (by dsimp only; rw [hb]; exact k3) he hA (zb_poor hrel he hσ k1) ⟨hH.1, hH.2.1, fun _ _ => rfl⟩ (fun r hr M ρ' hN hag hen rv σ1 hrv hss hun => ?_)
    obtain ⟨r2, m1, m2⟩ := zb_map_ok k4 r hr
    obtain ⟨m3, m4⟩ := zb_cond m2
    cases m4
    exact hpost _ m1 M ρ' hN hag hen rv σ1 hrv (zb_back hrel hss (Nat.eq_of_beq_eq_true m3) hσ hN hag (fun q hq => hun q.1 (hw q hq))) (fun q hq => hun q (hww q hq))
/-! the places of the scalars of any table -/
def zb_gk1 (loc : Nat → Nat × Nat) (r : Nat) : Nat → List zb_G → Bool
  | _, [] => true
  | c, g :: gs => (match g with
    | (0, s, _) => decide (loc s = (r, c))
    | _ => true) && zb_gk1 loc r (c + 1) gs
theorem zb_gk1_ok {loc : Nat → Nat × Nat} {r : Nat} : ∀ {gs : List zb_G} {c0 : Nat}, zb_gk1 loc r c0 gs = true → ∀ (c s : Nat) (v : an_V), gs[c]? = some (0, s, v) → loc s = (r, c0 + c)
  | [], _, _, c, s, v, h => by simp at h
  | g :: gs, c0, h, c, s, v, hc => by
    unfold zb_gk1 at h
    have h := an_and h
    match c, hc with
    | 0, hc =>
      simp only [List.getElem?_cons_zero, Option.some.injEq] at hc
      subst hc
      exact of_decide_eq_true h.1
    | c + 1, hc =>
      simp only [List.getElem?_cons_succ] at hc
      have := zb_gk1_ok h.2 c s v hc
      rw [this, Nat.add_assoc, Nat.add_comm 1 c]
def zb_gk2 (T : zb_T) (loc : Nat → Nat × Nat) (r : Nat) : Bool := match T r with
  | some (.inr (_, ds)) => zb_gk1 loc r 0 ds
  | some (.inl (0, n, .inr (9, b, _))) => (List.range n).all fun j => decide (loc (b.toNat + j) = (r, j))
  | _ => true
def zb_gk3 (T : zb_T) (loc : Nat → Nat × Nat) (s : Nat) : Bool := match T (loc s).1 with
  | some (.inr (_, ds)) => (match ds[(loc s).2]? with
    | some (0, t, _) => decide (t = s)
    | _ => false)
  | some (.inl (0, n, .inr (9, b, _))) => decide ((loc s).2 < n ∧ b.toNat + (loc s).2 = s)
  | _ => false
theorem zb_gloc {T : zb_T} {loc : Nat → Nat × Nat} (hT : ∀ r t, T r = some t → r < 90) (h2 : (List.range 90).all (zb_gk2 T loc) = true) : zb_loc T loc := by
  refine ⟨fun r ci ds c s v h hd => ?_, fun r n b x h j hj => ?_⟩
  · have g := List.all_eq_true.mp h2 r (List.mem_range.mpr (hT r _ h))
    unfold zb_gk2 at g
    rw [h] at g
    have := zb_gk1_ok g c s v hd
    rwa [Nat.zero_add] at this
  · have g := List.all_eq_true.mp h2 r (List.mem_range.mpr (hT r _ h))
    unfold zb_gk2 at g
    rw [h] at g
    exact of_decide_eq_true (List.all_eq_true.mp g j (List.mem_range.mpr hj))
theorem zb_glc {T : zb_T} {loc : Nat → Nat × Nat} {ns : Nat} (h3 : (List.range ns).all (zb_gk3 T loc) = true) : zb_lc2 T loc ns := by
  intro s hs
  have g := List.all_eq_true.mp h3 s (List.mem_range.mpr hs)
  unfold zb_gk3 at g
  split at g
  case h_1 ci ds h =>
    split at g
    case h_1 t v hd =>
      have e := of_decide_eq_true g
      subst e
      exact .inl ⟨ci, ds, v, h, hd⟩
    case h_2 => cases g
  case h_2 n b x h =>
    have e := of_decide_eq_true g
    exact .inr ⟨n, b, x, h, e.1, e.2⟩
  case h_3 => cases g
theorem zb_bne {r c : Nat} (h : ¬ c = r) : Nat.beq r c = false := by
  cases q : Nat.beq r c with
  | false => rfl
  | true => exact absurd (Nat.eq_of_beq_eq_true q).symm h
