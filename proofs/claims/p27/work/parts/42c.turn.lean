/-! a turn of the law -/
/-- what speaks of numbers that are the same in both -/
def zb_np (p : Nat → Bool) : an_V → Bool
  | .inr (0, k, _) => p k.toNat
  | .inr (3, k, _) => p k.toNat
  | _ => true
def zb_cg (p : Nat → Bool) (M : Nat) (ρ ρ' : Nat → Int) : Prop := ∀ k, p k = true → k < M ∧ ρ' k = ρ k
section
variable {N M : Nat} {ρ ρ' : Nat → Int} {p : Nat → Bool}
theorem zb_g_cg {a : an_V} {w : Value} (hr : zb_cg p M ρ ρ') (h : zb_g N ρ a w) (hM : zb_np p a = true) : zb_g M ρ' a w := by
  unfold zb_g at h
  split at h
  · exact h
  · obtain ⟨-, x, rfl, h2⟩ := h
    obtain ⟨r1, r2⟩ := hr _ hM
    exact ⟨r1, x, rfl, by rw [r2]; exact h2⟩
  · exact h
  · exact h
  · obtain ⟨-, x, rfl, h2⟩ := h
    obtain ⟨r1, r2⟩ := hr _ hM
    exact ⟨r1, x, rfl, by rw [r2]; exact h2⟩
  · exact h
  · exact h
  · exact h.elim
theorem zb_ss_cg {T : zb_T} {len : Nat} {D : zb_D} {σ : rf_S} (hr : zb_cg p M ρ ρ') (h : zb_ss T len D N ρ σ) (hM : zb_every (zb_np p) D = true) : zb_ss T len D M ρ' σ := by
  refine ⟨h.1, fun r t ht => ?_⟩
  obtain ⟨o, h1, h2⟩ := h.2 r t ht
  refine ⟨o, h1, ?_⟩
  rcases t with ⟨k, n, d⟩ | ⟨ci, ds⟩
  · have h2 : zb_rw D N ρ k n d o := h2
    show zb_rw D M ρ' k n d o
    unfold zb_rw at h2 ⊢
    split at h2
    case h_1 =>
      obtain ⟨g1, f, g2, g3⟩ := h2
      refine ⟨g1, f, g2, fun j hj => ?_⟩
      obtain ⟨a, a1, a2⟩ := g3 j hj
      exact ⟨a, a1, zb_g_cg hr a2 (zb_every_ok hM a (List.mem_of_getElem? a1))⟩
    case h_2 => exact h2
  · rcases o with o | ⟨cj, fs⟩
    · exact h2.elim
    · refine ⟨h2.1, h2.2.1, fun c g hg => ?_⟩
      obtain ⟨w, w1, w2⟩ := h2.2.2 c g hg
      refine ⟨w, w1, ?_⟩
      obtain ⟨k, s, v⟩ := g
      match k, w2 with
      | 0, w2 =>
        obtain ⟨a, a1, a2⟩ := w2
        exact ⟨a, a1, zb_g_cg hr a2 (zb_every_ok hM a (List.mem_of_getElem? a1))⟩
      | k + 1, w2 => exact w2
def zb_fg (p : Nat → Bool) (f : zb_F) : Bool := Nat.ble f.1 4 && (p f.2.1 && (p f.2.2.1 && [0, 1, 2, 3, 4, 5, 6].all (fun i => bif Nat.beq f.1 3 then p (f.2.2.1 + i) else true)))
theorem zb_fk_cg {f : zb_F} (hr : zb_cg p M ρ ρ') (h : zb_fk N ρ f) (hM : zb_fg p f = true) : zb_fk M ρ' f := by
  obtain ⟨k, a, b, c⟩ := f
  have h0 := an_and hM
  have h1 := an_and h0.2
  have h2 := an_and h1.2
  obtain ⟨a1, a2⟩ := hr a h1.1
  obtain ⟨b1, b2⟩ := hr b h2.1
  match k, h, h2.2, h0.1 with
  | k + 5, _, _, h4 => exact absurd (Nat.le_of_ble_eq_true h4 : k + 5 ≤ 4) (by omega)
  | 0, h, _, _ => exact ⟨a1, b1, by rw [a2, b2]; exact h.2.2⟩
  | 1, h, _, _ => exact ⟨a1, b1, h.2.2.1, by rw [b2]; exact h.2.2.2.1, by rw [a2, b2]; exact h.2.2.2.2⟩
  | 2, h, _, _ => exact ⟨a1, b1, by rw [a2, b2]; exact h.2.2⟩
  | 3, h, h3, _ =>
    have g : ∀ i, i < 7 → b + i < M ∧ ρ' (b + i) = ρ (b + i) := fun i hi => hr _ (List.all_eq_true.mp h3 i (zb_mem7 hi))
    exact ⟨a1, (g 6 (by omega)).1, zb_Jv_eq a2 (fun i hi => (g i hi).2) h.2.2⟩
  | 4, h, _, _ => exact ⟨a1, b1, h.2.2.1, by rw [b2]; exact h.2.2.2.1, by rw [a2, b2]; exact h.2.2.2.2⟩
end
/-- the ways of a switch -/
theorem zb_sw_in (d : Nat) (x : Int) : ∀ sw : List (Int × Nat), rf_sw sw d x = d ∨ rf_sw sw d x ∈ sw.map (·.2)
  | [] => Or.inl rfl
  | (k, t) :: r => by
    have e : rf_sw ((k, t) :: r) d x = (bif decide (x = k) then t else rf_sw r d x) := rfl
    cases hc : decide (x = k) with
    | true => rw [e, hc, cond_true]; exact Or.inr List.mem_cons_self
    | false =>
      rw [e, hc, cond_false]
      rcases zb_sw_in d x r with h | h
      · exact Or.inl h
      · exact Or.inr (List.mem_cons_of_mem _ h)
set_option maxRecDepth 100000 in
theorem zb_srs : (List.range 90).all (fun s => decide (zb_LH.2.2.2.2[8 + s - 1]? = some (1, s))) = true := by decide +kernel
theorem zb_srs_ok : ∀ s, s < 90 → zb_LH.2.2.2.2[8 + s - 1]? = some (1, s) := fun s hs => of_decide_eq_true (List.all_eq_true.mp zb_srs s (List.mem_range.mpr hs))
theorem zb_RI_ext {ρ ρ' : Nat → Int} (hag : zb_ag 98 ρ ρ') (h : zb_RI ρ) : zb_RI ρ' := fun d hd => by
  rw [hag _ (by omega), hag _ (by omega), hag _ (by omega), hag _ (by omega)]
  exact h d hd
theorem zb_lwPw : ∀ q, zb_has zb_lw q = false → zb_has zb_lwP q = false := by
  intro q h
  cases hc : zb_has zb_lwP q with
  | false => rfl
  | true =>
    have h1 : ∀ q, q ∈ zb_lwP → zb_has zb_lw q = true := by decide +kernel
    rw [h1 q (zb_has_ok hc)] at h
    cases h
section
variable {LL : Nat} {xs : Nat → Int32} {ρ : Nat → Int} {L' : rf_L} {σ : rf_S} {u v : Nat} {post : rf_P}
theorem zb_turn (hLL : LL < 2 ^ 31) {t : Nat} {c : zb_N × zb_D} (ht : zb_ctst t c = true) (a1 : zb_en 98 ρ c.1) (a2 : zb_gL 98 ρ zb_LC.2.1 L') (a4 : zb_ss zb_tL 90 c.2 98 ρ σ) (hs : zb_hs LL xs 98 ρ) (hR : zb_RI ρ) (hC : zc_CS ρ σ) (hu : u ≤ 600000) (hv : v ≤ 7302250)
    (hnext : ∀ ρ1 L1 σ1, zb_am zb_tL 90 zb_LH 98 ρ1 L1 [] σ1 → zb_RI ρ1 → zc_CS ρ1 σ1 → ρ1 0 = ρ 0 → ρ1 7 = ρ 7 + 6 → zb_W (rf_SA LL xs) rf_ms (rf_run (rf_SA LL xs) rf_ms (900 + 8)) rf_law 18 L1 [] σ1 u v post) : zb_W (rf_SA LL xs) rf_ms (rf_run (rf_SA LL xs) rf_ms (900 + 8)) rf_law t L' [] σ u v post := by
  unfold zb_ctst at ht
  split at ht
  case h_2 => cases ht
  case h_1 cs hcs =>
  have hS : zb_sok zb_tL 90 (zb_has zb_lw) 98 ρ σ zb_lS (rf_run (rf_SA LL xs) rf_ms (900 + 1)) := zb_SL_ok (wl' := zb_lwP) zb_relL (by decide +kernel) zb_lwPw (fun σ0' => zb_S_ok (ns := 66) (d1 := 900) (T0 := 8) zb_hloc zb_hlc zb_nX_ok (fun b p hp => by
    have hp : p ∈ zb_SP b := by
      rcases zb_tr hp with ⟨-, h⟩ | ⟨-, h⟩
      · exact zb_no h
      · exact h
    exact ⟨(zb_iall (xs := xs) hLL b p hp).1, zb_sums hLL _ b p hp⟩) (by
    show _ = (0 * ρ 0 + 909 : Int)
    omega))
  refine zb_body_ok (wr := zb_has zb_lw) (n0 := 98) (ρ0 := ρ) (σ0 := σ) (sl := (true, zb_lsl t)) (by decide) hLL zb_hlocL (fun _ => hs) (fun b As σ p q => rf_run_post _ _ _ b As σ p q) (rf_run_det _ _ _) (zb_run_ok (by decide) hLL zb_hlocL (fun _ => hs) hS 8) hu hv 3000 true (c.1, t, zb_LC.2.1, [], c.2) cs 98 ρ L' [] σ hcs a1 a2 trivial a4 ⟨Nat.le_refl _, zb_ag_refl _ _, fun _ _ => rfl⟩ (fun e he => ?_) (fun e he M ρ' L1 st1 σ1 b1 b2 b3 b4 b5 b6 b7 b8 => ?_)
  · have g := List.all_eq_true.mp ht _ he
    cases g
  · have g := List.all_eq_true.mp ht _ he
    have g := an_and (show (Nat.beq e.2.1 18 && ((Nat.beq e.2.2.2.2.length 90 && (zb_rend e.1 e.2.2.2.2 && zc_csz e.1 e.2.2.2.2)) && (match zb_fitA 1 e zb_LH with
      | some ds => (match zb_nth ds 6 with
        | some (.inr (0, k, c)) => Nat.beq k.toNat 7 && zb_ieq c 6
        | _ => false)
      | none => false))) = true from g)
    have e18 : e.2.1 = 18 := Nat.eq_of_beq_eq_true g.1
    have g1 := an_and g.2
    have g4 := an_and g1.1
    have g5 := an_and g4.2
    have g2 := g1.2
    split at g2
    case h_2 => cases g2
    case h_1 ds hds =>
    split at g2
    case h_2 => cases g2
    case h_1 k c hk =>
    have g3 := an_and g2
    have ek := Nat.eq_of_beq_eq_true g3.1
    have ec := zb_ieq_of g3.2
    subst ec
    rw [zb_nth_eq] at hk
    obtain ⟨hd, hm, hl⟩ := zb_fitA_ok (ns := 90) zb_hlocL zb_hlcL rfl (by omega : 1 ≤ M) b1 b2 b3 b4 hds
    rw [e18]
    have est := zb_gl_nil hm.2.2.1
    subst est
    refine hnext _ L1 σ1 hm (zb_rend_ok (N := 98) b1 b4 (Nat.eq_of_beq_eq_true g4.1) (Nat.le_refl _) b5 b6 zb_srs_ok hR g5.1) (zc_keep b1 b4 (Nat.eq_of_beq_eq_true g4.1) zb_srs_ok b6 (Nat.le_refl _) hC (b7 61 (by decide +kernel)) (b7 88 (by decide +kernel)) g5.2) ?_ ?_
    · rw [zb_rA_lt (by decide)]
      exact b6 0 (by decide)
    · obtain ⟨w, w1, w2⟩ := hd.2.2 6 (0, 3) _ rfl hk
      obtain ⟨-, x, rfl, hx⟩ := w2
      have e7 : zb_rA zb_locL 1 ρ' zb_LH.2.2.2.2 L1 [] σ1 7 = x.toInt := by
        unfold zb_rA
        rw [if_neg (by decide)]
        show zb_int ((some ((0, 3) : Nat × Nat)).bind (zb_cw zb_locL L1 [] σ1)) = _
        show zb_int (zb_cw zb_locL L1 [] σ1 (0, 3)) = _
        rw [w1]
        rfl
      rw [e7, hx, ek, b6 7 (by decide)]
end
