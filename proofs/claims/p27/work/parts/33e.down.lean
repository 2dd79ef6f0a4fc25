/-! fewer numbers: what speaks of the first ones alone -/
def zb_nl (M : Nat) : an_V → Bool
  | .inr (0, k, _) => Nat.blt k.toNat M
  | .inr (3, k, _) => Nat.blt k.toNat M
  | _ => true
theorem zb_g_to {N M : Nat} {ρ : Nat → Int} {a : an_V} {w : Value} (h : zb_g N ρ a w) (hM : zb_nl M a = true) : zb_g M ρ a w := by
  unfold zb_g at h
  split at h
  · exact h
  · obtain ⟨-, x, rfl, h2⟩ := h; exact ⟨Nat.le_of_ble_eq_true hM, x, rfl, h2⟩
  · exact h
  · exact h
  · obtain ⟨-, x, rfl, h2⟩ := h; exact ⟨Nat.le_of_ble_eq_true hM, x, rfl, h2⟩
  · exact h
  · exact h
  · exact h.elim
theorem zb_ss_to {T : zb_T} {len N M : Nat} {D : zb_D} {ρ : Nat → Int} {σ : rf_S} (h : zb_ss T len D N ρ σ) (hM : zb_every (zb_nl M) D = true) : zb_ss T len D M ρ σ := by
  refine ⟨h.1, fun r t ht => ?_⟩
  obtain ⟨o, h1, h2⟩ := h.2 r t ht
  refine ⟨o, h1, ?_⟩
  rcases t with ⟨k, n, d⟩ | ⟨ci, ds⟩
  · have h2 : zb_rw D N ρ k n d o := h2
    show zb_rw D M ρ k n d o
    unfold zb_rw at h2 ⊢
    split at h2
    case h_1 =>
      obtain ⟨g1, f, g2, g3⟩ := h2
      refine ⟨g1, f, g2, fun j hj => ?_⟩
      obtain ⟨a, a1, a2⟩ := g3 j hj
      exact ⟨a, a1, zb_g_to a2 (zb_every_ok hM a (List.mem_of_getElem? a1))⟩
    case h_2 => exact h2
  · rcases o with o | ⟨cj, fs⟩
    · exact h2.elim
    · refine ⟨h2.1, h2.2.1, fun c g hg => ?_⟩
      obtain ⟨w, w1, w2⟩ := h2.2.2 c g hg
      refine ⟨w, w1, ?_⟩
      obtain ⟨k, s, v⟩ := g
      match k, w2 with
      | 0, w2 =>
        obtain ⟨a, a1, a2⟩ := w2
        exact ⟨a, a1, zb_g_to a2 (zb_every_ok hM a (List.mem_of_getElem? a1))⟩
      | k + 1, w2 => exact w2
def zb_fl (M : Nat) (f : zb_F) : Bool := Nat.ble f.1 4 && (Nat.blt f.2.1 M && (Nat.blt f.2.2.1 M && (bif Nat.beq f.1 3 then Nat.blt (f.2.2.1 + 6) M else true)))
theorem zb_fk_to {N M : Nat} {ρ : Nat → Int} {f : zb_F} (h : zb_fk N ρ f) (hM : zb_fl M f = true) : zb_fk M ρ f := by
  obtain ⟨k, a, b, c⟩ := f
  have h0 := an_and hM
  have h1 := an_and h0.2
  have h2 := an_and h1.2
  have ha : a < M := Nat.le_of_ble_eq_true h1.1
  have hb : b < M := Nat.le_of_ble_eq_true h2.1
  match k, h, h2.2, h0.1 with
  | k + 5, _, _, h4 => exact absurd (Nat.le_of_ble_eq_true h4 : k + 5 ≤ 4) (by omega)
  | 0, h, _, _ => exact ⟨ha, hb, h.2.2⟩
  | 1, h, _, _ => exact ⟨ha, hb, h.2.2⟩
  | 2, h, _, _ => exact ⟨ha, hb, h.2.2⟩
  | 3, h, h3, _ =>
    have h3 : Nat.blt (b + 6) M = true := h3
    exact ⟨ha, Nat.le_of_ble_eq_true h3, h.2.2⟩
  | 4, h, _, _ => exact ⟨ha, hb, h.2.2⟩
/-- fewer numbers, in a whole environment -/
theorem zb_en_to {N M : Nat} {ρ : Nat → Int} {env env' : zb_N} (h : zb_en N ρ env) (h1 : env'.1.length = M) (h2 : ∀ k, k < M → env'.1[k]? = env.1[k]?) (h3 : ∀ f, f ∈ env'.2 → f ∈ env.2 ∧ zb_fl M f = true) : zb_en M ρ env' := by
  refine ⟨h1, fun k b hb => ?_, fun f hf => zb_fk_to (h.2.2 f (h3 f hf).1) (h3 f hf).2⟩
  have hk : k < M := by
    rw [← h1]
    exact (List.getElem?_eq_some_iff.mp hb).1
  rw [h2 k hk] at hb
  exact h.2.1 k b hb
