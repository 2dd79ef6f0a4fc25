/-! a turn of the law -/
/-- what speaks of numbers that are the same in both -/
def zb_np (p : Nat → Bool) : an_V → Bool
  | .inr (0, k, _) => p k.toNat
  | .inr (3, k, _) => p k.toNat
  | _ => true
def zb_cg (p : Nat → Bool) (M : Nat) (ρ ρ' : Nat → Int) : Prop := ∀ k, p k = true → k < M ∧ ρ' k = ρ k
section
variable {N M : Nat} {ρ ρ' : Nat → Int} {p : Nat → Bool}
theorem zb_g_cg {a : an_V} {w : Value} (hr : zb_cg p M ρ ρ') (h : zb_g N ρ a w) (hM : zb_np p a = true) : zb_g M ρ' a w := by
  unfold zb_g at h
  split at h
  · exact h
  · obtain ⟨-, x, rfl, h2⟩ := h
    obtain ⟨r1, r2⟩ := hr _ hM
    exact ⟨r1, x, rfl, by rw [r2]; exact h2⟩
  · exact h
  · exact h
  · obtain ⟨-, x, rfl, h2⟩ := h
    obtain ⟨r1, r2⟩ := hr _ hM
    exact ⟨r1, x, rfl, by rw [r2]; exact h2⟩
  · exact h
  · exact h
  · exact h.elim
theorem zb_ss_cg {T : zb_T} {len : Nat} {D : zb_D} {σ : rf_S} (hr : zb_cg p M ρ ρ') (h : zb_ss T len D N ρ σ) (hM : zb_every (zb_np p) D = true) : zb_ss T len D M ρ' σ := by
  refine ⟨h.1, fun r t ht => ?_⟩
  obtain ⟨o, h1, h2⟩ := h.2 r t ht
  refine ⟨o, h1, ?_⟩
  rcases t with ⟨k, n, d⟩ | ⟨ci, ds⟩
  · have h2 : zb_rw D N ρ k n d o := h2
    show zb_rw D M ρ' k n d o
    unfold zb_rw at h2 ⊢
    split at h2
    case h_1 =>
      obtain ⟨g1, f, g2, g3⟩ := h2
      refine ⟨g1, f, g2, fun j hj => ?_⟩
      obtain ⟨a, a1, a2⟩ := g3 j hj
      exact ⟨a, a1, zb_g_cg hr a2 (zb_every_ok hM a (List.mem_of_getElem? a1))⟩
    case h_2 => exact h2
  · rcases o with o | ⟨cj, fs⟩
    · exact h2.elim
    · refine ⟨h2.1, h2.2.1, fun c g hg => ?_⟩
      obtain ⟨w, w1, w2⟩ := h2.2.2 c g hg
      refine ⟨w, w1, ?_⟩
      obtain ⟨k, s, v⟩ := g
      match k, w2 with
      | 0, w2 =>
        obtain ⟨a, a1, a2⟩ := w2
        exact ⟨a, a1, zb_g_cg hr a2 (zb_every_ok hM a (List.mem_of_getElem? a1))⟩
      | k + 1, w2 => exact w2
def zb_fg (p : Nat → Bool) (f : zb_F) : Bool := p f.2.1 && (p f.2.2.1 && [0, 1, 2, 3, 4, 5, 6].all (fun i => bif Nat.beq f.1 3 then p (f.2.2.1 + i) else true))
theorem zb_fk_cg {f : zb_F} (hr : zb_cg p M ρ ρ') (h : zb_fk N ρ f) (hM : zb_fg p f = true) : zb_fk M ρ' f := by
  obtain ⟨k, a, b, c⟩ := f
  have h1 := an_and hM
  have h2 := an_and h1.2
  obtain ⟨a1, a2⟩ := hr a h1.1
  obtain ⟨b1, b2⟩ := hr b h2.1
  match k, h, h2.2 with
  | 0, h, _ => exact ⟨a1, b1, by rw [a2, b2]; exact h.2.2⟩
  | 1, h, _ => exact ⟨a1, b1, h.2.2.1, by rw [b2]; exact h.2.2.2.1, by rw [a2, b2]; exact h.2.2.2.2⟩
  | 2, h, _ => exact ⟨a1, b1, by rw [a2, b2]; exact h.2.2⟩
  | 3, h, h3 =>
    have g : ∀ i, i < 7 → b + i < M ∧ ρ' (b + i) = ρ (b + i) := fun i hi => hr _ (List.all_eq_true.mp h3 i (zb_mem7 hi))
    exact ⟨a1, (g 6 (by omega)).1, zb_Jv_eq a2 (fun i hi => (g i hi).2) h.2.2⟩
  | k + 4, h, _ => exact ⟨a1, b1, h.2.2.1, by rw [b2]; exact h.2.2.2.1, by rw [a2, b2]; exact h.2.2.2.2⟩
end
/-- the ways of a switch -/
theorem zb_sw_in (d : Nat) (x : Int) : ∀ sw : List (Int × Nat), rf_sw sw d x = d ∨ rf_sw sw d x ∈ sw.map (·.2)
  | [] => Or.inl rfl
  | (k, t) :: r => by
    have e : rf_sw ((k, t) :: r) d x = (bif decide (x = k) then t else rf_sw r d x) := rfl
    cases hc : decide (x = k) with
    | true => rw [e, hc, cond_true]; exact Or.inr List.mem_cons_self
    | false =>
      rw [e, hc, cond_false]
      rcases zb_sw_in d x r with h | h
      · exact Or.inl h
      · exact Or.inr (List.mem_cons_of_mem _ h)
