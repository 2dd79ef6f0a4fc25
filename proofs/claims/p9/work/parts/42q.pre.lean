/-! what a turn's start tells of both readers -/
section
variable {N : Nat} {ρ : Nat → Int} {D : zb_D} {σ : rf_S}
theorem zq_row {r n : Nat} {lo hi : Int} (h : zb_ss zb_tT 90 D N ρ σ) (ht : zb_tT r = some (.inl (0, n, .inr (1, lo, hi)))) : ∃ f : Nat → Int32, σ[r]? = some (.inl (0, n, .inl f)) := by
  obtain ⟨o, h1, h2⟩ := h.2 r _ ht
  have h2 : zb_ro 0 n (.inr (1, lo, hi)) o := h2
  unfold zb_ro at h2
  split at h2
  · obtain ⟨-, rfl, rfl, -⟩ := h2
    exact ⟨_, h1⟩
  · exact absurd h2.1 (by decide)
  · exact absurd h2.1 (by decide)
  · exact h2.elim
theorem zq_obj {r ci : Nat} {ds : List zb_G} (h : zb_ss zb_tT 90 D N ρ σ) (ht : zb_tT r = some (.inr (ci, ds))) : ∃ fs : List Value, σ[r]? = some (.inr (ci, fs)) ∧ zb_fos D N ρ ds fs := by
  obtain ⟨o, h1, h2⟩ := h.2 r _ ht
  rcases o with o | ⟨cj, fs⟩
  · exact h2.elim
  · obtain ⟨e, h3⟩ := (h2 : ci = cj ∧ zb_fos D N ρ ds fs)
    subst e
    exact ⟨fs, h1, h3⟩
/-- a field that is a number by name -/
theorem zq_int {ds : List zb_G} {fs : List Value} {c s : Nat} {v : an_V} {k c0 : Int} (h : zb_fos D N ρ ds fs) (hd : ds[c]? = some (0, s, v)) (hD : D[s]? = some (.inr (0, k, c0))) : ∃ x : Int32, fs[c]? = some (.int x) ∧ x.toInt = ρ k.toNat + c0 := by
  obtain ⟨w, w1, a, a1, a2⟩ := h.2 c _ hd
  rw [hD] at a1
  cases a1
  obtain ⟨-, x, rfl, hx⟩ := a2
  exact ⟨x, w1, hx⟩
theorem zq_ref {ds : List zb_G} {fs : List Value} {c s q : Nat} (h : zb_fos D N ρ ds fs) (hd : ds[c]? = some (1, s, .inl (.ref q))) : fs[c]? = some (.ref q) := by
  obtain ⟨w, w1, w2⟩ := h.2 c _ hd
  have w2 : w = .ref q := w2
  rw [w1, w2]
theorem zq_two {ds : List zb_G} {fs : List Value} {c s : Nat} {b m : Int} (h : zb_fos D N ρ ds fs) (hd : ds[c]? = some (1, s, .inr (5, b, m))) : ∃ t, t < m.toNat ∧ fs[c]? = some (.ref (b.toNat + t)) := by
  obtain ⟨w, w1, t, t1, t2⟩ := h.2 c _ hd
  exact ⟨t, t1, by rw [w1, t2]⟩
end
/-- below what is fed both tapes are alike, and bytes (number 12: how much is fed) -/
def zq_CS (ρ : Nat → Int) (σ : rf_S) : Prop := ∃ f g : Nat → Int32, σ[12]? = some (.inl (0, 120, .inl f)) ∧ σ[70]? = some (.inl (0, 120, .inl g)) ∧ ∀ j : Nat, (j : Int) < ρ 12 → f j = g j ∧ 0 ≤ (f j).toInt ∧ (f j).toInt ≤ 255
section
variable {ρ : Nat → Int} {σ : rf_S}
theorem zq_D4 : zb_LC.2.2.2.1[4]? = some (.inr (0, .ofNat 12, .ofNat 0)) := rfl
theorem zq_D24 : zb_LC.2.2.2.1[24]? = some (.inr (0, .ofNat 12, .ofNat 0)) := rfl
theorem zq_pre (he : zb_en 74 ρ zb_LC.1) (h : zb_ss zb_tT 90 zb_LC.2.2.2.1 74 ρ σ) (hC : zq_CS ρ σ) : ∃ (n : Nat) (f g : Nat → Int32) (r : Nat) (fs0 fsA fs9 : List Value), (n : Int) = ρ 12 ∧ zp_H f n fs0 r ∧ zp_K0 f fs0 r σ ∧ zm_K0 g n fsA σ ∧ σ[0]? = some (.inr (9, fs9)) ∧ fs9[1]? = some (.ref 11) ∧ zp_sg g n = zp_sg f n ∧ (∀ j, j < n → f j = g j ∧ 0 ≤ (f j).toInt ∧ (f j).toInt ≤ 255) := by
  obtain ⟨f, g, c1, c2, c3⟩ := hC
  have b12 : (0 : Int) ≤ ρ 12 ∧ ρ 12 ≤ 120 := he.2.1 12 (.ofNat 0, .ofNat 120) rfl
  obtain ⟨fs9, o1, o2⟩ := zq_obj h (r := 0) (ci := 9) rfl
  obtain ⟨fs0, p1, p2⟩ := zq_obj h (r := 11) (ci := 4) rfl
  obtain ⟨fsA, q1, q2⟩ := zq_obj h (r := 63) (ci := 10) rfl
  obtain ⟨x0, x1, x2⟩ := zq_int (c := 0) p2 rfl zq_D4
  obtain ⟨y0, y1, y2⟩ := zq_int (c := 15) q2 rfl zq_D24
  obtain ⟨t5, u5, v5⟩ := zq_two (c := 5) p2 rfl
  obtain ⟨t6, u6, v6⟩ := zq_two (c := 6) p2 rfl
  have u6 : t6 < 2 := u6
  have v6 : fs0[6]? = some (.ref (13 + t6)) := v6
  obtain ⟨g13, h13⟩ := zq_row (r := 13) h rfl
  obtain ⟨g14, h14⟩ := zq_row (r := 14) h rfl
  obtain ⟨g17, h17⟩ := zq_row (r := 17) h rfl
  obtain ⟨g71, h71⟩ := zq_row (r := 71) h rfl
  obtain ⟨g72, h72⟩ := zq_row (r := 72) h rfl
  have x2 : x0.toInt = ρ 12 + 0 := x2
  have y2 : y0.toInt = ρ 12 + 0 := y2
  have hj : ∀ j, j < (ρ 12).toNat → f j = g j ∧ 0 ≤ (f j).toInt ∧ (f j).toInt ≤ 255 := fun j hj => c3 j (by omega)
  have hrow : ∃ gr : Nat → Int32, σ[13 + t6]? = some (.inl (0, 121, .inl gr)) := by
    have : t6 = 0 ∨ t6 = 1 := by omega
    rcases this with e | e
    · rw [e]
      exact ⟨g13, h13⟩
    · rw [e]
      exact ⟨g14, h14⟩
  have hsg : zp_sg g (ρ 12).toNat = zp_sg f (ρ 12).toNat := by
    funext p
    unfold zp_sg
    by_cases hp : p < (ρ 12).toNat
    · rw [if_pos hp, if_pos hp, (hj p hp).1]
    · rw [if_neg hp, if_neg hp]
  refine ⟨(ρ 12).toNat, f, g, 13 + t6, fs0, fsA, fs9, by omega, ⟨by omega, p2.1.symm, ⟨x0, x1, by omega⟩, zq_ref p2 (c := 4) rfl, v6, by omega, fun j h => (hj j h).2, ⟨_, v5⟩, zq_ref p2 (c := 9) rfl⟩, ⟨h.1, p1, c1, hrow, g17, h17⟩, ⟨h.1, q1, c2, ⟨g71, h71⟩, ⟨g72, h72⟩, by omega, q2.1.symm, ⟨y0, y1, by omega⟩, zq_ref q2 (c := 14) rfl, zq_ref q2 (c := 16) rfl, zq_ref q2 (c := 23) rfl, fun j h => ?_⟩, o1, zq_ref o2 (c := 1) rfl, hsg, hj⟩
  have := hj j h
  rw [← this.1]
  exact this.2
end
theorem zq_D4h : zb_LH.2.2.2.1[4]? = some (.inr (0, .ofNat 12, .ofNat 0)) := rfl
theorem zq_CS0 {LL : Nat} {L1 : rf_L} {σ1 : rf_S} {ρ : Nat → Int} (h0 : ρ 12 = 0) (ham : zb_am zb_tT 90 zb_LH 74 ρ L1 [] σ1) : zq_CS ρ σ1 := by
  obtain ⟨f, hf⟩ := zq_row (r := 12) ham.2.2.2 rfl
  obtain ⟨g, hg⟩ := zq_row (r := 70) ham.2.2.2 rfl
  refine ⟨f, g, hf, hg, fun j hj => ?_⟩
  rw [h0] at hj
  omega
