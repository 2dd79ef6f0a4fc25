/-! a text and where it fails: what both readers do, as one function of the signs (-1: the end) -/
def zp_lv (c : Int) : Nat := if c = 124 then 0 else if c = 38 then 1 else if c = 60 ∨ c = 61 ∨ c = 62 then 2 else if c = 43 ∨ c = 45 then 3 else if c = 42 ∨ c = 47 ∨ c = 37 then 4 else 9
def zp_dg (s : Nat → Int) : Nat → Nat → Nat
  | 0, p => p
  | k + 1, p => if 48 ≤ s p ∧ s p ≤ 57 then zp_dg s k (p + 1) else p
/-- the step of all: what is joined on level m (0 to 4), an operand (5), what is joined to it on level m - 6 (6 to 10); o are open: whether it is so, and where it ends or fails; X tells the same of parts -/
def zp_E (s : Nat → Int) (X : Nat → Nat → Nat → Bool × Nat) (m p o : Nat) : Bool × Nat :=
  if m < 5 then (if (X (m + 1) p o).1 = true then X (6 + m) (X (m + 1) p o).2 o else (false, (X (m + 1) p o).2))
  else if m = 5 then
    (if 48 ≤ s p ∧ s p ≤ 57 then (true, zp_dg s 4 p)
    else if s p = 112 ∨ s p = 119 ∨ s p = 120 ∨ s p = 99 ∨ s p = 110 ∨ s p = 107 then (true, p + 1)
    else if ¬ (s p = 40 ∨ s p = 33 ∨ s p = 45) ∨ 6 ≤ o then (false, p)
    else if s p = 40 then (if (X 0 (p + 1) (o + 1)).1 = true then (if s (X 0 (p + 1) (o + 1)).2 = 41 then (true, (X 0 (p + 1) (o + 1)).2 + 1) else (false, (X 0 (p + 1) (o + 1)).2)) else (false, (X 0 (p + 1) (o + 1)).2))
    else X 5 (p + 1) (o + 1))
  else (if zp_lv (s p) + 6 = m then (if (X (m - 5) (p + 1) o).1 = true then (if m = 8 then (true, (X (m - 5) (p + 1) o).2) else X m (X (m - 5) (p + 1) o).2 o) else (false, (X (m - 5) (p + 1) o).2)) else (true, p))
def zp_P (s : Nat → Int) : Nat → Nat → Nat → Nat → Bool × Nat
  | 0, _, p, _ => (false, p)
  | F + 1, m, p, o => zp_E s (zp_P s F) m p o
section
variable {s : Nat → Int} {n : Nat}
theorem zp_in (hs : ∀ p, n ≤ p → s p = -1) {p : Nat} (h : ¬ s p = -1) : p < n := by
  rcases Nat.lt_or_ge p n with h1 | h1
  · exact h1
  · exact absurd (hs p h1) h
theorem zp_dg_ok (hs : ∀ p, n ≤ p → s p = -1) : ∀ (k p : Nat), p ≤ n → p ≤ zp_dg s k p ∧ zp_dg s k p ≤ n
  | 0, p, h => ⟨Nat.le_refl _, h⟩
  | k + 1, p, h => by
    show p ≤ (if 48 ≤ s p ∧ s p ≤ 57 then zp_dg s k (p + 1) else p) ∧ (if 48 ≤ s p ∧ s p ≤ 57 then zp_dg s k (p + 1) else p) ≤ n
    by_cases hc : 48 ≤ s p ∧ s p ≤ 57
    · rw [if_pos hc]
      have := zp_in hs (p := p) (by omega)
      have g := zp_dg_ok hs k (p + 1) (by omega)
      omega
    · rw [if_neg hc]
      exact ⟨Nat.le_refl _, h⟩
theorem zp_dg1 (hs : ∀ p, n ≤ p → s p = -1) {p : Nat} (hc : 48 ≤ s p ∧ s p ≤ 57) : p < zp_dg s 4 p := by
  show p < (if 48 ≤ s p ∧ s p ≤ 57 then zp_dg s 3 (p + 1) else p)
  rw [if_pos hc]
  have := zp_in hs (p := p) (by omega)
  have g := zp_dg_ok hs 3 (p + 1) (by omega)
  omega
theorem zp_lv_in (hs : ∀ p, n ≤ p → s p = -1) {p m : Nat} (h : zp_lv (s p) + 6 = m) (hm : m ≤ 10) : p < n := by
  refine zp_in hs (fun e => ?_)
  rw [e] at h
  have : zp_lv (-1) = 9 := by decide
  omega
/-- what is asked of the parts: they end within, behind where something is read -/
def zp_ok (n : Nat) (X : Nat → Nat → Nat → Bool × Nat) : Prop := ∀ m p o, p ≤ n → m ≤ 10 → p ≤ (X m p o).2 ∧ (X m p o).2 ≤ n ∧ ((X m p o).1 = true → m ≤ 5 → p < (X m p o).2)
theorem zp_E_ok (hs : ∀ p, n ≤ p → s p = -1) {X : Nat → Nat → Nat → Bool × Nat} (ih : zp_ok n X) : zp_ok n (zp_E s X) := by
  intro m p o hp hm
  unfold zp_E
  by_cases h5 : m < 5
  · rw [if_pos h5]
    have g := ih (m + 1) p o hp (by omega)
    by_cases hb : (X (m + 1) p o).1 = true
    · rw [if_pos hb]
      have g2 := ih (6 + m) (X (m + 1) p o).2 o g.2.1 (by omega)
      have g3 := g.2.2 hb (by omega)
      exact ⟨by omega, g2.2.1, fun _ _ => by omega⟩
    · rw [if_neg hb]
      exact ⟨g.1, g.2.1, fun h => by cases h⟩
  rw [if_neg h5]
  by_cases e5 : m = 5
  · rw [if_pos e5]
    by_cases hd : 48 ≤ s p ∧ s p ≤ 57
    · rw [if_pos hd]
      have g := zp_dg_ok hs 4 p hp
      exact ⟨g.1, g.2, fun _ _ => zp_dg1 hs hd⟩
    rw [if_neg hd]
    by_cases hn : s p = 112 ∨ s p = 119 ∨ s p = 120 ∨ s p = 99 ∨ s p = 110 ∨ s p = 107
    · rw [if_pos hn]
      have := zp_in hs (p := p) (by omega)
      exact ⟨by show p ≤ p + 1; omega, by show p + 1 ≤ n; omega, fun _ _ => by show p < p + 1; omega⟩
    rw [if_neg hn]
    by_cases ho : ¬ (s p = 40 ∨ s p = 33 ∨ s p = 45) ∨ 6 ≤ o
    · rw [if_pos ho]
      exact ⟨Nat.le_refl _, hp, fun h => by cases h⟩
    rw [if_neg ho]
    have hin := zp_in hs (p := p) (by omega)
    by_cases h40 : s p = 40
    · rw [if_pos h40]
      have g := ih 0 (p + 1) (o + 1) (by omega) (by omega)
      by_cases hb : (X 0 (p + 1) (o + 1)).1 = true
      · rw [if_pos hb]
        by_cases h41 : s (X 0 (p + 1) (o + 1)).2 = 41
        · rw [if_pos h41]
          have := zp_in hs (p := (X 0 (p + 1) (o + 1)).2) (by omega)
          exact ⟨by show p ≤ (X 0 (p + 1) (o + 1)).2 + 1; omega, by show (X 0 (p + 1) (o + 1)).2 + 1 ≤ n; omega, fun _ _ => by show p < (X 0 (p + 1) (o + 1)).2 + 1; omega⟩
        · rw [if_neg h41]
          exact ⟨by show p ≤ (X 0 (p + 1) (o + 1)).2; omega, g.2.1, fun h => by cases h⟩
      · rw [if_neg hb]
        exact ⟨by show p ≤ (X 0 (p + 1) (o + 1)).2; omega, g.2.1, fun h => by cases h⟩
    · rw [if_neg h40]
      have g := ih 5 (p + 1) (o + 1) (by omega) (by omega)
      exact ⟨by omega, g.2.1, fun _ _ => by omega⟩
  rw [if_neg e5]
  by_cases hl : zp_lv (s p) + 6 = m
  · rw [if_pos hl]
    have hin := zp_lv_in hs hl hm
    have g := ih (m - 5) (p + 1) o (by omega) (by omega)
    by_cases hb : (X (m - 5) (p + 1) o).1 = true
    · rw [if_pos hb]
      by_cases h8 : m = 8
      · rw [if_pos h8]
        exact ⟨by show p ≤ (X (m - 5) (p + 1) o).2; omega, g.2.1, fun _ h => by omega⟩
      · rw [if_neg h8]
        have g2 := ih m (X (m - 5) (p + 1) o).2 o g.2.1 hm
        exact ⟨by omega, g2.2.1, fun _ h => by omega⟩
    · rw [if_neg hb]
      exact ⟨by show p ≤ (X (m - 5) (p + 1) o).2; omega, g.2.1, fun h => by cases h⟩
  · rw [if_neg hl]
    exact ⟨Nat.le_refl _, hp, fun _ h => by omega⟩
theorem zp_P_ok (hs : ∀ p, n ≤ p → s p = -1) : ∀ F, zp_ok n (zp_P s F)
  | 0 => fun m p o hp hm => ⟨Nat.le_refl _, hp, fun h => by cases h⟩
  | F + 1 => zp_E_ok hs (zp_P_ok hs F)
/-- how much fuel it takes -/
def zp_me (n m p : Nat) : Nat := 12 * (n + 1 - p) + (if m < 5 then 5 - m else 0)
theorem zp_me_lt {m p m' p' : Nat} (h : p < p') (hp : p' ≤ n) : zp_me n m' p' < zp_me n m p := by
  unfold zp_me
  split <;> split <;> omega
theorem zp_me_lv {m p : Nat} (h : m < 5) : zp_me n (m + 1) p < zp_me n m p := by
  unfold zp_me
  rw [if_pos h]
  split <;> omega
/-- of two that say the same of what takes less, the steps say the same -/
theorem zp_E_eq (hs : ∀ p, n ≤ p → s p = -1) {X Y : Nat → Nat → Nat → Bool × Nat} {m p o : Nat} (hX : zp_ok n X) (hp : p ≤ n) (hm : m ≤ 10) (h : ∀ m' p' o', p' ≤ n → m' ≤ 10 → zp_me n m' p' < zp_me n m p → X m' p' o' = Y m' p' o') : zp_E s X m p o = zp_E s Y m p o := by
  unfold zp_E
  by_cases h5 : m < 5
  · rw [if_pos h5, if_pos h5, ← h (m + 1) p o hp (by omega) (zp_me_lv h5)]
    have g := hX (m + 1) p o hp (by omega)
    by_cases hb : (X (m + 1) p o).1 = true
    · rw [if_pos hb, if_pos hb]
      have g3 := g.2.2 hb (by omega)
      exact h (6 + m) (X (m + 1) p o).2 o g.2.1 (by omega) (zp_me_lt g3 g.2.1)
    · rw [if_neg hb, if_neg hb]
  rw [if_neg h5, if_neg h5]
  by_cases e5 : m = 5
  · rw [if_pos e5, if_pos e5]
    by_cases hd : 48 ≤ s p ∧ s p ≤ 57
    · rw [if_pos hd, if_pos hd]
    rw [if_neg hd, if_neg hd]
    by_cases hn : s p = 112 ∨ s p = 119 ∨ s p = 120 ∨ s p = 99 ∨ s p = 110 ∨ s p = 107
    · rw [if_pos hn, if_pos hn]
    rw [if_neg hn, if_neg hn]
    by_cases ho : ¬ (s p = 40 ∨ s p = 33 ∨ s p = 45) ∨ 6 ≤ o
    · rw [if_pos ho, if_pos ho]
    rw [if_neg ho, if_neg ho]
    have hin := zp_in hs (p := p) (by omega)
    rw [← h 0 (p + 1) (o + 1) (by omega) (by omega) (zp_me_lt (by omega) (by omega)), ← h 5 (p + 1) (o + 1) (by omega) (by omega) (zp_me_lt (by omega) (by omega))]
  rw [if_neg e5, if_neg e5]
  by_cases hl : zp_lv (s p) + 6 = m
  · rw [if_pos hl, if_pos hl]
    have hin := zp_lv_in hs hl hm
    rw [← h (m - 5) (p + 1) o (by omega) (by omega) (zp_me_lt (by omega) (by omega))]
    have g := hX (m - 5) (p + 1) o (by omega) (by omega)
    by_cases hb : (X (m - 5) (p + 1) o).1 = true
    · rw [if_pos hb, if_pos hb]
      by_cases h8 : m = 8
      · rw [if_pos h8, if_pos h8]
      · rw [if_neg h8, if_neg h8]
        exact h m (X (m - 5) (p + 1) o).2 o g.2.1 hm (zp_me_lt (by omega) g.2.1)
    · rw [if_neg hb, if_neg hb]
  · rw [if_neg hl, if_neg hl]
theorem zp_P_fuel (hs : ∀ p, n ≤ p → s p = -1) : ∀ (F m p o : Nat), p ≤ n → m ≤ 10 → zp_me n m p < F → zp_P s (F + 1) m p o = zp_P s F m p o
  | 0, _, _, _, _, _, h => absurd h (Nat.not_lt_zero _)
  | F + 1, m, p, o, hp, hm, h => zp_E_eq hs (zp_P_ok hs (F + 1)) hp hm (fun m' p' o' hp' hm' h' => zp_P_fuel hs F m' p' o' hp' hm' (by omega))
theorem zp_P_s (s : Nat → Int) (F m p o : Nat) : zp_P s (F + 1) m p o = zp_E s (zp_P s F) m p o := rfl
/-- with fuel enough: its own equation -/
theorem zp_P_eq (hs : ∀ p, n ≤ p → s p = -1) (hn : n ≤ 120) {m p o : Nat} (hp : p ≤ n) (hm : m ≤ 10) : zp_P s 1700 m p o = zp_E s (zp_P s 1700) m p o := by
  have h : zp_me n m p < 1700 := by
    unfold zp_me
    split <;> omega
  exact (zp_P_fuel hs 1700 m p o hp hm h).symm.trans (zp_P_s s 1700 m p o)
end
