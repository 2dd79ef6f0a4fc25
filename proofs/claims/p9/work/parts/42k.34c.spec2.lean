/-! a text's signs; what is asked of a text, place by place -/
def zp_sg (f : Nat → Int32) (n : Nat) (p : Nat) : Int := if p < n then (f p).toInt else -1
def zp_nm (x : Int) : Prop := x = 112 ∨ x = 119 ∨ x = 120 ∨ x = 99 ∨ x = 110 ∨ x = 107
def zp_lvi (x : Int) : Int := if zp_lv x = 9 then -1 else (zp_lv x : Int)
def zp_Q (s : Nat → Int) (m p o : Nat) : Bool × Nat := zp_P s 1700 m p o
/-- the whole text from place p on, behind a question or not: where it fails -/
def zp_T (s : Nat → Int) : Nat → Nat → Bool → Option Nat
  | 0, p, _ => some p
  | F + 1, p, k => if (zp_Q s 0 p 0).1 = true then (if s (zp_Q s 0 p 0).2 = 63 then (if k = true then some (zp_Q s 0 p 0).2 else zp_T s F ((zp_Q s 0 p 0).2 + 1) true) else if s (zp_Q s 0 p 0).2 = 59 then zp_T s F ((zp_Q s 0 p 0).2 + 1) false else if s (zp_Q s 0 p 0).2 = -1 then none else some (zp_Q s 0 p 0).2) else some (zp_Q s 0 p 0).2
def zp_ans (s : Nat → Int) : Int := match zp_T s 300 0 false with
  | none => 1
  | some q => -100 - (q : Int)
section
variable {f : Nat → Int32} {n : Nat}
def zp_by (f : Nat → Int32) (n : Nat) : Prop := ∀ j, j < n → 0 ≤ (f j).toInt ∧ (f j).toInt ≤ 255
theorem zp_sg_n {p : Nat} (h : n ≤ p) : zp_sg f n p = -1 := by
  unfold zp_sg
  rw [if_neg (by omega)]
theorem zp_sg_i {p : Nat} (h : p < n) : zp_sg f n p = (f p).toInt := by
  unfold zp_sg
  rw [if_pos h]
theorem zp_sg_b (hb : zp_by f n) (p : Nat) : -1 ≤ zp_sg f n p ∧ zp_sg f n p ≤ 255 := by
  unfold zp_sg
  by_cases h : p < n
  · rw [if_pos h]
    have := hb p h
    omega
  · rw [if_neg h]
    omega
theorem zp_sg_0 (hb : zp_by f n) {p : Nat} (h : p < n) : 0 ≤ zp_sg f n p := by
  rw [zp_sg_i h]
  exact (hb p h).1
theorem zp_sg_l {p : Nat} (h : ¬ zp_sg f n p = -1) : p < n := by
  rcases Nat.lt_or_ge p n with h1 | h1
  · exact h1
  · exact absurd (zp_sg_n h1) h
theorem zp_lv_le (x : Int) : zp_lv x ≤ 4 ∨ zp_lv x = 9 := by
  unfold zp_lv
  split
  · omega
  split
  · omega
  split
  · omega
  split
  · omega
  split
  · omega
  · omega
end
section
variable {s : Nat → Int} {n : Nat}
theorem zp_Q_eq (hs : ∀ p, n ≤ p → s p = -1) (hn : n ≤ 120) {m p o : Nat} (hp : p ≤ n) (hm : m ≤ 10) : zp_Q s m p o = zp_E s (zp_Q s) m p o := zp_P_eq hs hn hp hm
theorem zp_Q_ok (hs : ∀ p, n ≤ p → s p = -1) {m p o : Nat} (hp : p ≤ n) (hm : m ≤ 10) : p ≤ (zp_Q s m p o).2 ∧ (zp_Q s m p o).2 ≤ n ∧ ((zp_Q s m p o).1 = true → m ≤ 5 → p < (zp_Q s m p o).2) := zp_P_ok hs 1700 m p o hp hm
/-- a level -/
theorem zp_Ql (hs : ∀ p, n ≤ p → s p = -1) (hn : n ≤ 120) {l p o : Nat} (hp : p ≤ n) (hl : l ≤ 4) : zp_Q s l p o = if (zp_Q s (l + 1) p o).1 = true then zp_Q s (6 + l) (zp_Q s (l + 1) p o).2 o else (false, (zp_Q s (l + 1) p o).2) := by
  rw [zp_Q_eq hs hn hp (by omega)]
  unfold zp_E
  rw [if_pos (by omega)]
/-- what is joined -/
theorem zp_Qj (hs : ∀ p, n ≤ p → s p = -1) (hn : n ≤ 120) {l p o : Nat} (hp : p ≤ n) (hl : l ≤ 4) (h : zp_lv (s p) = l) : zp_Q s (6 + l) p o = if (zp_Q s (l + 1) (p + 1) o).1 = true then (if l = 2 then (true, (zp_Q s (l + 1) (p + 1) o).2) else zp_Q s (6 + l) (zp_Q s (l + 1) (p + 1) o).2 o) else (false, (zp_Q s (l + 1) (p + 1) o).2) := by
  rw [zp_Q_eq hs hn hp (by omega)]
  unfold zp_E
  rw [if_neg (by omega), if_neg (by omega), if_pos (by omega), show 6 + l - 5 = l + 1 by omega]
  by_cases h2 : l = 2
  · rw [if_pos h2, if_pos (show 6 + l = 8 by omega)]
  · rw [if_neg h2, if_neg (show ¬ 6 + l = 8 by omega)]
theorem zp_Qn (hs : ∀ p, n ≤ p → s p = -1) (hn : n ≤ 120) {l p o : Nat} (hp : p ≤ n) (hl : l ≤ 4) (h : ¬ zp_lv (s p) = l) : zp_Q s (6 + l) p o = (true, p) := by
  rw [zp_Q_eq hs hn hp (by omega)]
  unfold zp_E
  rw [if_neg (by omega), if_neg (by omega), if_neg (by omega)]
/-- operands -/
theorem zp_Qd (hs : ∀ p, n ≤ p → s p = -1) (hn : n ≤ 120) {p o : Nat} (hp : p ≤ n) (h : 48 ≤ s p ∧ s p ≤ 57) : zp_Q s 5 p o = (true, zp_dg s 4 p) := by
  rw [zp_Q_eq hs hn hp (by omega)]
  unfold zp_E
  rw [if_neg (by omega), if_pos rfl, if_pos h]
theorem zp_Qm (hs : ∀ p, n ≤ p → s p = -1) (hn : n ≤ 120) {p o : Nat} (hp : p ≤ n) (h : zp_nm (s p)) : zp_Q s 5 p o = (true, p + 1) := by
  have h' : s p = 112 ∨ s p = 119 ∨ s p = 120 ∨ s p = 99 ∨ s p = 110 ∨ s p = 107 := h
  rw [zp_Q_eq hs hn hp (by omega)]
  unfold zp_E
  rw [if_neg (by omega), if_pos rfl, if_neg (by omega), if_pos h']
theorem zp_Qx (hs : ∀ p, n ≤ p → s p = -1) (hn : n ≤ 120) {p o : Nat} (hp : p ≤ n) (h1 : ¬ (48 ≤ s p ∧ s p ≤ 57)) (h2 : ¬ zp_nm (s p)) (h3 : ¬ (s p = 40 ∨ s p = 33 ∨ s p = 45) ∨ 6 ≤ o) : zp_Q s 5 p o = (false, p) := by
  have h2' : ¬ (s p = 112 ∨ s p = 119 ∨ s p = 120 ∨ s p = 99 ∨ s p = 110 ∨ s p = 107) := h2
  rw [zp_Q_eq hs hn hp (by omega)]
  unfold zp_E
  rw [if_neg (by omega), if_pos rfl, if_neg h1, if_neg h2', if_pos h3]
theorem zp_Qp (hs : ∀ p, n ≤ p → s p = -1) (hn : n ≤ 120) {p o : Nat} (hp : p ≤ n) (h : s p = 40) (ho : o < 6) : zp_Q s 5 p o = if (zp_Q s 0 (p + 1) (o + 1)).1 = true then (if s (zp_Q s 0 (p + 1) (o + 1)).2 = 41 then (true, (zp_Q s 0 (p + 1) (o + 1)).2 + 1) else (false, (zp_Q s 0 (p + 1) (o + 1)).2)) else (false, (zp_Q s 0 (p + 1) (o + 1)).2) := by
  rw [zp_Q_eq hs hn hp (by omega)]
  unfold zp_E
  rw [if_neg (by omega), if_pos rfl, if_neg (by omega), if_neg (by omega), if_neg (by omega), if_pos h]
theorem zp_Qu (hs : ∀ p, n ≤ p → s p = -1) (hn : n ≤ 120) {p o : Nat} (hp : p ≤ n) (h : s p = 33 ∨ s p = 45) (ho : o < 6) : zp_Q s 5 p o = zp_Q s 5 (p + 1) (o + 1) := by
  rw [zp_Q_eq hs hn hp (by omega)]
  unfold zp_E
  rw [if_neg (by omega), if_pos rfl, if_neg (by omega), if_neg (by omega), if_neg (by omega), if_neg (by omega)]
theorem zp_dg0 {p : Nat} : zp_dg s 0 p = p := rfl
theorem zp_dgp {k p : Nat} (h : 48 ≤ s p ∧ s p ≤ 57) : zp_dg s (k + 1) p = zp_dg s k (p + 1) := by
  show (if 48 ≤ s p ∧ s p ≤ 57 then zp_dg s k (p + 1) else p) = _
  rw [if_pos h]
theorem zp_dgn {k p : Nat} (h : ¬ (48 ≤ s p ∧ s p ≤ 57)) : zp_dg s (k + 1) p = p := by
  show (if 48 ≤ s p ∧ s p ≤ 57 then zp_dg s k (p + 1) else p) = _
  rw [if_neg h]
/-- the text -/
theorem zp_Tf {F p : Nat} {k : Bool} (h : ¬ (zp_Q s 0 p 0).1 = true) : zp_T s (F + 1) p k = some (zp_Q s 0 p 0).2 := by
  unfold zp_T
  rw [if_neg h]
theorem zp_Tq {F p : Nat} {k : Bool} (h : (zp_Q s 0 p 0).1 = true) (hq : s (zp_Q s 0 p 0).2 = 63) : zp_T s (F + 1) p k = if k = true then some (zp_Q s 0 p 0).2 else zp_T s F ((zp_Q s 0 p 0).2 + 1) true := by
  rw [show zp_T s (F + 1) p k = (if (zp_Q s 0 p 0).1 = true then (if s (zp_Q s 0 p 0).2 = 63 then (if k = true then some (zp_Q s 0 p 0).2 else zp_T s F ((zp_Q s 0 p 0).2 + 1) true) else if s (zp_Q s 0 p 0).2 = 59 then zp_T s F ((zp_Q s 0 p 0).2 + 1) false else if s (zp_Q s 0 p 0).2 = -1 then none else some (zp_Q s 0 p 0).2) else some (zp_Q s 0 p 0).2) from rfl, if_pos h, if_pos hq]
theorem zp_Ts {F p : Nat} {k : Bool} (h : (zp_Q s 0 p 0).1 = true) (hq : s (zp_Q s 0 p 0).2 = 59) : zp_T s (F + 1) p k = zp_T s F ((zp_Q s 0 p 0).2 + 1) false := by
  rw [show zp_T s (F + 1) p k = (if (zp_Q s 0 p 0).1 = true then (if s (zp_Q s 0 p 0).2 = 63 then (if k = true then some (zp_Q s 0 p 0).2 else zp_T s F ((zp_Q s 0 p 0).2 + 1) true) else if s (zp_Q s 0 p 0).2 = 59 then zp_T s F ((zp_Q s 0 p 0).2 + 1) false else if s (zp_Q s 0 p 0).2 = -1 then none else some (zp_Q s 0 p 0).2) else some (zp_Q s 0 p 0).2) from rfl, if_pos h, if_neg (by omega), if_pos hq]
theorem zp_Te {F p : Nat} {k : Bool} (h : (zp_Q s 0 p 0).1 = true) (hq : s (zp_Q s 0 p 0).2 = -1) : zp_T s (F + 1) p k = none := by
  rw [show zp_T s (F + 1) p k = (if (zp_Q s 0 p 0).1 = true then (if s (zp_Q s 0 p 0).2 = 63 then (if k = true then some (zp_Q s 0 p 0).2 else zp_T s F ((zp_Q s 0 p 0).2 + 1) true) else if s (zp_Q s 0 p 0).2 = 59 then zp_T s F ((zp_Q s 0 p 0).2 + 1) false else if s (zp_Q s 0 p 0).2 = -1 then none else some (zp_Q s 0 p 0).2) else some (zp_Q s 0 p 0).2) from rfl, if_pos h, if_neg (by omega), if_neg (by omega), if_pos hq]
theorem zp_To {F p : Nat} {k : Bool} (h : (zp_Q s 0 p 0).1 = true) (h1 : ¬ s (zp_Q s 0 p 0).2 = 63) (h2 : ¬ s (zp_Q s 0 p 0).2 = 59) (h3 : ¬ s (zp_Q s 0 p 0).2 = -1) : zp_T s (F + 1) p k = some (zp_Q s 0 p 0).2 := by
  rw [show zp_T s (F + 1) p k = (if (zp_Q s 0 p 0).1 = true then (if s (zp_Q s 0 p 0).2 = 63 then (if k = true then some (zp_Q s 0 p 0).2 else zp_T s F ((zp_Q s 0 p 0).2 + 1) true) else if s (zp_Q s 0 p 0).2 = 59 then zp_T s F ((zp_Q s 0 p 0).2 + 1) false else if s (zp_Q s 0 p 0).2 = -1 then none else some (zp_Q s 0 p 0).2) else some (zp_Q s 0 p 0).2) from rfl, if_pos h, if_neg h1, if_neg h2, if_neg h3]
theorem zp_T_le (hs : ∀ p, n ≤ p → s p = -1) : ∀ (F p : Nat) (k : Bool) (q : Nat), p ≤ n → zp_T s F p k = some q → q ≤ n := by
  intro F
  induction F with
  | zero =>
    intro p k q hp h
    cases h
    exact hp
  | succ F ih =>
    intro p k q hp h
    have hQ := zp_Q_ok hs (m := 0) (o := 0) hp (by omega)
    have hin : ∀ c : Int, ¬ c = -1 → s (zp_Q s 0 p 0).2 = c → (zp_Q s 0 p 0).2 + 1 ≤ n := fun c hc e => zp_in hs (p := (zp_Q s 0 p 0).2) (by omega)
    by_cases h1 : (zp_Q s 0 p 0).1 = true
    · by_cases h2 : s (zp_Q s 0 p 0).2 = 63
      · rw [zp_Tq h1 h2] at h
        by_cases hk : k = true
        · rw [if_pos hk] at h
          cases h
          exact hQ.2.1
        · rw [if_neg hk] at h
          exact ih _ _ q (hin 63 (by decide) h2) h
      · by_cases h3 : s (zp_Q s 0 p 0).2 = 59
        · rw [zp_Ts h1 h3] at h
          exact ih _ _ q (hin 59 (by decide) h3) h
        · by_cases h4 : s (zp_Q s 0 p 0).2 = -1
          · rw [zp_Te h1 h4] at h
            cases h
          · rw [zp_To h1 h2 h3 h4] at h
            cases h
            exact hQ.2.1
    · rw [zp_Tf h1] at h
      cases h
      exact hQ.2.1
end
