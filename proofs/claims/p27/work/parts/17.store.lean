/-! the store behind both constructors, written out by program (wip/p1/sim.py); that it is so the kernel decides -/
def an_ob0 : an_O := .inr (9, [.inl (.ref 1), .inl (.ref 11), .inl (.ref 19), .inl (.ref 44), .inl (.ref 49), .inl (.ref 54), .inl (.ref 57), .inl (.ref 62)])
def an_ob1 : an_O := .inr (7, [.inl (.int 0), .inl (.int 0), .inl (.int 0), .inl (.int 0), .inl (.int 0), .inl (.int 0), .inl (.ref 2), .inl (.ref 3), .inl (.ref 4), .inl (.ref 5), .inl (.ref 6), .inl (.ref 7), .inl (.ref 8), .inl (.ref 9)])
def an_ob2 : an_O := .inl (0, 7, .inl (.int 0), [])
def an_ob3 : an_O := .inl (0, 7, .inl (.int 0), [])
def an_ob4 : an_O := .inl (0, 7, .inl (.int 0), [])
def an_ob5 : an_O := .inl (0, 7, .inl (.int 0), [])
def an_ob6 : an_O := .inl (0, 7, .inl (.int 0), [])
def an_ob7 : an_O := .inl (0, 7, .inl (.int 0), [])
def an_ob8 : an_O := .inl (0, 56, .inl (.int 0), [])
def an_ob9 : an_O := .inr (5, [.inl (.int 0), .inl (.int 0), .inl (.int 0), .inl (.int 0), .inl (.int 0), .inl (.ref 10)])
def an_ob10 : an_O := .inl (0, 8, .inl (.int 0), [])
def an_ob11 : an_O := .inr (4, [.inl (.int 0), .inl (.int 0), .inl (.int 0), .inl (.int 0), .inl (.ref 12), .inl (.ref 13), .inl (.ref 14), .inl (.ref 15), .inl (.ref 16), .inl (.ref 17), .inl (.ref 18)])
def an_ob12 : an_O := .inl (0, 120, .inl (.int 0), [])
def an_ob13 : an_O := .inl (0, 121, .inl (.int 0), [])
def an_ob14 : an_O := .inl (0, 121, .inl (.int 0), [])
def an_ob15 : an_O := .inl (0, 6, .inl (.int 0), [])
def an_ob16 : an_O := .inl (0, 64, .inl (.int 0), [])
def an_ob17 : an_O := .inl (0, 448, .inl (.int 0), [])
def an_ob18 : an_O := .inl (0, 448, .inl (.int 0), [])
def an_ob19 : an_O := .inr (8, [.inl (.ref 1), .inl (.ref 21), .inl (.int 0), .inl (.ref 20)])
def an_ob20 : an_O := .inl (0, 7, .inl (.int 0), [])
def an_ob21 : an_O := .inr (2, [.inl (.ref 1), .inl (.ref 11), .inl (.ref 22), .inl (.ref 23), .inl (.ref 24), .inl (.ref 25), .inl (.ref 26), .inl (.ref 27), .inl (.int 0), .inl (.int 0), .inl (.int 0), .inl (.int 0)])
def an_ob22 : an_O := .inl (0, 7, .inl (.int 0), [])
def an_ob23 : an_O := .inl (0, 7, .inl (.int 0), [])
def an_ob24 : an_O := .inl (0, 7, .inl (.int 0), [])
def an_ob25 : an_O := .inl (0, 7, .inl (.int 0), [])
def an_ob26 : an_O := .inl (0, 8, .inl (.int 0), [])
def an_ob27 : an_O := .inl (2, 8, .inl .null, [(7, .inl (.ref 42)), (6, .inl (.ref 40)), (5, .inl (.ref 38)), (4, .inl (.ref 36)), (3, .inl (.ref 34)), (2, .inl (.ref 32)), (1, .inl (.ref 30)), (0, .inl (.ref 28))])
def an_ob28 : an_O := .inr (5, [.inl (.int 0), .inl (.int 0), .inl (.int 0), .inl (.int 0), .inl (.int 0), .inl (.ref 29)])
def an_ob29 : an_O := .inl (0, 8, .inl (.int 0), [])
def an_ob30 : an_O := .inr (5, [.inl (.int 0), .inl (.int 0), .inl (.int 0), .inl (.int 0), .inl (.int 0), .inl (.ref 31)])
def an_ob31 : an_O := .inl (0, 8, .inl (.int 0), [])
def an_ob32 : an_O := .inr (5, [.inl (.int 0), .inl (.int 0), .inl (.int 0), .inl (.int 0), .inl (.int 0), .inl (.ref 33)])
def an_ob33 : an_O := .inl (0, 8, .inl (.int 0), [])
def an_ob34 : an_O := .inr (5, [.inl (.int 0), .inl (.int 0), .inl (.int 0), .inl (.int 0), .inl (.int 0), .inl (.ref 35)])
def an_ob35 : an_O := .inl (0, 8, .inl (.int 0), [])
def an_ob36 : an_O := .inr (5, [.inl (.int 0), .inl (.int 0), .inl (.int 0), .inl (.int 0), .inl (.int 0), .inl (.ref 37)])
def an_ob37 : an_O := .inl (0, 8, .inl (.int 0), [])
def an_ob38 : an_O := .inr (5, [.inl (.int 0), .inl (.int 0), .inl (.int 0), .inl (.int 0), .inl (.int 0), .inl (.ref 39)])
def an_ob39 : an_O := .inl (0, 8, .inl (.int 0), [])
def an_ob40 : an_O := .inr (5, [.inl (.int 0), .inl (.int 0), .inl (.int 0), .inl (.int 0), .inl (.int 0), .inl (.ref 41)])
def an_ob41 : an_O := .inl (0, 8, .inl (.int 0), [])
def an_ob42 : an_O := .inr (5, [.inl (.int 0), .inl (.int 0), .inl (.int 0), .inl (.int 0), .inl (.int 0), .inl (.ref 43)])
def an_ob43 : an_O := .inl (0, 8, .inl (.int 0), [])
def an_ob44 : an_O := .inr (1, [.inl (.int 0), .inl (.int 0), .inl (.ref 45), .inl (.ref 46), .inl (.ref 47), .inl (.ref 48)])
def an_ob45 : an_O := .inl (0, 40, .inl (.int 0), [])
def an_ob46 : an_O := .inl (0, 40, .inl (.int 0), [])
def an_ob47 : an_O := .inl (0, 40, .inl (.int 0), [])
def an_ob48 : an_O := .inl (0, 40, .inl (.int 0), [])
def an_ob49 : an_O := .inr (3, [.inl (.int 0), .inl (.int 0), .inl (.int 0), .inl (.int 0), .inl (.int 0), .inl (.ref 50), .inl (.ref 52), .inl (.ref 53)])
def an_ob50 : an_O := .inr (5, [.inl (.int 0), .inl (.int 0), .inl (.int 0), .inl (.int 0), .inl (.int 0), .inl (.ref 51)])
def an_ob51 : an_O := .inl (0, 8, .inl (.int 0), [])
def an_ob52 : an_O := .inl (0, 7, .inl (.int 0), [])
def an_ob53 : an_O := .inl (0, 7, .inl (.int 0), [])
def an_ob54 : an_O := .inr (0, [.inl (.int 0), .inl (.int 0), .inl (.int 0), .inl (.ref 55), .inl (.ref 56)])
def an_ob55 : an_O := .inl (0, 50, .inl (.int 0), [])
def an_ob56 : an_O := .inl (0, 24, .inl (.int 0), [])
def an_ob57 : an_O := .inr (6, [.inl (.ref 58), .inl (.ref 59), .inl (.ref 60), .inl (.ref 61)])
def an_ob58 : an_O := .inl (0, 6, .inl (.int 0), [(5, .inl (.int (-1))), (4, .inl (.int (-1))), (3, .inl (.int (-1))), (2, .inl (.int (-1))), (1, .inl (.int (-1))), (0, .inl (.int (-1)))])
def an_ob59 : an_O := .inl (0, 6, .inl (.int 0), [])
def an_ob60 : an_O := .inl (0, 6, .inl (.int 0), [])
def an_ob61 : an_O := .inl (1, 360, .inl (.long 0), [])
def an_ob62 : an_O := .inl (0, 7, .inl (.int 0), [])
def an_ob63 : an_O := .inr (10, [.inl (.ref 64), .inl (.ref 65), .inl (.ref 66), .inl (.ref 67), .inl (.int 0), .inl (.int 0), .inl (.int 0), .inl (.int 0), .inl (.int 0), .inl (.int 0), .inl (.int 0), .inl (.ref 68), .inl (.ref 69), .inl (.int 0), .inl (.ref 70), .inl (.int 0), .inl (.ref 71), .inl (.int (-1)), .inl (.int 0), .inl (.int 0), .inl (.int 0), .inl (.int 0), .inl (.int 0), .inl (.ref 72), .inl (.ref 73), .inl (.int 0), .inl (.int 0), .inl (.int 0), .inl (.int 0), .inl (.int 0), .inl (.int 0), .inl (.ref 74), .inl (.ref 75), .inl (.ref 76), .inl (.ref 77), .inl (.int 0), .inl (.ref 78), .inl (.int 0), .inl (.int 0), .inl (.ref 79), .inl (.ref 80), .inl (.int 0), .inl (.int 0), .inl (.int 0), .inl (.int 0), .inl (.int 0), .inl (.int 0), .inl (.int 0), .inl (.int 0), .inl (.ref 81), .inl (.ref 82), .inl (.ref 83), .inl (.int 0), .inl (.ref 84), .inl (.ref 85), .inl (.int 0), .inl (.int 0), .inl (.int 0), .inl (.ref 86), .inl (.ref 87), .inl (.ref 88), .inl (.ref 89)])
def an_ob64 : an_O := .inl (0, 79, .inl (.int 0), [])
def an_ob65 : an_O := .inl (0, 40, .inl (.int 0), [])
def an_ob66 : an_O := .inl (0, 40, .inl (.int 0), [])
def an_ob67 : an_O := .inl (0, 40, .inl (.int 0), [])
def an_ob68 : an_O := .inl (0, 7, .inl (.int 0), [])
def an_ob69 : an_O := .inl (0, 7, .inl (.int 0), [])
def an_ob70 : an_O := .inl (0, 120, .inl (.int 0), [])
def an_ob71 : an_O := .inl (0, 120, .inl (.int 0), [])
def an_ob72 : an_O := .inl (0, 6, .inl (.int 0), [])
def an_ob73 : an_O := .inl (0, 8, .inl (.int 0), [])
def an_ob74 : an_O := .inl (0, 8, .inl (.int 0), [])
def an_ob75 : an_O := .inl (0, 7, .inl (.int 0), [])
def an_ob76 : an_O := .inl (0, 7, .inl (.int 0), [])
def an_ob77 : an_O := .inl (0, 7, .inl (.int 0), [])
def an_ob78 : an_O := .inl (0, 7, .inl (.int 0), [])
def an_ob79 : an_O := .inl (0, 7, .inl (.int 0), [])
def an_ob80 : an_O := .inl (0, 7, .inl (.int 0), [])
def an_ob81 : an_O := .inl (0, 8, .inl (.int 0), [])
def an_ob82 : an_O := .inl (0, 7, .inl (.int 0), [])
def an_ob83 : an_O := .inl (0, 7, .inl (.int 0), [])
def an_ob84 : an_O := .inl (0, 50, .inl (.int 0), [])
def an_ob85 : an_O := .inl (0, 24, .inl (.int 0), [])
def an_ob86 : an_O := .inl (0, 6, .inl (.int 0), [(5, .inl (.int (-1))), (4, .inl (.int (-1))), (3, .inl (.int (-1))), (2, .inl (.int (-1))), (1, .inl (.int (-1))), (0, .inl (.int (-1)))])
def an_ob87 : an_O := .inl (0, 6, .inl (.int 0), [])
def an_ob88 : an_O := .inl (1, 360, .inl (.long 0), [])
def an_ob89 : an_O := .inl (1, 60, .inl (.long 0), [])
/-- the store behind both constructors -/
def an_sh0 : an_S := [an_ob0, an_ob1, an_ob2, an_ob3, an_ob4, an_ob5, an_ob6, an_ob7, an_ob8, an_ob9, an_ob10, an_ob11, an_ob12, an_ob13, an_ob14, an_ob15, an_ob16, an_ob17, an_ob18, an_ob19, an_ob20, an_ob21, an_ob22, an_ob23, an_ob24, an_ob25, an_ob26, an_ob27, an_ob28, an_ob29, an_ob30, an_ob31, an_ob32, an_ob33, an_ob34, an_ob35, an_ob36, an_ob37, an_ob38, an_ob39, an_ob40, an_ob41, an_ob42, an_ob43, an_ob44, an_ob45, an_ob46, an_ob47, an_ob48, an_ob49, an_ob50, an_ob51, an_ob52, an_ob53, an_ob54, an_ob55, an_ob56, an_ob57, an_ob58, an_ob59, an_ob60, an_ob61, an_ob62, an_ob63, an_ob64, an_ob65, an_ob66, an_ob67, an_ob68, an_ob69, an_ob70, an_ob71, an_ob72, an_ob73, an_ob74, an_ob75, an_ob76, an_ob77, an_ob78, an_ob79, an_ob80, an_ob81, an_ob82, an_ob83, an_ob84, an_ob85, an_ob86, an_ob87, an_ob88, an_ob89]
def an_l0 : an_L := [(3, .inl (.int 0)), (2, .inl (.ref 63)), (1, .inl (.ref 0)), (0, .inl (.ref 1000002))]
def an_st0 : an_C := (an_env0, 18, an_l0, [], an_sh0, 90, 3429)
/-! equal configurations, by a test -/
def an_eL {α : Type} (f : α → α → Bool) : List α → List α → Bool
  | [], [] => true
  | a :: as, b :: bs => f a b && an_eL f as bs
  | _, _ => false
theorem an_eL_ok {α : Type} {f : α → α → Bool} (hf : ∀ {a b : α}, f a b = true → a = b) : ∀ {as bs : List α}, an_eL f as bs = true → as = bs
  | [], [], _ => rfl
  | a :: as, b :: bs, h => by
    have h := an_and h
    rw [hf h.1, an_eL_ok hf h.2]
  | [], _ :: _, h => by cases h
  | _ :: _, [], h => by cases h
def an_eP (p q : Nat × an_V) : Bool := decide (p.1 = q.1) && an_eV p.2 q.2
theorem an_eP_ok {p q : Nat × an_V} (h : an_eP p q = true) : p = q := by
  have h := an_and h
  exact Prod.ext (of_decide_eq_true h.1) (an_eV_ok h.2)
def an_eO : an_O → an_O → Bool
  | .inl a, .inl b => decide (a.1 = b.1) && (decide (a.2.1 = b.2.1) && (an_eV a.2.2.1 b.2.2.1 && an_eL an_eP a.2.2.2 b.2.2.2))
  | .inr a, .inr b => decide (a.1 = b.1) && an_eL an_eV a.2 b.2
  | _, _ => false
theorem an_eO_ok : ∀ {a b : an_O}, an_eO a b = true → a = b
  | .inl a, .inl b, h => by
    have h1 := an_and h
    have h2 := an_and h1.2
    have h3 := an_and h2.2
    rw [show a = b from Prod.ext (of_decide_eq_true h1.1) (Prod.ext (of_decide_eq_true h2.1) (Prod.ext (an_eV_ok h3.1) (an_eL_ok an_eP_ok h3.2)))]
  | .inr a, .inr b, h => by
    have h1 := an_and h
    rw [show a = b from Prod.ext (of_decide_eq_true h1.1) (an_eL_ok an_eV_ok h1.2)]
  | .inl _, .inr _, h => by cases h
  | .inr _, .inl _, h => by cases h
def an_eC (a b : Bool × an_C) : Bool := decide (a.1 = b.1) && (decide (a.2.1 = b.2.1) && (decide (a.2.2.1 = b.2.2.1) && (an_eL an_eP a.2.2.2.1 b.2.2.2.1 && (an_eL an_eV a.2.2.2.2.1 b.2.2.2.2.1 && (an_eL an_eO a.2.2.2.2.2.1 b.2.2.2.2.2.1 && (decide (a.2.2.2.2.2.2.1 = b.2.2.2.2.2.2.1) && decide (a.2.2.2.2.2.2.2 = b.2.2.2.2.2.2.2)))))))
theorem an_eC_ok {a b : Bool × an_C} (h : an_eC a b = true) : a = b := by
  have h1 := an_and h
  have h2 := an_and h1.2
  have h3 := an_and h2.2
  have h4 := an_and h3.2
  have h5 := an_and h4.2
  have h6 := an_and h5.2
  have h7 := an_and h6.2
  exact Prod.ext (of_decide_eq_true h1.1) (Prod.ext (of_decide_eq_true h2.1) (Prod.ext (of_decide_eq_true h3.1) (Prod.ext (an_eL_ok an_eP_ok h4.1) (Prod.ext (an_eL_ok an_eV_ok h5.1) (Prod.ext (an_eL_ok an_eO_ok h6.1) (Prod.ext (of_decide_eq_true h7.1) (of_decide_eq_true h7.2)))))))
def an_eR (x : Option (List (Bool × an_C))) (y : List (Bool × an_C)) : Bool := match x with
  | none => false
  | some z => an_eL an_eC z y
theorem an_eR_ok {x : Option (List (Bool × an_C))} {y : List (Bool × an_C)} (h : an_eR x y = true) : x = some y := by
  unfold an_eR at h
  split at h
  · cases h
  · rw [an_eL_ok an_eC_ok h]
set_option maxRecDepth 100000 in
theorem an_pre : an_body 0 rf_ms (an_run 0 rf_ms 3000 12) rf_law (fun pc => Nat.beq pc 18) 3000 an_c0 = some [(false, an_st0)] := an_eR_ok (by decide +kernel)
