/-- does the first stretch come to its end? -/
def an_cnt (x : Option (List (Bool × an_C))) : Nat := match x with
  | none => 0
  | some l => l.length
set_option maxRecDepth 100000 in
theorem zz_try1 : an_cnt (an_body 6 rf_ms (an_run 6 rf_ms 3000 12) rf_law (fun pc => Nat.beq pc 18) 3000 an_c0) = 1 := by decide +kernel
