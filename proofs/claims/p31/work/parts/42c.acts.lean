/-! act: the kinds are no scalars in it, the told body's kind is a number by name, split by its eight values -/
def zb_lwK : List Nat := [0, 1, 2, 3, 4, 5, 6, 7, 8, 9, 10, 11, 12, 13, 14, 15, 16, 17, 18, 19, 20, 21, 22, 23, 24, 25, 26, 27, 28, 29, 30, 31, 32, 33, 34, 35, 36, 37, 38, 39, 40, 41, 42, 43, 44, 45, 46, 47, 48, 49, 50, 51, 52, 53, 54, 56, 57, 58, 59, 60, 61, 62, 63, 64, 65, 66, 67, 68, 69, 70, 71, 72, 73, 74, 75, 76, 77, 78, 79, 80, 81, 82, 83, 85, 86, 87, 88, 89]
def zb_aslo : Bool × List Nat := (true, [0, 1, 2, 4, 5, 6, 99])
noncomputable def zb_aS : zb_St := fun b => bif Nat.beq b 2 then some (zb_hk zb_tA (zb_has zb_lwK) zb_aslo rf_ms (fun _ _ _ _ => none) 3000 2 17 55 50 2 174) else bif Nat.beq b 216 then some (zb_hk zb_tA (zb_has zb_lwK) zb_aslo rf_ms (zb_run zb_tA (zb_has zb_lwK) zb_aslo rf_ms zb_nX 3000 16) 3000 216 21 84 50 2 174) else none
noncomputable def zb_ac (v : Nat) : zb_C := ((List.append zb_LC.1.1 [(Int.ofNat v, Int.ofNat v)], zb_LC.1.2), 887, zb_LC.2.1, [], zb_LC.2.2.2.1.take 66)
noncomputable def zb_aend (e : Bool × zb_C) : Bool := bif e.1 then false else Nat.beq e.2.2.2.2.2.length 66 && zb_lend (false, e.2.1, e.2.2.1, e.2.2.2.1, e.2.2.2.2.1, List.append e.2.2.2.2.2 (zb_LC.2.2.2.1.drop 66))
noncomputable def zb_atst (v : Nat) : Bool := match zb_body zb_tA (zb_has zb_lwK) zb_aslo rf_ms (zb_run zb_tA (zb_has zb_lwK) zb_aslo rf_ms zb_aS 3000 60) rf_law (fun k => Nat.beq k 18) 3000 true (zb_ac v) with
  | some cs => cs.all zb_aend
  | none => false
set_option maxRecDepth 100000 in
theorem zb_a0 : zb_atst 0 = true := by decide +kernel
set_option maxRecDepth 100000 in
theorem zb_a1 : zb_atst 1 = true := by decide +kernel
set_option maxRecDepth 100000 in
theorem zb_a2 : zb_atst 2 = true := by decide +kernel
set_option maxRecDepth 100000 in
theorem zb_a3 : zb_atst 3 = true := by decide +kernel
set_option maxRecDepth 100000 in
theorem zb_a4 : zb_atst 4 = true := by decide +kernel
set_option maxRecDepth 100000 in
theorem zb_a5 : zb_atst 5 = true := by decide +kernel
set_option maxRecDepth 100000 in
theorem zb_a6 : zb_atst 6 = true := by decide +kernel
set_option maxRecDepth 100000 in
theorem zb_a7 : zb_atst 7 = true := by decide +kernel
theorem zb_aall : ∀ v, v < 8 → zb_atst v = true := by
  intro v hv
  have : v = 0 ∨ v = 1 ∨ v = 2 ∨ v = 3 ∨ v = 4 ∨ v = 5 ∨ v = 6 ∨ v = 7 := by omega
  rcases this with rfl | rfl | rfl | rfl | rfl | rfl | rfl | rfl
  · exact zb_a0
  · exact zb_a1
  · exact zb_a2
  · exact zb_a3
  · exact zb_a4
  · exact zb_a5
  · exact zb_a6
  · exact zb_a7
