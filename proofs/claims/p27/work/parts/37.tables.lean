/-! the law's table: 58, 60, 59, 87 as scalars (wip/e3/mk3.py) -/
def zb_tL : zb_T := fun r => bif Nat.beq r 58 then some (.inl (0, 6, .inr (9, .ofNat 66, .ofNat 0))) else bif Nat.beq r 60 then some (.inl (0, 6, .inr (9, .ofNat 72, .ofNat 0))) else bif Nat.beq r 59 then some (.inl (0, 6, .inr (9, .ofNat 78, .ofNat 0))) else bif Nat.beq r 87 then some (.inl (0, 6, .inr (9, .ofNat 84, .ofNat 0))) else zb_tT r
def zb_locL : Nat → Nat × Nat := fun s => bif Nat.blt s 66 then zb_locT s else bif Nat.blt s 72 then (58, s - 66) else bif Nat.blt s 78 then (60, s - 72) else bif Nat.blt s 84 then (59, s - 78) else bif Nat.blt s 90 then (87, s - 84) else (0, 0)
def zb_rsL : List (Nat × Nat × Nat × an_V) := [(58, 6, 66, .inr (1, .negSucc 0, .ofNat 9)), (60, 6, 72, .inr (1, .ofNat 0, .ofNat 60)), (59, 6, 78, .inr (1, .negSucc 2147483647, .ofNat 2147483647)), (87, 6, 84, .inr (1, .ofNat 0, .ofNat 60))]
theorem zb_tL_lt {r : Nat} {t} (h : zb_tL r = some t) : r < 90 := by
  rcases Nat.lt_or_ge r 90 with h1 | h1
  · exact h1
  unfold zb_tL at h
  rw [zb_bne (show ¬ 58 = r by omega), cond_false] at h
  rw [zb_bne (show ¬ 60 = r by omega), cond_false] at h
  rw [zb_bne (show ¬ 59 = r by omega), cond_false] at h
  rw [zb_bne (show ¬ 87 = r by omega), cond_false] at h
  exact zb_tT_lt h
set_option maxRecDepth 100000 in
theorem zb_relL_c : (List.range 90).all (fun r => match zb_tT r with
  | some t => zb_tlt 66 t
  | none => true) = true := by decide +kernel
theorem zb_relL : zb_rel 66 zb_tT zb_tL zb_rsL := by
  refine ⟨fun r h => ?_, ?_, fun r t ht => ?_⟩
  · unfold zb_tL
    rw [zb_bne (h (58, 6, 66, .inr (1, .negSucc 0, .ofNat 9)) (List.mem_of_getElem? (i := 0) rfl)), cond_false]
    rw [zb_bne (h (60, 6, 72, .inr (1, .ofNat 0, .ofNat 60)) (List.mem_of_getElem? (i := 1) rfl)), cond_false]
    rw [zb_bne (h (59, 6, 78, .inr (1, .negSucc 2147483647, .ofNat 2147483647)) (List.mem_of_getElem? (i := 2) rfl)), cond_false]
    rw [zb_bne (h (87, 6, 84, .inr (1, .ofNat 0, .ofNat 60)) (List.mem_of_getElem? (i := 3) rfl)), cond_false]
  · exact List.forall_mem_cons.mpr ⟨⟨rfl, rfl, by decide, rfl⟩, List.forall_mem_cons.mpr ⟨⟨rfl, rfl, by decide, rfl⟩, List.forall_mem_cons.mpr ⟨⟨rfl, rfl, by decide, rfl⟩, List.forall_mem_cons.mpr ⟨⟨rfl, rfl, by decide, rfl⟩, List.forall_mem_nil _⟩⟩⟩⟩
  · have g := List.all_eq_true.mp zb_relL_c r (List.mem_range.mpr (zb_tT_lt ht))
    rw [ht] at g
    exact g
set_option maxRecDepth 100000 in
theorem zb_gL2 : (List.range 90).all (zb_gk2 zb_tL zb_locL) = true := by decide +kernel
set_option maxRecDepth 100000 in
theorem zb_gL3 : (List.range 90).all (zb_gk3 zb_tL zb_locL) = true := by decide +kernel
theorem zb_hlocL : zb_loc zb_tL zb_locL := zb_gloc (fun r t h => zb_tL_lt h) zb_gL2
theorem zb_hlcL : zb_lc2 zb_tL zb_locL 90 := zb_glc zb_gL3
