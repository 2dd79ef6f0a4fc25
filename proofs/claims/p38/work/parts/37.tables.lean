/-! the law's table: 58, 59, 55, 84 as scalars (wip/e3/mk3.py) -/
def zb_tL : zb_T := fun r => bif Nat.beq r 58 then some (.inl (0, 6, .inr (9, .ofNat 66, .ofNat 0))) else bif Nat.beq r 59 then some (.inl (0, 6, .inr (9, .ofNat 72, .ofNat 0))) else bif Nat.beq r 55 then some (.inl (0, 50, .inr (9, .ofNat 78, .ofNat 0))) else bif Nat.beq r 84 then some (.inl (0, 50, .inr (9, .ofNat 128, .ofNat 0))) else zb_tT r
def zb_locL : Nat → Nat × Nat := fun s => bif Nat.blt s 66 then zb_locT s else bif Nat.blt s 72 then (58, s - 66) else bif Nat.blt s 78 then (59, s - 72) else bif Nat.blt s 128 then (55, s - 78) else bif Nat.blt s 178 then (84, s - 128) else (0, 0)
def zb_rsL : List (Nat × Nat × Nat × an_V) := [(58, 6, 66, .inr (1, .negSucc 0, .ofNat 9)), (59, 6, 72, .inr (1, .negSucc 2147483647, .ofNat 2147483647)), (55, 50, 78, .inr (1, .ofNat 0, .ofNat 7)), (84, 50, 128, .inr (1, .ofNat 0, .ofNat 7))]
theorem zb_tL_lt {r : Nat} {t} (h : zb_tL r = some t) : r < 90 := by
  rcases Nat.lt_or_ge r 90 with h1 | h1
  · exact h1
  unfold zb_tL at h
  rw [zb_bne (show ¬ 58 = r by omega), cond_false] at h
  rw [zb_bne (show ¬ 59 = r by omega), cond_false] at h
  rw [zb_bne (show ¬ 55 = r by omega), cond_false] at h
  rw [zb_bne (show ¬ 84 = r by omega), cond_false] at h
  exact zb_tT_lt h
set_option maxRecDepth 100000 in
theorem zb_relL_c : (List.range 90).all (fun r => match zb_tT r with
  | some t => zb_tlt 66 t
  | none => true) = true := by decide +kernel
theorem zb_relL : zb_rel 66 zb_tT zb_tL zb_rsL := by
  refine ⟨fun r h => ?_, ?_, fun r t ht => ?_⟩
  · unfold zb_tL
    rw [zb_bne (h (58, 6, 66, .inr (1, .negSucc 0, .ofNat 9)) (List.mem_of_getElem? (i := 0) rfl)), cond_false]
    rw [zb_bne (h (59, 6, 72, .inr (1, .negSucc 2147483647, .ofNat 2147483647)) (List.mem_of_getElem? (i := 1) rfl)), cond_false]
    rw [zb_bne (h (55, 50, 78, .inr (1, .ofNat 0, .ofNat 7)) (List.mem_of_getElem? (i := 2) rfl)), cond_false]
    rw [zb_bne (h (84, 50, 128, .inr (1, .ofNat 0, .ofNat 7)) (List.mem_of_getElem? (i := 3) rfl)), cond_false]
  · exact List.forall_mem_cons.mpr ⟨⟨rfl, rfl, by decide, rfl⟩, List.forall_mem_cons.mpr ⟨⟨rfl, rfl, by decide, rfl⟩, List.forall_mem_cons.mpr ⟨⟨rfl, rfl, by decide, rfl⟩, List.forall_mem_cons.mpr ⟨⟨rfl, rfl, by decide, rfl⟩, List.forall_mem_nil _⟩⟩⟩⟩
  · have g := List.all_eq_true.mp zb_relL_c r (List.mem_range.mpr (zb_tT_lt ht))
    rw [ht] at g
    exact g
set_option maxRecDepth 100000 in
theorem zb_gL2 : (List.range 90).all (zb_gk2 zb_tL zb_locL) = true := by decide +kernel
set_option maxRecDepth 100000 in
theorem zb_gL3 : (List.range 178).all (zb_gk3 zb_tL zb_locL) = true := by decide +kernel
theorem zb_hlocL : zb_loc zb_tL zb_locL := zb_gloc (fun r t h => zb_tL_lt h) zb_gL2
theorem zb_hlcL : zb_lc2 zb_tL zb_locL 178 := zb_glc zb_gL3
/-! in act the kinds are no scalars; one of them is a number by name -/
def zb_tA : zb_T := fun r => bif Nat.beq r 58 then some (.inl (0, 6, .inr (9, .ofNat 66, .ofNat 0))) else bif Nat.beq r 59 then some (.inl (0, 6, .inr (9, .ofNat 72, .ofNat 0))) else zb_tT r
def zb_rsK : List (Nat × Nat × Nat × an_V) := [(55, 50, 78, .inr (1, .ofNat 0, .ofNat 7)), (84, 50, 128, .inr (1, .ofNat 0, .ofNat 7))]
theorem zb_tA_lt {r : Nat} {t} (h : zb_tA r = some t) : r < 90 := by
  rcases Nat.lt_or_ge r 90 with h1 | h1
  · exact h1
  unfold zb_tA at h
  rw [zb_bne (show ¬ 58 = r by omega), cond_false] at h
  rw [zb_bne (show ¬ 59 = r by omega), cond_false] at h
  exact zb_tT_lt h
def zb_tL2 : zb_T := fun r => bif Nat.beq r 55 then some (.inl (0, 50, .inr (9, .ofNat 78, .ofNat 0))) else bif Nat.beq r 84 then some (.inl (0, 50, .inr (9, .ofNat 128, .ofNat 0))) else zb_tA r
theorem zb_tL2_eq : zb_tL2 = zb_tL := by
  funext r
  unfold zb_tL2 zb_tL zb_tA
  by_cases h58 : 58 = r
  · subst h58; rfl
  by_cases h59 : 59 = r
  · subst h59; rfl
  by_cases h55 : 55 = r
  · subst h55; rfl
  by_cases h84 : 84 = r
  · subst h84; rfl
  simp only [zb_bne h58, zb_bne h59, zb_bne h55, zb_bne h84, cond_false]
set_option maxRecDepth 100000 in
theorem zb_relK2_c : (List.range 90).all (fun r => match zb_tA r with
  | some t => zb_tlt 78 t
  | none => true) = true := by decide +kernel
theorem zb_relK2 : zb_rel 78 zb_tA zb_tL2 zb_rsK := by
  refine ⟨fun r h => ?_, ?_, fun r t ht => ?_⟩
  · unfold zb_tL2
    rw [zb_bne (h (55, 50, 78, .inr (1, .ofNat 0, .ofNat 7)) (List.mem_of_getElem? (i := 0) rfl)), cond_false]
    rw [zb_bne (h (84, 50, 128, .inr (1, .ofNat 0, .ofNat 7)) (List.mem_of_getElem? (i := 1) rfl)), cond_false]
  · exact List.forall_mem_cons.mpr ⟨⟨rfl, rfl, by decide, rfl⟩, List.forall_mem_cons.mpr ⟨⟨rfl, rfl, by decide, rfl⟩, List.forall_mem_nil _⟩⟩
  · have g := List.all_eq_true.mp zb_relK2_c r (List.mem_range.mpr (zb_tA_lt ht))
    rw [ht] at g
    exact g
theorem zb_relK : zb_rel 78 zb_tA zb_tL zb_rsK := zb_tL2_eq ▸ zb_relK2
set_option maxRecDepth 100000 in
theorem zb_gA2 : (List.range 90).all (zb_gk2 zb_tA zb_locL) = true := by decide +kernel
theorem zb_hlocA : zb_loc zb_tA zb_locL := zb_gloc (fun r t h => zb_tA_lt h) zb_gA2
