section
variable {p : Program} {l : Launch} {e : Env} {R : Room} {s : State} {m : MethodId} {args : Array Value} {below : List Frame} {meth : Method} {c : Code} {cells slots : Nat} {Q : State → Prop} {own : String} {cc : ByteArray} {nL : Nat} {nm : String} {dD : va_G} {aC : Nat → ClassId} {SA : rf_A} {ad : Nat → Nat} {A : Nat → Prop} {ms : List rf_M} {ret : Option FieldType} {pc : Nat} {L : rf_L} {st : List Value} {σ : rf_S} {r : Nat × rf_L × List Value × rf_S}
theorem rf_s0 (C : rf_Cx p R s m args meth c own cc nL nm dD aC SA ad A) {a : Int} {b k x nxt : Nat} {sw : List (Int × Nat)} (hc : rf_chk ms own cc nm nL ret pc (0, a, b, k, x, nxt, sw) = true) (hs : rf_stp SA (0, a, b, k, x, nxt, sw) L st σ = some r) (hG : rf_G p l e R s m args below meth c cells slots Q nL dD ad aC A r) : rf_G p l e R s m args below meth c cells slots Q nL dD ad aC A (pc, L, st, σ) := by
  obtain ⟨hx, hb, -, hown, hts, -⟩ := C
  intro H locs ls hW hl
  simp only [rf_stp, Option.some.injEq] at hs
  subst hs
  have hg := hG H locs ls hW hl
  simp only [rf_chk] at hc
  split at hc
  · obtain ⟨hd, rfl⟩ := rf_dec_ok hc
    exact lv_iconst hx hb hd rfl hg
  · rw [Bool.and_eq_true] at hc
    obtain ⟨hd, rfl⟩ := rf_dec_ok hc.1
    exact lv_bipush hx hb hd (of_decide_eq_true hc.2) hg
  · rw [Bool.and_eq_true] at hc
    obtain ⟨hd, rfl⟩ := rf_dec_ok hc.1
    exact lv_sipush hx hb hd (of_decide_eq_true hc.2) hg
  · rw [Bool.and_eq_true] at hc
    obtain ⟨hd, rfl⟩ := rf_dec_ok hc.1
    exact lv_ldc hx hb hown (hts _ (rf_lk_tb hc.2 rfl)) hd hg
  · rw [Bool.and_eq_true] at hc
    obtain ⟨hd, rfl⟩ := rf_dec_ok hc.1
    exact lv_ldcw hx hb hown (hts _ (rf_lk_tb hc.2 rfl)) hd hg
theorem rf_s1 (C : rf_Cx p R s m args meth c own cc nL nm dD aC SA ad A) {a : Int} {b k x nxt : Nat} {sw : List (Int × Nat)} (hc : rf_chk ms own cc nm nL ret pc (1, a, b, k, x, nxt, sw) = true) (hs : rf_stp SA (1, a, b, k, x, nxt, sw) L st σ = some r) (hG : rf_G p l e R s m args below meth c cells slots Q nL dD ad aC A r) : rf_G p l e R s m args below meth c cells slots Q nL dD ad aC A (pc, L, st, σ) := by
  obtain ⟨hx, hb, -, hown, hts, -⟩ := C
  intro H locs ls hW hl
  simp only [rf_stp, Option.some.injEq] at hs
  subst hs
  have hg := hG H locs ls hW hl
  simp only [rf_chk] at hc
  split at hc
  · rw [Bool.and_eq_true] at hc
    obtain ⟨hd, rfl⟩ := rf_dec_ok hc.1
    exact lv_lconst hx hb hd (of_decide_eq_true hc.2) hg
  · rw [Bool.and_eq_true] at hc
    obtain ⟨hd, rfl⟩ := rf_dec_ok hc.1
    exact lv_ldc2 hx hb hown (hts _ (rf_lk_tb hc.2 rfl)) hd hg
theorem rf_c4_v {b : Nat} (h : Nat.blt b 4 = true) : ((rf_c4 b : Fin 4) : Nat) = b := Nat.mod_eq_of_lt (Nat.le_of_ble_eq_true h)
theorem rf_s2 (C : rf_Cx p R s m args meth c own cc nL nm dD aC SA ad A) {a : Int} {b k x nxt : Nat} {sw : List (Int × Nat)} (hc : rf_chk ms own cc nm nL ret pc (2, a, b, k, x, nxt, sw) = true) (hs : rf_stp SA (2, a, b, k, x, nxt, sw) L st σ = some r) (hG : rf_G p l e R s m args below meth c cells slots Q nL dD ad aC A r) : rf_G p l e R s m args below meth c cells slots Q nL dD ad aC A (pc, L, st, σ) := by
  obtain ⟨hx, hb, -⟩ := C
  intro H locs ls hW hl
  simp only [rf_stp] at hs
  split at hs
  case h_2 => cases hs
  case h_1 v hv =>
  cases hs
  have hg := hG H locs ls hW hl
  have hat := rf_get_at hv hl
  simp only [rf_chk] at hc
  split at hc
  · rw [Bool.and_eq_true] at hc
    obtain ⟨hd, rfl⟩ := rf_dec_ok hc.1
    exact lv_iload_n hx hb hd (rf_c4_v hc.2) hat hg
  · obtain ⟨hd, rfl⟩ := rf_dec_ok hc
    exact lv_iload hx hb hd hat hg
theorem rf_s3 (C : rf_Cx p R s m args meth c own cc nL nm dD aC SA ad A) {a : Int} {b k x nxt : Nat} {sw : List (Int × Nat)} (hc : rf_chk ms own cc nm nL ret pc (3, a, b, k, x, nxt, sw) = true) (hs : rf_stp SA (3, a, b, k, x, nxt, sw) L st σ = some r) (hG : rf_G p l e R s m args below meth c cells slots Q nL dD ad aC A r) : rf_G p l e R s m args below meth c cells slots Q nL dD ad aC A (pc, L, st, σ) := by
  obtain ⟨hx, hb, -⟩ := C
  intro H locs ls hW hl
  simp only [rf_stp] at hs
  split at hs
  case h_2 => cases hs
  case h_1 v hv =>
  cases hs
  have hg := hG H locs ls hW hl
  have hat := rf_get_at hv hl
  simp only [rf_chk] at hc
  split at hc
  · rw [Bool.and_eq_true] at hc
    obtain ⟨hd, rfl⟩ := rf_dec_ok hc.1
    exact lv_lload_n hx hb hd (rf_c4_v hc.2) hat hg
  · obtain ⟨hd, rfl⟩ := rf_dec_ok hc
    exact lv_lload hx hb hd hat hg
theorem rf_s4 (C : rf_Cx p R s m args meth c own cc nL nm dD aC SA ad A) {a : Int} {b k x nxt : Nat} {sw : List (Int × Nat)} (hc : rf_chk ms own cc nm nL ret pc (4, a, b, k, x, nxt, sw) = true) (hs : rf_stp SA (4, a, b, k, x, nxt, sw) L st σ = some r) (hG : rf_G p l e R s m args below meth c cells slots Q nL dD ad aC A r) : rf_G p l e R s m args below meth c cells slots Q nL dD ad aC A (pc, L, st, σ) := by
  obtain ⟨hx, hb, -⟩ := C
  intro H locs ls hW hl
  simp only [rf_stp] at hs
  split at hs
  case h_2 => cases hs
  case h_1 v hv =>
  cases hs
  have hg := hG H locs ls hW hl
  have hat := rf_get_at hv hl
  simp only [rf_chk] at hc
  split at hc
  · rw [Bool.and_eq_true] at hc
    obtain ⟨hd, rfl⟩ := rf_dec_ok hc.1
    exact lv_aload_n hx hb hd (rf_c4_v hc.2) hat hg
  · obtain ⟨hd, rfl⟩ := rf_dec_ok hc
    exact lv_aload hx hb hd hat hg
theorem rf_s5 (C : rf_Cx p R s m args meth c own cc nL nm dD aC SA ad A) {a : Int} {b k x nxt : Nat} {sw : List (Int × Nat)} (hc : rf_chk ms own cc nm nL ret pc (5, a, b, k, x, nxt, sw) = true) (hs : rf_stp SA (5, a, b, k, x, nxt, sw) L st σ = some r) (hG : rf_G p l e R s m args below meth c cells slots Q nL dD ad aC A r) : rf_G p l e R s m args below meth c cells slots Q nL dD ad aC A (pc, L, st, σ) := by
  obtain ⟨hx, hb, -⟩ := C
  intro H locs ls hW hl
  simp only [rf_stp] at hs
  split at hs
  case h_2 => cases hs
  case h_1 v rr =>
  cases hs
  simp only [rf_chk, Bool.and_eq_true] at hc
  obtain ⟨hc, hn⟩ := hc
  have hn : b < nL := Nat.le_of_ble_eq_true hn
  split at hc
  · rw [Bool.and_eq_true] at hc
    obtain ⟨hd, rfl⟩ := rf_dec_ok hc.1
    exact lv_istore_n hx hb hd (rf_c4_v hc.2) hl hn (rf_mL_set ad L b (.int v)) (fun ls' hl' => hG H locs ls' hW hl')
  · obtain ⟨hd, rfl⟩ := rf_dec_ok hc
    exact lv_istore hx hb hd hl hn (rf_mL_set ad L b (.int v)) (fun ls' hl' => hG H locs ls' hW hl')
theorem rf_s6 (C : rf_Cx p R s m args meth c own cc nL nm dD aC SA ad A) {a : Int} {b k x nxt : Nat} {sw : List (Int × Nat)} (hc : rf_chk ms own cc nm nL ret pc (6, a, b, k, x, nxt, sw) = true) (hs : rf_stp SA (6, a, b, k, x, nxt, sw) L st σ = some r) (hG : rf_G p l e R s m args below meth c cells slots Q nL dD ad aC A r) : rf_G p l e R s m args below meth c cells slots Q nL dD ad aC A (pc, L, st, σ) := by
  obtain ⟨hx, hb, -⟩ := C
  intro H locs ls hW hl
  simp only [rf_stp] at hs
  split at hs
  case h_2 => cases hs
  case h_1 v rr =>
  cases hs
  simp only [rf_chk, Bool.and_eq_true] at hc
  obtain ⟨hc, hn⟩ := hc
  have hn : b < nL := Nat.le_of_ble_eq_true hn
  split at hc
  · rw [Bool.and_eq_true] at hc
    obtain ⟨hd, rfl⟩ := rf_dec_ok hc.1
    exact lv_astore_n hx hb hd (rf_c4_v hc.2) hl hn (rf_mL_set ad L b (.ref v)) (fun ls' hl' => hG H locs ls' hW hl')
  · obtain ⟨hd, rfl⟩ := rf_dec_ok hc
    exact lv_astore hx hb hd hl hn (rf_mL_set ad L b (.ref v)) (fun ls' hl' => hG H locs ls' hW hl')
theorem rf_s8 (C : rf_Cx p R s m args meth c own cc nL nm dD aC SA ad A) {a : Int} {b k x nxt : Nat} {sw : List (Int × Nat)} (hc : rf_chk ms own cc nm nL ret pc (8, a, b, k, x, nxt, sw) = true) (hs : rf_stp SA (8, a, b, k, x, nxt, sw) L st σ = some r) (hG : rf_G p l e R s m args below meth c cells slots Q nL dD ad aC A r) : rf_G p l e R s m args below meth c cells slots Q nL dD ad aC A (pc, L, st, σ) := by
  obtain ⟨hx, hb, -⟩ := C
  intro H locs ls hW hl
  simp only [rf_stp] at hs
  split at hs
  case h_2 => cases hs
  case h_1 v hv =>
  cases hs
  simp only [rf_chk, Bool.and_eq_true] at hc
  obtain ⟨hd, rfl⟩ := rf_dec_ok hc.1
  have hn : b < nL := Nat.le_of_ble_eq_true hc.2
  obtain ⟨j, hj⟩ := List.getElem?_of_mem (List.mem_map.mpr ⟨(b, Value.int v), rf_get_mem hv, rfl⟩ : (b, rf_mv ad (.int v)) ∈ rf_mL ad L)
  exact lv_iinc hx hb hd hl hj rfl hn (rf_mL_set ad L b (.int (v + Int32.ofInt a))) (fun ls' hl' => hG H locs ls' hW hl')
theorem rf_s9 (C : rf_Cx p R s m args meth c own cc nL nm dD aC SA ad A) {a : Int} {b k x nxt : Nat} {sw : List (Int × Nat)} (hc : rf_chk ms own cc nm nL ret pc (9, a, b, k, x, nxt, sw) = true) (hs : rf_stp SA (9, a, b, k, x, nxt, sw) L st σ = some r) (hG : rf_G p l e R s m args below meth c cells slots Q nL dD ad aC A r) : rf_G p l e R s m args below meth c cells slots Q nL dD ad aC A (pc, L, st, σ) := by
  obtain ⟨hx, hb, -⟩ := C
  intro H locs ls hW hl
  simp only [rf_stp] at hs
  split at hs
  case h_2 => cases hs
  case h_1 y z rr =>
  cases hs
  have hg := hG H locs ls hW hl
  simp only [rf_chk] at hc
  match b, hc, hg with
  | 0, hc, hg => obtain ⟨hd, rfl⟩ := rf_dec_ok hc; exact lv_iadd hx hb hd hg
  | 1, hc, hg => obtain ⟨hd, rfl⟩ := rf_dec_ok hc; exact lv_isub hx hb hd hg
  | 2, hc, hg => obtain ⟨hd, rfl⟩ := rf_dec_ok hc; exact lv_imul hx hb hd hg
  | 3, hc, hg => obtain ⟨hd, rfl⟩ := rf_dec_ok hc; exact lv_iand hx hb hd hg
  | 4, hc, hg => obtain ⟨hd, rfl⟩ := rf_dec_ok hc; exact lv_ior hx hb hd hg
  | 5, hc, hg => obtain ⟨hd, rfl⟩ := rf_dec_ok hc; exact lv_ixor hx hb hd hg
  | 6, hc, hg => obtain ⟨hd, rfl⟩ := rf_dec_ok hc; exact lv_ishl hx hb hd hg
  | 7, hc, hg => obtain ⟨hd, rfl⟩ := rf_dec_ok hc; exact lv_ishr hx hb hd hg
  | n + 8, hc, hg => obtain ⟨hd, rfl⟩ := rf_dec_ok hc; exact lv_iushr hx hb hd rfl hg
theorem rf_s10 (C : rf_Cx p R s m args meth c own cc nL nm dD aC SA ad A) {a : Int} {b k x nxt : Nat} {sw : List (Int × Nat)} (hc : rf_chk ms own cc nm nL ret pc (10, a, b, k, x, nxt, sw) = true) (hs : rf_stp SA (10, a, b, k, x, nxt, sw) L st σ = some r) (hG : rf_G p l e R s m args below meth c cells slots Q nL dD ad aC A r) : rf_G p l e R s m args below meth c cells slots Q nL dD ad aC A (pc, L, st, σ) := by
  obtain ⟨hx, hb, -⟩ := C
  intro H locs ls hW hl
  simp only [rf_stp] at hs
  split at hs
  case h_2 => cases hs
  case h_1 y z rr =>
  by_cases hy : y = 0
  · rw [decide_eq_true hy] at hs; cases hs
  · rw [decide_eq_false hy] at hs
    cases hs
    simp only [rf_chk] at hc
    obtain ⟨hd, rfl⟩ := rf_dec_ok hc
    exact lv_idiv hx hb hd hy (hG H locs ls hW hl)
theorem rf_s11 (C : rf_Cx p R s m args meth c own cc nL nm dD aC SA ad A) {a : Int} {b k x nxt : Nat} {sw : List (Int × Nat)} (hc : rf_chk ms own cc nm nL ret pc (11, a, b, k, x, nxt, sw) = true) (hs : rf_stp SA (11, a, b, k, x, nxt, sw) L st σ = some r) (hG : rf_G p l e R s m args below meth c cells slots Q nL dD ad aC A r) : rf_G p l e R s m args below meth c cells slots Q nL dD ad aC A (pc, L, st, σ) := by
  obtain ⟨hx, hb, -⟩ := C
  intro H locs ls hW hl
  simp only [rf_stp] at hs
  split at hs
  case h_2 => cases hs
  case h_1 y z rr =>
  by_cases hy : y = 0
  · rw [decide_eq_true hy] at hs; cases hs
  · rw [decide_eq_false hy] at hs
    cases hs
    simp only [rf_chk] at hc
    obtain ⟨hd, rfl⟩ := rf_dec_ok hc
    exact lv_irem hx hb hd hy (hG H locs ls hW hl)
theorem rf_s12 (C : rf_Cx p R s m args meth c own cc nL nm dD aC SA ad A) {a : Int} {b k x nxt : Nat} {sw : List (Int × Nat)} (hc : rf_chk ms own cc nm nL ret pc (12, a, b, k, x, nxt, sw) = true) (hs : rf_stp SA (12, a, b, k, x, nxt, sw) L st σ = some r) (hG : rf_G p l e R s m args below meth c cells slots Q nL dD ad aC A r) : rf_G p l e R s m args below meth c cells slots Q nL dD ad aC A (pc, L, st, σ) := by
  obtain ⟨hx, hb, hml, hown, hts, hK, hSt, hA, hnm, hNx, hfr, hlo⟩ := C
  intro H locs ls hW hl
  simp only [rf_stp] at hs
  split at hs
  case h_2 => cases hs
  case h_1 =>
  cases hs
  simp only [rf_chk] at hc
  obtain ⟨hd, rfl⟩ := rf_dec_ok hc
  exact lv_ineg hx hb hd (hG H locs ls hW hl)
theorem rf_s13 (C : rf_Cx p R s m args meth c own cc nL nm dD aC SA ad A) {a : Int} {b k x nxt : Nat} {sw : List (Int × Nat)} (hc : rf_chk ms own cc nm nL ret pc (13, a, b, k, x, nxt, sw) = true) (hs : rf_stp SA (13, a, b, k, x, nxt, sw) L st σ = some r) (hG : rf_G p l e R s m args below meth c cells slots Q nL dD ad aC A r) : rf_G p l e R s m args below meth c cells slots Q nL dD ad aC A (pc, L, st, σ) := by
  obtain ⟨hx, hb, hml, hown, hts, hK, hSt, hA, hnm, hNx, hfr, hlo⟩ := C
  intro H locs ls hW hl
  simp only [rf_stp] at hs
  split at hs
  case h_2 => cases hs
  case h_1 =>
  cases hs
  simp only [rf_chk] at hc
  obtain ⟨hd, rfl⟩ := rf_dec_ok hc
  exact lv_i2l hx hb hd rfl (hG H locs ls hW hl)
theorem rf_s14 (C : rf_Cx p R s m args meth c own cc nL nm dD aC SA ad A) {a : Int} {b k x nxt : Nat} {sw : List (Int × Nat)} (hc : rf_chk ms own cc nm nL ret pc (14, a, b, k, x, nxt, sw) = true) (hs : rf_stp SA (14, a, b, k, x, nxt, sw) L st σ = some r) (hG : rf_G p l e R s m args below meth c cells slots Q nL dD ad aC A r) : rf_G p l e R s m args below meth c cells slots Q nL dD ad aC A (pc, L, st, σ) := by
  obtain ⟨hx, hb, hml, hown, hts, hK, hSt, hA, hnm, hNx, hfr, hlo⟩ := C
  intro H locs ls hW hl
  simp only [rf_stp] at hs
  split at hs
  case h_2 => cases hs
  case h_1 =>
  cases hs
  simp only [rf_chk] at hc
  obtain ⟨hd, rfl⟩ := rf_dec_ok hc
  exact lv_l2i hx hb hd rfl (hG H locs ls hW hl)
theorem rf_s15 (C : rf_Cx p R s m args meth c own cc nL nm dD aC SA ad A) {a : Int} {b k x nxt : Nat} {sw : List (Int × Nat)} (hc : rf_chk ms own cc nm nL ret pc (15, a, b, k, x, nxt, sw) = true) (hs : rf_stp SA (15, a, b, k, x, nxt, sw) L st σ = some r) (hG : rf_G p l e R s m args below meth c cells slots Q nL dD ad aC A r) : rf_G p l e R s m args below meth c cells slots Q nL dD ad aC A (pc, L, st, σ) := by
  obtain ⟨hx, hb, hml, hown, hts, hK, hSt, hA, hnm, hNx, hfr, hlo⟩ := C
  intro H locs ls hW hl
  simp only [rf_stp] at hs
  split at hs
  case h_2 => cases hs
  case h_1 =>
  cases hs
  simp only [rf_chk] at hc
  obtain ⟨hd, rfl⟩ := rf_dec_ok hc
  exact lv_i2b hx hb hd rfl (hG H locs ls hW hl)
theorem rf_s16 (C : rf_Cx p R s m args meth c own cc nL nm dD aC SA ad A) {a : Int} {b k x nxt : Nat} {sw : List (Int × Nat)} (hc : rf_chk ms own cc nm nL ret pc (16, a, b, k, x, nxt, sw) = true) (hs : rf_stp SA (16, a, b, k, x, nxt, sw) L st σ = some r) (hG : rf_G p l e R s m args below meth c cells slots Q nL dD ad aC A r) : rf_G p l e R s m args below meth c cells slots Q nL dD ad aC A (pc, L, st, σ) := by
  obtain ⟨hx, hb, hml, hown, hts, hK, hSt, hA, hnm, hNx, hfr, hlo⟩ := C
  intro H locs ls hW hl
  simp only [rf_stp] at hs
  split at hs
  case h_2 => cases hs
  case h_1 =>
  cases hs
  simp only [rf_chk] at hc
  obtain ⟨hd, rfl⟩ := rf_dec_ok hc
  exact lv_i2s hx hb hd rfl (hG H locs ls hW hl)
theorem rf_s17 (C : rf_Cx p R s m args meth c own cc nL nm dD aC SA ad A) {a : Int} {b k x nxt : Nat} {sw : List (Int × Nat)} (hc : rf_chk ms own cc nm nL ret pc (17, a, b, k, x, nxt, sw) = true) (hs : rf_stp SA (17, a, b, k, x, nxt, sw) L st σ = some r) (hG : rf_G p l e R s m args below meth c cells slots Q nL dD ad aC A r) : rf_G p l e R s m args below meth c cells slots Q nL dD ad aC A (pc, L, st, σ) := by
  obtain ⟨hx, hb, hml, hown, hts, hK, hSt, hA, hnm, hNx, hfr, hlo⟩ := C
  intro H locs ls hW hl
  simp only [rf_stp] at hs
  split at hs
  case h_2 => cases hs
  case h_1 =>
  cases hs
  have hg := hG H locs ls hW hl
  simp only [rf_chk] at hc
  match b, hc, hg with
  | 0, hc, hg => obtain ⟨hd, rfl⟩ := rf_dec_ok hc; exact lv_land hx hb hd hg
  | n + 1, hc, hg => obtain ⟨hd, rfl⟩ := rf_dec_ok hc; exact lv_lor hx hb hd hg
theorem rf_s18 (C : rf_Cx p R s m args meth c own cc nL nm dD aC SA ad A) {a : Int} {b k x nxt : Nat} {sw : List (Int × Nat)} (hc : rf_chk ms own cc nm nL ret pc (18, a, b, k, x, nxt, sw) = true) (hs : rf_stp SA (18, a, b, k, x, nxt, sw) L st σ = some r) (hG : rf_G p l e R s m args below meth c cells slots Q nL dD ad aC A r) : rf_G p l e R s m args below meth c cells slots Q nL dD ad aC A (pc, L, st, σ) := by
  obtain ⟨hx, hb, hml, hown, hts, hK, hSt, hA, hnm, hNx, hfr, hlo⟩ := C
  intro H locs ls hW hl
  simp only [rf_stp] at hs
  split at hs
  case h_2 => cases hs
  case h_1 =>
  cases hs
  simp only [rf_chk] at hc
  obtain ⟨hd, rfl⟩ := rf_dec_ok hc
  exact lv_lshl hx hb hd rfl (hG H locs ls hW hl)
theorem rf_s19 (C : rf_Cx p R s m args meth c own cc nL nm dD aC SA ad A) {a : Int} {b k x nxt : Nat} {sw : List (Int × Nat)} (hc : rf_chk ms own cc nm nL ret pc (19, a, b, k, x, nxt, sw) = true) (hs : rf_stp SA (19, a, b, k, x, nxt, sw) L st σ = some r) (hG : rf_G p l e R s m args below meth c cells slots Q nL dD ad aC A r) : rf_G p l e R s m args below meth c cells slots Q nL dD ad aC A (pc, L, st, σ) := by
  obtain ⟨hx, hb, hml, hown, hts, hK, hSt, hA, hnm, hNx, hfr, hlo⟩ := C
  intro H locs ls hW hl
  simp only [rf_stp] at hs
  split at hs
  case h_2 => cases hs
  case h_1 =>
  cases hs
  simp only [rf_chk] at hc
  obtain ⟨hd, rfl⟩ := rf_dec_ok hc
  exact W.lcmp hx hb hd (hG H locs ls hW hl)
theorem rf_s20 (C : rf_Cx p R s m args meth c own cc nL nm dD aC SA ad A) {a : Int} {b k x nxt : Nat} {sw : List (Int × Nat)} (hc : rf_chk ms own cc nm nL ret pc (20, a, b, k, x, nxt, sw) = true) (hs : rf_stp SA (20, a, b, k, x, nxt, sw) L st σ = some r) (hG : rf_G p l e R s m args below meth c cells slots Q nL dD ad aC A r) : rf_G p l e R s m args below meth c cells slots Q nL dD ad aC A (pc, L, st, σ) := by
  obtain ⟨hx, hb, hml, hown, hts, hK, hSt, hA, hnm, hNx, hfr, hlo⟩ := C
  intro H locs ls hW hl
  simp only [rf_stp] at hs
  split at hs
  case h_2 => cases hs
  case h_1 =>
  rw [cond_eq_ite] at hs
  split at hs
  case isFalse => cases hs
  case isTrue hcat =>
  cases hs
  simp only [rf_chk] at hc
  obtain ⟨hd, rfl⟩ := rf_dec_ok hc
  exact lv_dup hx hb hd (by rw [rf_mv_cat]; exact eq_of_beq hcat) (hG H locs ls hW hl)
theorem rf_s21 (C : rf_Cx p R s m args meth c own cc nL nm dD aC SA ad A) {a : Int} {b k x nxt : Nat} {sw : List (Int × Nat)} (hc : rf_chk ms own cc nm nL ret pc (21, a, b, k, x, nxt, sw) = true) (hs : rf_stp SA (21, a, b, k, x, nxt, sw) L st σ = some r) (hG : rf_G p l e R s m args below meth c cells slots Q nL dD ad aC A r) : rf_G p l e R s m args below meth c cells slots Q nL dD ad aC A (pc, L, st, σ) := by
  obtain ⟨hx, hb, hml, hown, hts, hK, hSt, hA, hnm, hNx, hfr, hlo⟩ := C
  intro H locs ls hW hl
  simp only [rf_stp] at hs
  split at hs
  case h_2 => cases hs
  case h_1 =>
  rw [cond_eq_ite] at hs
  split at hs
  case isFalse => cases hs
  case isTrue hcat =>
  cases hs
  simp only [rf_chk] at hc
  obtain ⟨hd, rfl⟩ := rf_dec_ok hc
  rw [Bool.and_eq_true] at hcat
  exact lv_dup_x1 hx hb hd (by rw [rf_mv_cat]; exact eq_of_beq hcat.1) (by rw [rf_mv_cat]; exact eq_of_beq hcat.2) (hG H locs ls hW hl)
theorem rf_s22 (C : rf_Cx p R s m args meth c own cc nL nm dD aC SA ad A) {a : Int} {b k x nxt : Nat} {sw : List (Int × Nat)} (hc : rf_chk ms own cc nm nL ret pc (22, a, b, k, x, nxt, sw) = true) (hs : rf_stp SA (22, a, b, k, x, nxt, sw) L st σ = some r) (hG : rf_G p l e R s m args below meth c cells slots Q nL dD ad aC A r) : rf_G p l e R s m args below meth c cells slots Q nL dD ad aC A (pc, L, st, σ) := by
  obtain ⟨hx, hb, hml, hown, hts, hK, hSt, hA, hnm, hNx, hfr, hlo⟩ := C
  intro H locs ls hW hl
  simp only [rf_stp] at hs
  split at hs
  case h_2 => cases hs
  case h_1 =>
  rw [cond_eq_ite] at hs
  split at hs
  case isFalse => cases hs
  case isTrue hcat =>
  cases hs
  simp only [rf_chk] at hc
  obtain ⟨hd, rfl⟩ := rf_dec_ok hc
  rw [Bool.and_eq_true] at hcat
  exact lv_dup2_11 hx hb hd (by rw [rf_mv_cat]; exact eq_of_beq hcat.1) (by rw [rf_mv_cat]; exact eq_of_beq hcat.2) (hG H locs ls hW hl)
theorem rf_s23 (C : rf_Cx p R s m args meth c own cc nL nm dD aC SA ad A) {a : Int} {b k x nxt : Nat} {sw : List (Int × Nat)} (hc : rf_chk ms own cc nm nL ret pc (23, a, b, k, x, nxt, sw) = true) (hs : rf_stp SA (23, a, b, k, x, nxt, sw) L st σ = some r) (hG : rf_G p l e R s m args below meth c cells slots Q nL dD ad aC A r) : rf_G p l e R s m args below meth c cells slots Q nL dD ad aC A (pc, L, st, σ) := by
  obtain ⟨hx, hb, hml, hown, hts, hK, hSt, hA, hnm, hNx, hfr, hlo⟩ := C
  intro H locs ls hW hl
  simp only [rf_stp] at hs
  split at hs
  case h_2 => cases hs
  case h_1 =>
  rw [cond_eq_ite] at hs
  split at hs
  case isFalse => cases hs
  case isTrue hcat =>
  cases hs
  simp only [rf_chk] at hc
  obtain ⟨hd, rfl⟩ := rf_dec_ok hc
  exact lv_pop hx hb hd (by rw [rf_mv_cat]; exact eq_of_beq hcat) (hG H locs ls hW hl)
theorem rf_s24 (C : rf_Cx p R s m args meth c own cc nL nm dD aC SA ad A) {a : Int} {b k x nxt : Nat} {sw : List (Int × Nat)} (hc : rf_chk ms own cc nm nL ret pc (24, a, b, k, x, nxt, sw) = true) (hs : rf_stp SA (24, a, b, k, x, nxt, sw) L st σ = some r) (hG : rf_G p l e R s m args below meth c cells slots Q nL dD ad aC A r) : rf_G p l e R s m args below meth c cells slots Q nL dD ad aC A (pc, L, st, σ) := by
  obtain ⟨hx, hb, hml, hown, hts, hK, hSt, hA, hnm, hNx, hfr, hlo⟩ := C
  intro H locs ls hW hl
  simp only [rf_stp] at hs
  split at hs
  case h_2 => cases hs
  case h_1 =>
  rw [cond_eq_ite] at hs
  split at hs
  case isFalse => cases hs
  case isTrue hcat =>
  cases hs
  simp only [rf_chk] at hc
  obtain ⟨hd, rfl⟩ := rf_dec_ok hc
  exact lv_pop2_2 hx hb hd (by rw [rf_mv_cat]; exact eq_of_beq hcat) (hG H locs ls hW hl)
theorem rf_s25 (C : rf_Cx p R s m args meth c own cc nL nm dD aC SA ad A) {a : Int} {b k x nxt : Nat} {sw : List (Int × Nat)} (hc : rf_chk ms own cc nm nL ret pc (25, a, b, k, x, nxt, sw) = true) (hs : rf_stp SA (25, a, b, k, x, nxt, sw) L st σ = some r) (hG : rf_G p l e R s m args below meth c cells slots Q nL dD ad aC A r) : rf_G p l e R s m args below meth c cells slots Q nL dD ad aC A (pc, L, st, σ) := by
  obtain ⟨hx, hb, hml, hown, hts, hK, hSt, hA, hnm, hNx, hfr, hlo⟩ := C
  intro H locs ls hW hl
  simp only [rf_stp] at hs
  split at hs
  case h_2 => cases hs
  case h_1 =>
  cases hs
  have hg := hG H locs ls hW hl
  simp only [rf_chk, Bool.and_eq_true, decide_eq_true_eq] at hc
  obtain ⟨hc, ht⟩ := hc
  match b, hc, hg with
  | 0, hc, hg => obtain ⟨hd, rfl⟩ := rf_dec_ok hc; exact lv_if_eq hx hb hd ht (fun q => by simpa only [rf_cmp, decide_eq_true q, cond_true] using hg) (fun q => by simpa only [rf_cmp, decide_eq_false q, cond_false] using hg)
  | 1, hc, hg => obtain ⟨hd, rfl⟩ := rf_dec_ok hc; exact lv_if_ne hx hb hd ht (fun q => by simpa only [rf_cmp, decide_eq_false q, Bool.not_false, cond_true] using hg) (fun q => by simpa only [rf_cmp, decide_eq_true q, Bool.not_true, cond_false] using hg)
  | 2, hc, hg => obtain ⟨hd, rfl⟩ := rf_dec_ok hc; exact lv_if_lt hx hb hd ht (fun q => by simpa only [rf_cmp, decide_eq_true q, cond_true] using hg) (fun q => by simpa only [rf_cmp, decide_eq_false q, cond_false] using hg)
  | 3, hc, hg => obtain ⟨hd, rfl⟩ := rf_dec_ok hc; exact lv_if_ge hx hb hd ht (fun q => by simpa only [rf_cmp, decide_eq_true q, cond_true] using hg) (fun q => by simpa only [rf_cmp, decide_eq_false q, cond_false] using hg)
  | 4, hc, hg => obtain ⟨hd, rfl⟩ := rf_dec_ok hc; exact lv_if_gt hx hb hd ht (fun q => by simpa only [rf_cmp, decide_eq_true q, cond_true] using hg) (fun q => by simpa only [rf_cmp, decide_eq_false q, cond_false] using hg)
  | n + 5, hc, hg => obtain ⟨hd, rfl⟩ := rf_dec_ok hc; exact lv_if_le hx hb hd ht (fun q => by simpa only [rf_cmp, decide_eq_true q, cond_true] using hg) (fun q => by simpa only [rf_cmp, decide_eq_false q, cond_false] using hg)
theorem rf_s26 (C : rf_Cx p R s m args meth c own cc nL nm dD aC SA ad A) {a : Int} {b k x nxt : Nat} {sw : List (Int × Nat)} (hc : rf_chk ms own cc nm nL ret pc (26, a, b, k, x, nxt, sw) = true) (hs : rf_stp SA (26, a, b, k, x, nxt, sw) L st σ = some r) (hG : rf_G p l e R s m args below meth c cells slots Q nL dD ad aC A r) : rf_G p l e R s m args below meth c cells slots Q nL dD ad aC A (pc, L, st, σ) := by
  obtain ⟨hx, hb, hml, hown, hts, hK, hSt, hA, hnm, hNx, hfr, hlo⟩ := C
  intro H locs ls hW hl
  simp only [rf_stp] at hs
  split at hs
  case h_2 => cases hs
  case h_1 =>
  cases hs
  have hg := hG H locs ls hW hl
  simp only [rf_chk, Bool.and_eq_true, decide_eq_true_eq] at hc
  obtain ⟨hc, ht⟩ := hc
  match b, hc, hg with
  | 0, hc, hg => obtain ⟨hd, rfl⟩ := rf_dec_ok hc; exact lv_icmp_eq hx hb hd ht (fun q => by simpa only [rf_cmp, decide_eq_true q, cond_true] using hg) (fun q => by simpa only [rf_cmp, decide_eq_false q, cond_false] using hg)
  | 1, hc, hg => obtain ⟨hd, rfl⟩ := rf_dec_ok hc; exact lv_icmp_ne hx hb hd ht (fun q => by simpa only [rf_cmp, decide_eq_false q, Bool.not_false, cond_true] using hg) (fun q => by simpa only [rf_cmp, decide_eq_true q, Bool.not_true, cond_false] using hg)
  | 2, hc, hg => obtain ⟨hd, rfl⟩ := rf_dec_ok hc; exact lv_icmp_lt hx hb hd ht (fun q => by simpa only [rf_cmp, decide_eq_true q, cond_true] using hg) (fun q => by simpa only [rf_cmp, decide_eq_false q, cond_false] using hg)
  | 3, hc, hg => obtain ⟨hd, rfl⟩ := rf_dec_ok hc; exact lv_icmp_ge hx hb hd ht (fun q => by simpa only [rf_cmp, decide_eq_true q, cond_true] using hg) (fun q => by simpa only [rf_cmp, decide_eq_false q, cond_false] using hg)
  | 4, hc, hg => obtain ⟨hd, rfl⟩ := rf_dec_ok hc; exact lv_icmp_gt hx hb hd ht (fun q => by simpa only [rf_cmp, decide_eq_true q, cond_true] using hg) (fun q => by simpa only [rf_cmp, decide_eq_false q, cond_false] using hg)
  | n + 5, hc, hg => obtain ⟨hd, rfl⟩ := rf_dec_ok hc; exact lv_icmp_le hx hb hd ht (fun q => by simpa only [rf_cmp, decide_eq_true q, cond_true] using hg) (fun q => by simpa only [rf_cmp, decide_eq_false q, cond_false] using hg)
theorem rf_s27 (C : rf_Cx p R s m args meth c own cc nL nm dD aC SA ad A) {a : Int} {b k x nxt : Nat} {sw : List (Int × Nat)} (hc : rf_chk ms own cc nm nL ret pc (27, a, b, k, x, nxt, sw) = true) (hs : rf_stp SA (27, a, b, k, x, nxt, sw) L st σ = some r) (hG : rf_G p l e R s m args below meth c cells slots Q nL dD ad aC A r) : rf_G p l e R s m args below meth c cells slots Q nL dD ad aC A (pc, L, st, σ) := by
  obtain ⟨hx, hb, hml, hown, hts, hK, hSt, hA, hnm, hNx, hfr, hlo⟩ := C
  intro H locs ls hW hl
  simp only [rf_stp] at hs
  cases hs
  simp only [rf_chk, Bool.and_eq_true, decide_eq_true_eq] at hc
  obtain ⟨hd, rfl⟩ := rf_dec_ok hc.1
  exact lv_goto hx hb hd hc.2 (hG H locs ls hW hl)
end
