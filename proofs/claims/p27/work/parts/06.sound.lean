/-! each step of the abstract machine is a walk of the machine -/
theorem rf_dec_ok {cc : ByteArray} {pc : Nat} {i : Instr} {n nxt : Nat} (h : rf_dec cc pc i n nxt = true) : decode cc pc = .ok (i, n) ∧ nxt = pc + n := by
  simp only [rf_dec, Bool.and_eq_true, decide_eq_true_eq] at h
  exact ⟨h.1, Nat.eq_of_beq_eq_true h.2⟩
theorem rf_lk_ok {i : Nat} {w : Jvm.Cond} (h : rf_lk i w = true) : w ∈ lw_tbl := List.mem_of_getElem? (of_decide_eq_true h)
theorem rf_lk_tb {i : Nat} {w : Jvm.Cond} (h : rf_lk i w = true) (hg : goodWord w = true) : w ∈ rf_tb := List.mem_filter.mpr ⟨rf_lk_ok h, hg⟩
theorem rf_get_mem {L : rf_L} {i : Nat} {v : Value} (h : rf_get L i = some v) : (i, v) ∈ L := by
  unfold rf_get at h
  cases hf : L.find? (fun q => q.1 == i) with
  | none => rw [hf] at h; cases h
  | some q =>
    rw [hf] at h
    have h1 := List.find?_some hf
    have h2 := List.mem_of_find?_eq_some hf
    simp only [Option.map_some, Option.some.injEq] at h
    have h3 : q.1 = i := by simpa using h1
    rw [← h, ← h3]
    exact h2
theorem rf_get_at {L : rf_L} {i nL : Nat} {v : Value} {ad : Nat → Nat} {ls : Array Slot} (h : rf_get L i = some v) (hl : lv_has ls nL (rf_mL ad L)) : ls[i]? = some (.val (rf_mv ad v)) :=
  hl.2.2 (i, rf_mv ad v) (List.mem_map.mpr ⟨(i, v), rf_get_mem h, rfl⟩)
theorem rf_mv_cat (ad : Nat → Nat) (v : Value) : (rf_mv ad v).category = v.category := by cases v <;> rfl
theorem rf_cat_map (ad : Nat → Nat) (st : List Value) : ((st.map (rf_mv ad)).map fun v => v.category).sum = rf_cat st := by
  unfold rf_cat
  rw [List.map_map]
  congr 1
  apply List.map_congr_left
  intro v _
  exact rf_mv_cat ad v
theorem rf_mL_set (ad : Nat → Nat) (L : rf_L) (i : Nat) (v : Value) : (i, rf_mv ad v) :: (rf_mL ad L).filter (fun q => !(q.1 == i) && !(q.1 + 1 == i && q.2.category == 2)) = rf_mL ad (rf_set L i v) := by
  unfold rf_set rf_mL
  rw [List.map_cons, List.filter_map]
  congr 2
  apply List.filter_congr
  intro q _
  simp [Function.comp, rf_mv_cat]
theorem rf_ws_get {ad : Nat → Nat} {aC : Nat → ClassId} {σ : rf_S} {i : Nat} {o : va_E} (h : σ[i]? = some o) : (rf_ws ad aC σ)[i]? = some (ad i, rf_mo ad aC o) := by
  unfold rf_ws
  rw [List.getElem?_mapIdx, h]
  rfl
theorem rf_ws_set (ad : Nat → Nat) (aC : Nat → ClassId) (σ : rf_S) (i : Nat) (o : va_E) : (rf_ws ad aC σ).set i (ad i, rf_mo ad aC o) = rf_ws ad aC (σ.set i o) := by
  apply List.ext_getElem?
  intro j
  unfold rf_ws
  rw [List.getElem?_mapIdx, List.getElem?_set, List.getElem?_set, List.getElem?_mapIdx, List.length_mapIdx]
  by_cases h : i = j
  · subst h
    by_cases h2 : i < σ.length
    · simp [h2]
    · simp [h2]
  · simp [h]
def rf_St (SA : rf_A) (ad : Nat → Nat) (A : Nat → Prop) (U : State) (H : Heap) : Prop := (∀ j x, SA j = some x → va_T .int (ad (1000000 + j)) x.1 (fun i => .int (x.2 i)) A U H) ∧ va_Z "LeftByLast$Acts" "BODY" "[I" (.ref (ad 1000000)) A U H ∧ va_Z "LeftByLast$Acts" "ABOVE" "[I" (.ref (ad 1000001)) A U H
def rf_Nx (U : State) : Prop := (∀ a i y h, Jvm.Cond.methodLinkNest a i y h ∈ lw_tbl → va_Nw (.methodLinkNest a i y h) U) ∧ va_AO "LeftByLast$Moment" U
def rf_Cx (p : Program) (R : Room) (s : State) (m : MethodId) (args : Array Value) (meth : Method) (c : Code) (own : String) (cc : ByteArray) (nL : Nat) (nm : String) (dD : va_G) (aC : Nat → ClassId) (SA : rf_A) (ad : Nat → Nat) (A : Nat → Prop) : Prop :=
  p.tables.exec = Jvm.exec ∧ c.code = cc ∧ c.maxLocals = nL ∧ s.vm.findClass own = some m.cls ∧ (∀ w ∈ rf_tb, w.before args s = true) ∧ va_K dD vwCl (rf_tys aC) s ∧ rf_St SA ad A s s.heap ∧ (∀ q : Nat, s.heap.size ≤ q → A q) ∧ (nm = "<init>" → meth.name = nm) ∧ rf_Nx s ∧ 1 ≤ R.frames ∧ 64 ≤ R.locals
def rf_Wd (dD : va_G) (ad : Nat → Nat) (aC : Nat → ClassId) (A : Nat → Prop) (s : State) (σ : rf_S) (H : Heap) (locs : List Loc) : Prop := va_P dD vwCl (rf_ws ad aC σ) H ∧ va_D A (rf_ws ad aC σ) ∧ va_S A s.heap H locs
def rf_G (p : Program) (l : Launch) (e : Env) (R : Room) (s : State) (m : MethodId) (args : Array Value) (below : List Frame) (meth : Method) (c : Code) (cells slots : Nat) (Q : State → Prop) (nL : Nat) (dD : va_G) (ad : Nat → Nat) (aC : Nat → ClassId) (A : Nat → Prop) (r : Nat × rf_L × List Value × rf_S) : Prop :=
  ∀ (H : Heap) (locs : List Loc) (ls : Array Slot), rf_Wd dD ad aC A s r.2.2.2 H locs → lv_has ls nL (rf_mL ad r.2.1) → W p l e R s m args below meth c H locs cells slots Q (F0 m r.1 ls (r.2.2.1.map (rf_mv ad)))
theorem rf_in0 : ∀ w ∈ u_ws RX0 TX0 5, w ∈ rf_tb := by decide +kernel
theorem rf_in1 : ∀ w ∈ u_ws RX1 TX1 6, w ∈ rf_tb := by decide +kernel
theorem rf_in2 : ∀ w ∈ u_ws RX2 TX2 12, w ∈ rf_tb := by decide +kernel
theorem rf_in3 : ∀ w ∈ u_ws RX3 TX3 8, w ∈ rf_tb := by decide +kernel
theorem rf_in4 : ∀ w ∈ u_ws RX4 TX4 11, w ∈ rf_tb := by decide +kernel
theorem rf_in5 : ∀ w ∈ u_ws RX5 TX5 6, w ∈ rf_tb := by decide +kernel
theorem rf_in6 : ∀ w ∈ u_ws RX6 TX6 4, w ∈ rf_tb := by decide +kernel
theorem rf_in7 : ∀ w ∈ u_ws RX7 TX7 14, w ∈ rf_tb := by decide +kernel
theorem rf_in8 : ∀ w ∈ u_ws RX8 TX8 4, w ∈ rf_tb := by decide +kernel
theorem rf_in9 : ∀ w ∈ u_ws RX9 TX9 8, w ∈ rf_tb := by decide +kernel
theorem rf_in10 : ∀ w ∈ u_ws RX10 TX10 62, w ∈ rf_tb := by decide +kernel
/-- what is known of a class by its number -/
theorem rf_cls {b : Nat} (hb : b < 11) : ∃ (C : String) (T : u_T) (N : Nat), vwCl[b]? = some (C, T, N) ∧ (∀ w ∈ u_ws C T N, w ∈ rf_tb) ∧ (∀ k, k < N → parseFieldDescriptor (T k).2.2.1 = some (rf_fty b k)) ∧ (∀ a, a < N → ∀ b, b < N → a ≠ b → (T a).2.1 ≠ (T b).2.1) ∧ (∀ k, rf_fld b k = T k) ∧ rf_num b = N := by
  match b, hb with
  | 0, _ => exact ⟨RX0, TX0, 5, rfl, rf_in0, tyX0_ok, nmX0, fun _ => rfl, rfl⟩
  | 1, _ => exact ⟨RX1, TX1, 6, rfl, rf_in1, tyX1_ok, nmX1, fun _ => rfl, rfl⟩
  | 2, _ => exact ⟨RX2, TX2, 12, rfl, rf_in2, tyX2_ok, nmX2, fun _ => rfl, rfl⟩
  | 3, _ => exact ⟨RX3, TX3, 8, rfl, rf_in3, tyX3_ok, nmX3, fun _ => rfl, rfl⟩
  | 4, _ => exact ⟨RX4, TX4, 11, rfl, rf_in4, tyX4_ok, nmX4, fun _ => rfl, rfl⟩
  | 5, _ => exact ⟨RX5, TX5, 6, rfl, rf_in5, tyX5_ok, nmX5, fun _ => rfl, rfl⟩
  | 6, _ => exact ⟨RX6, TX6, 4, rfl, rf_in6, tyX6_ok, nmX6, fun _ => rfl, rfl⟩
  | 7, _ => exact ⟨RX7, TX7, 14, rfl, rf_in7, tyX7_ok, nmX7, fun _ => rfl, rfl⟩
  | 8, _ => exact ⟨RX8, TX8, 4, rfl, rf_in8, tyX8_ok, nmX8, fun _ => rfl, rfl⟩
  | 9, _ => exact ⟨RX9, TX9, 8, rfl, rf_in9, tyX9_ok, nmX9, fun _ => rfl, rfl⟩
  | 10, _ => exact ⟨RX10, TX10, 62, rfl, rf_in10, tyX10_ok, nmX10, fun _ => rfl, rfl⟩
theorem rf_fit_ok {ty : FieldType} {v : Value} (ad : Nat → Nat) (h : rf_fit ty v = true) : narrow ty (rf_mv ad v) = rf_mv ad v ∧ fits ty (rf_mv ad v) = true := by
  cases ty <;> cases v <;> simp only [rf_fit, Bool.false_eq_true, decide_eq_true_eq] at h <;> try exact ⟨rfl, rfl⟩
  rcases h with rfl | rfl <;> exact ⟨rfl, rfl⟩
theorem rf_ixs_ok {i : Int32} {n : Nat} (h : rf_ixs i n = true) : vp_in i n := by
  simp only [rf_ixs, Bool.and_eq_true, decide_eq_true_eq] at h
  rintro (q | q)
  · exact h.1 q
  · omega
