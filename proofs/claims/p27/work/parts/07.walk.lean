/-! making, calling, leaving; the walk of a whole method -/
def rf_Ag (n0 : Nat) (ad0 ad : Nat → Nat) (σ : rf_S) : Prop := n0 ≤ σ.length ∧ (∀ i : Nat, (i < n0 ∨ 1000000 ≤ i) → ad i = ad0 i) ∧ (σ.length = n0 → ad = ad0)
def rf_B (dD : va_G) (aC : Nat → ClassId) (SA : rf_A) (ad : Nat → Nat) (σ : rf_S) (sz : Nat) (A : Nat → Prop) (U : State) : Prop := U.heap.size = sz ∧ va_P dD vwCl (rf_ws ad aC σ) U.heap ∧ va_K dD vwCl (rf_tys aC) U ∧ va_D (fun _ => True) (rf_ws ad aC σ) ∧ rf_St SA ad A U U.heap ∧ rf_Nx U
def rf_Q (dD : va_G) (aC : Nat → ClassId) (n0 : Nat) (ad0 : Nat → Nat) (post : rf_P) (A : Nat → Prop) : Array Value → State → Outcome → State → Prop := fun _ st oc t => (∃ (rv : Option Value) (σ1 : rf_S) (ad1 : Nat → Nat), oc = .returned (rv.map (rf_mv ad1)) ∧ post rv σ1 ∧ rf_Ag n0 ad0 ad1 σ1 ∧ va_P dD vwCl (rf_ws ad1 aC σ1) t.heap ∧ va_D A (rf_ws ad1 aC σ1)) ∧ va_F A st t
theorem rf_mv_ag {n : Nat} {ad ad0 : Nat → Nat} (h : ∀ i : Nat, (i < n ∨ 1000000 ≤ i) → ad i = ad0 i) {v : Value} (hv : rf_wfv n v = true) : rf_mv ad v = rf_mv ad0 v := by
  cases v <;> try rfl
  simp only [rf_wfv, Bool.or_eq_true] at hv
  simp only [rf_mv]
  rw [h]
  exact hv.imp Nat.le_of_ble_eq_true Nat.le_of_ble_eq_true
theorem rf_map_ag {n : Nat} {ad ad0 : Nat → Nat} (h : ∀ i : Nat, (i < n ∨ 1000000 ≤ i) → ad i = ad0 i) {st : List Value} (hv : st.all (rf_wfv n) = true) : st.map (rf_mv ad) = st.map (rf_mv ad0) :=
  List.map_congr_left fun v hm => rf_mv_ag h (List.all_eq_true.mp hv v hm)
theorem rf_mL_ag {n : Nat} {ad ad0 : Nat → Nat} (h : ∀ i : Nat, (i < n ∨ 1000000 ≤ i) → ad i = ad0 i) {L : rf_L} (hv : L.all (fun q => rf_wfv n q.2) = true) : rf_mL ad L = rf_mL ad0 L :=
  List.map_congr_left fun q hm => by rw [rf_mv_ag h (List.all_eq_true.mp hv q hm)]
theorem rf_mo_ag {n : Nat} {ad ad0 : Nat → Nat} {aC : Nat → ClassId} (h : ∀ i : Nat, (i < n ∨ 1000000 ≤ i) → ad i = ad0 i) {o : va_E} (hv : rf_wfo n o) : rf_mo ad aC o = rf_mo ad0 aC o := by
  rcases o with ⟨k, z, f | f | f | f | f⟩ | ⟨ci, fs⟩
  · rfl
  · rfl
  · rfl
  · rfl
  · have hv : ∀ j i, f j = some i → i < n := hv
    show (Sum.inl (aC k, z, Sum.inr (Sum.inr (Sum.inr (Sum.inr fun j => (f j).map ad)))) : va_E) = Sum.inl (aC k, z, Sum.inr (Sum.inr (Sum.inr (Sum.inr fun j => (f j).map ad0))))
    congr 7
    funext j
    cases hj : f j with
    | none => rfl
    | some i => simp only [Option.map_some]; rw [h i (Or.inl (hv j i hj))]
  · have hv : fs.all (rf_wfv n) = true := hv
    show (Sum.inr (ci, fs.map (rf_mv ad)) : va_E) = Sum.inr (ci, fs.map (rf_mv ad0))
    rw [rf_map_ag h hv]
theorem rf_ws_push {ad ad0 : Nat → Nat} {aC : Nat → ClassId} {σ : rf_S} (h : ∀ i : Nat, (i < σ.length ∨ 1000000 ≤ i) → ad i = ad0 i) (hw : rf_wfs σ) (o : va_E) : rf_ws ad aC (σ ++ [o]) = rf_ws ad0 aC σ ++ [(ad σ.length, rf_mo ad aC o)] := by
  apply List.ext_getElem?
  intro j
  unfold rf_ws
  rw [List.getElem?_mapIdx]
  by_cases hj : j < σ.length
  · rw [List.getElem?_append_left hj, List.getElem?_append_left (by rw [List.length_mapIdx]; exact hj), List.getElem?_mapIdx]
    cases ho : σ[j]? with
    | none => rfl
    | some o' =>
      simp only [Option.map_some]
      rw [h j (Or.inl hj), rf_mo_ag h (hw o' (List.mem_of_getElem? ho))]
  · rw [List.getElem?_append_right (by omega), List.getElem?_append_right (by rw [List.length_mapIdx]; omega), List.length_mapIdx]
    cases hk : j - σ.length with
    | zero =>
      have : j = σ.length := by omega
      subst this
      rfl
    | succ k => simp
theorem rf_stp_len {SA : rf_A} {E : rf_E} {L : rf_L} {st : List Value} {σ : rf_S} {r : Nat × rf_L × List Value × rf_S} (h : rf_stp SA E L st σ = some r) : r.2.2.2.length = σ.length := by
  obtain ⟨op, a, b, c, x, nxt, sw⟩ := E
  unfold rf_stp at h
  simp only [cond_eq_ite] at h
  repeat' split at h
  all_goals first | (cases h; rfl) | (cases h; exact List.length_set) | cases h
theorem rf_inst {b : Nat} (hb : b < 11) : ∃ (C : String) (T : u_T) (N : Nat), vwCl[b]? = some (C, T, N) ∧ Jvm.Cond.instantiable C N ∈ rf_tb ∧ Jvm.Cond.initialized C ∈ rf_tb := by
  match b, hb with
  | 0, _ => exact ⟨RX0, TX0, 5, rfl, by decide +kernel, by decide +kernel⟩
  | 1, _ => exact ⟨RX1, TX1, 6, rfl, by decide +kernel, by decide +kernel⟩
  | 2, _ => exact ⟨RX2, TX2, 12, rfl, by decide +kernel, by decide +kernel⟩
  | 3, _ => exact ⟨RX3, TX3, 8, rfl, by decide +kernel, by decide +kernel⟩
  | 4, _ => exact ⟨RX4, TX4, 11, rfl, by decide +kernel, by decide +kernel⟩
  | 5, _ => exact ⟨RX5, TX5, 6, rfl, by decide +kernel, by decide +kernel⟩
  | 6, _ => exact ⟨RX6, TX6, 4, rfl, by decide +kernel, by decide +kernel⟩
  | 7, _ => exact ⟨RX7, TX7, 14, rfl, by decide +kernel, by decide +kernel⟩
  | 8, _ => exact ⟨RX8, TX8, 4, rfl, by decide +kernel, by decide +kernel⟩
  | 9, _ => exact ⟨RX9, TX9, 8, rfl, by decide +kernel, by decide +kernel⟩
  | 10, _ => exact ⟨RX10, TX10, 62, rfl, by decide +kernel, by decide +kernel⟩
theorem rf_ai : Jvm.Cond.arrayClass .int ∈ rf_tb := by decide +kernel
theorem rf_al : Jvm.Cond.arrayClass .long ∈ rf_tb := by decide +kernel
theorem rf_mv_df (ad : Nat → Nat) (ty : FieldType) : rf_mv ad (defaultValue ty) = defaultValue ty := by cases ty <;> rfl
/-- the address book with one more -/
def rf_nx (ad : Nat → Nat) (n q : Nat) : Nat → Nat := fun i => if i = n then q else ad i
theorem rf_nx_ag {ad : Nat → Nat} {n q : Nat} (hn : n < 1000000) : ∀ i : Nat, (i < n ∨ 1000000 ≤ i) → rf_nx ad n q i = ad i := by
  intro i hi
  unfold rf_nx
  rw [if_neg (by omega)]
theorem rf_nx_at (ad : Nat → Nat) (n q : Nat) : rf_nx ad n q n = q := if_pos rfl
section
variable {p : Program} {l : Launch} {e : Env} {R : Room} {s : State} {m : MethodId} {args : Array Value} {below : List Frame} {meth : Method} {c : Code} {cells slots : Nat} {Q : State → Prop} {own : String} {cc : ByteArray} {nL : Nat} {nm : String} {dD : va_G} {aC : Nat → ClassId} {SA : rf_A} {ad : Nat → Nat} {A : Nat → Prop} {ms : List rf_M} {ret : Option FieldType} {pc : Nat} {L : rf_L} {st : List Value} {σ : rf_S}
theorem rf_St_ag {ad' : Nat → Nat} {U : State} {H : Heap} (h : ∀ i : Nat, 1000000 ≤ i → ad' i = ad i) (hS : rf_St SA ad A U H) : rf_St SA ad' A U H := by
  obtain ⟨h1, h2, h3⟩ := hS
  refine ⟨fun j x hj => ?_, ?_, ?_⟩
  · rw [h _ (Nat.le_add_right _ _)]; exact h1 j x hj
  · rw [h _ (Nat.le_refl _)]; exact h2
  · rw [h _ (by omega)]; exact h3
theorem rf_Cx_ag {ad' : Nat → Nat} (h : ∀ i : Nat, 1000000 ≤ i → ad' i = ad i) (C : rf_Cx p R s m args meth c own cc nL nm dD aC SA ad A) : rf_Cx p R s m args meth c own cc nL nm dD aC SA ad' A := by
  obtain ⟨hx, hb, hml, hown, hts, hK, hSt, hrest⟩ := C
  exact ⟨hx, hb, hml, hown, hts, hK, rf_St_ag h hSt, hrest⟩
/-- an object is made: the goal behind it, for any address -/
theorem rf_sA (C : rf_Cx p R s m args meth c own cc nL nm dD aC SA ad A) {E : rf_E} {r : List Value} {o : va_E} {w : Nat} (hc : rf_chk ms own cc nm nL ret pc E = true) (hs : rf_alc E st = some (r, o, w)) (hn : σ.length < 1000000) (hwf : rf_wfs σ) (hwl : rf_wfl σ.length L r = true) (hcells : cells + 1 ≤ R.cells) (hslots : slots + w ≤ R.slots)
    (hG : ∀ ad' : Nat → Nat, (∀ i : Nat, (i < σ.length ∨ 1000000 ≤ i) → ad' i = ad i) → rf_G p l e R s m args below meth c (cells + 1) (slots + w) Q nL dD ad' aC A (E.2.2.2.2.2.1, L, .ref σ.length :: r, σ ++ [o])) : rf_G p l e R s m args below meth c cells slots Q nL dD ad aC A (pc, L, st, σ) := by
  obtain ⟨hx, hb, hml, hown, hts, hK, hSt, hA, hnm, hNx, hfr, hlo⟩ := C
  intro H locs ls hW hl
  obtain ⟨op, a, b, k, x, nxt, sw⟩ := E
  rw [rf_wfl, Bool.and_eq_true] at hwl
  have fin : ∀ (q : Nat) (H1 : Heap) (o' : va_E), rf_mo (rf_nx ad σ.length q) aC o = o' → va_P dD vwCl (rf_ws ad aC σ ++ [(q, o')]) H1 → va_D A (rf_ws ad aC σ ++ [(q, o')]) → va_S A s.heap H1 locs → W p l e R s m args below meth c H1 locs (cells + 1) (slots + w) Q (F0 m nxt ls (.ref q :: r.map (rf_mv ad))) := by
    intro q H1 o' ho g1 g2 g3
    have hag := rf_nx_ag (ad := ad) (q := q) hn
    have hg := hG (rf_nx ad σ.length q) hag H1 locs ls
    have e1 : rf_ws (rf_nx ad σ.length q) aC (σ ++ [o]) = rf_ws ad aC σ ++ [(q, o')] := by
      rw [rf_ws_push hag hwf, rf_nx_at, ho]
    have e2 : r.map (rf_mv (rf_nx ad σ.length q)) = r.map (rf_mv ad) := rf_map_ag hag hwl.2
    have e3 : rf_mL (rf_nx ad σ.length q) L = rf_mL ad L := rf_mL_ag hag hwl.1
    have hg := hg ⟨by rw [e1]; exact g1, by rw [e1]; exact g2, g3⟩ (by rw [e3]; exact hl)
    have e4 : (Value.ref σ.length :: r).map (rf_mv (rf_nx ad σ.length q)) = .ref q :: r.map (rf_mv ad) := by
      rw [List.map_cons, e2]
      simp only [rf_mv, rf_nx_at]
    rw [← e4]
    exact hg
  simp only [rf_alc] at hs
  split at hs
  case h_1 =>
    cases hs
    simp only [rf_chk, Bool.and_eq_true] at hc
    obtain ⟨⟨hd0, hbn⟩, hlk⟩ := hc
    obtain ⟨hd, rfl⟩ := rf_dec_ok hd0
    have hbn : b < 11 := Nat.le_of_ble_eq_true hbn
    obtain ⟨C0, T, N, h1, h2, h3, h4, h5, h6⟩ := rf_cls hbn
    obtain ⟨C1, T1, N1, g1, g2, g3⟩ := rf_inst hbn
    rw [h1] at g1
    cases g1
    rw [h1] at hlk
    dsimp only at hlk
    rw [h6] at hslots fin
    have hmap : ((List.range N).map (fun k => defaultValue (rf_fty b k))).map (rf_mv ad) = (List.range N).map (fun k => defaultValue (rf_fty b k)) := by
      rw [List.map_map]
      apply List.map_congr_left
      intro k _
      exact rf_mv_df ad _
    refine va_new hx hb hts h2 (rf_fty b) h3 hown (hts _ (rf_lk_tb hlk rfl)) (hts _ g2) (hts _ g3) hK hW.1 hW.2.1 hW.2.2 hA h1 (fs := (List.range N).map (fun k => defaultValue (rf_fty b k))) ?_ hcells hslots hd (fun q H1 p1 p2 p3 => ?_)
    · intro j hj
      unfold vp_V
      rw [List.getD_eq_getElem?_getD, List.getElem?_map, List.getElem?_range hj]
      rfl
    · refine fin q H1 _ ?_ p1 p2 p3
      show (Sum.inr (b, ((List.range N).map (fun k => defaultValue (rf_fty b k))).map (rf_mv _)) : va_E) = _
      rw [List.map_map]
      congr 2
      apply List.map_congr_left
      intro k _
      exact rf_mv_df _ _
  case h_2 =>
    split at hs
    case h_2 => cases hs
    case h_1 n rr =>
    rw [cond_eq_ite] at hs
    split at hs
    case isFalse => cases hs
    case isTrue hle =>
    rw [Bool.and_eq_true, decide_eq_true_eq] at hle
    obtain ⟨hn0, hle⟩ := hle
    have hle : n.toNatClampNeg ≤ 1000 := Nat.le_of_ble_eq_true hle
    have key : ∀ (kd : Nat) (ty : FieldType), (rf_tys aC)[kd]? = some (aC kd, ty) → (∀ C, ty ≠ .object C) → ∀ cA, va_K dD vwCl (rf_tys aC ++ [(cA, ty)]) s → cA = aC kd := by
      intro kd ty h1 hno cA hk2
      have q1 := (hK.2 kd _ h1).2
      have q2 := (hk2.2 3 (cA, ty) rfl).2
      unfold va_RA at q1 q2
      cases ty <;> first | exact absurd rfl (hno _) | exact Option.some.inj (q2.symm.trans q1)
    match b, hc, hs with
    | 0, hc, hs =>
      cases hs
      have hc : rf_dec cc pc (.newarray .int) 2 nxt = true := hc
      obtain ⟨hd, rfl⟩ := rf_dec_ok hc
      refine va_newa (atype := .int) (ty := .int) (a0 := (n.toNatClampNeg, .inl (fun _ => 0))) hx hb (hts _ rf_ai) rfl hK hW.1 hW.2.1 hW.2.2 hA (fun _ => rfl) hn0 rfl ?_ hcells hslots hd (fun q cA H1 k1 p1 p2 p3 => ?_)
      · have : componentBytes FieldType.int ≤ 8 := by decide
        exact Nat.le_trans (Nat.mul_le_mul hle this) (by decide)
      · have hcA := key 0 .int rfl (fun C q => by cases q) cA k1
        subst hcA
        exact fin q H1 _ rfl p1 p2 p3
    | b + 1, hc, hs =>
      cases hs
      have hc : rf_dec cc pc (.newarray .long) 2 nxt = true := hc
      obtain ⟨hd, rfl⟩ := rf_dec_ok hc
      refine va_newa (atype := .long) (ty := .long) (a0 := (n.toNatClampNeg, .inr (.inl (fun _ => 0)))) hx hb (hts _ rf_al) rfl hK hW.1 hW.2.1 hW.2.2 hA (fun _ => rfl) hn0 rfl ?_ hcells hslots hd (fun q cA H1 k1 p1 p2 p3 => ?_)
      · have : componentBytes FieldType.long ≤ 8 := by decide
        exact Nat.le_trans (Nat.mul_le_mul hle this) (by decide)
      · have hcA := key 1 .long rfl (fun C q => by cases q) cA k1
        subst hcA
        exact fin q H1 _ rfl p1 p2 p3
  case h_3 =>
    split at hs
    case h_2 => cases hs
    case h_1 n rr =>
    rw [cond_eq_ite] at hs
    split at hs
    case isFalse => cases hs
    case isTrue hle =>
    rw [Bool.and_eq_true, decide_eq_true_eq] at hle
    obtain ⟨hn0, hle⟩ := hle
    have hle : n.toNatClampNeg ≤ 1000 := Nat.le_of_ble_eq_true hle
    cases hs
    simp only [rf_chk, Bool.and_eq_true] at hc
    obtain ⟨hd, rfl⟩ := rf_dec_ok hc.1
    refine va_newq hx hb hown (hts _ (rf_lk_tb hc.2 rfl)) hNx.2 hK hW.1 hW.2.1 hW.2.2 hA hn0 rfl ?_ hcells hslots hd (fun q cA H1 k1 p1 p2 p3 => ?_)
    · exact Nat.le_trans (Nat.mul_le_mul hle (Nat.le_refl 4)) (by decide)
    · have q1 := (hK.2 2 _ rfl).2
      have q2 := (k1.2 3 (cA, .object "LeftByLast$Moment") rfl).2
      obtain ⟨_, _, -, -, -, q1⟩ := q1
      obtain ⟨_, _, -, -, -, q2⟩ := q2
      have hcA : cA = aC 2 := Option.some.inj (q2.symm.trans q1)
      subst hcA
      exact fin q H1 _ rfl p1 p2 p3
  case h_4 => cases hs
end
section
variable {p : Program} {l : Launch} {e : Env} {R : Room} {s : State} {m : MethodId} {args : Array Value} {below : List Frame} {meth : Method} {c : Code} {cells slots : Nat} {Q : State → Prop} {own : String} {cc : ByteArray} {nL : Nat} {nm : String} {dD : va_G} {aC : Nat → ClassId} {SA : rf_A} {ad : Nat → Nat} {A : Nat → Prop} {ms : List rf_M} {ret : Option FieldType} {pc : Nat} {L : rf_L} {st : List Value} {σ : rf_S}
/-- any instruction that neither calls, makes nor leaves -/
theorem rf_sS (C : rf_Cx p R s m args meth c own cc nL nm dD aC SA ad A) (hcc : cells ≤ R.cells) (hss : slots ≤ R.slots) {E : rf_E} {r : Nat × rf_L × List Value × rf_S} (hc : rf_chk ms own cc nm nL ret pc E = true) (hs : rf_stp SA E L st σ = some r) (hG : rf_G p l e R s m args below meth c cells slots Q nL dD ad aC A r) : rf_G p l e R s m args below meth c cells slots Q nL dD ad aC A (pc, L, st, σ) := by
  obtain ⟨op, a, b, k, x, nxt, sw⟩ := E
  match op, hc, hs with
  | 0, hc, hs => exact rf_s0 C hc hs hG
  | 1, hc, hs => exact rf_s1 C hc hs hG
  | 2, hc, hs => exact rf_s2 C hc hs hG
  | 3, hc, hs => exact rf_s3 C hc hs hG
  | 4, hc, hs => exact rf_s4 C hc hs hG
  | 5, hc, hs => exact rf_s5 C hc hs hG
  | 6, hc, hs => exact rf_s6 C hc hs hG
  | 7, hc, hs => exact absurd hc (by simp [rf_chk])
  | 8, hc, hs => exact rf_s8 C hc hs hG
  | 9, hc, hs => exact rf_s9 C hc hs hG
  | 10, hc, hs => exact rf_s10 C hc hs hG
  | 11, hc, hs => exact rf_s11 C hc hs hG
  | 12, hc, hs => exact rf_s12 C hc hs hG
  | 13, hc, hs => exact rf_s13 C hc hs hG
  | 14, hc, hs => exact rf_s14 C hc hs hG
  | 15, hc, hs => exact rf_s15 C hc hs hG
  | 16, hc, hs => exact rf_s16 C hc hs hG
  | 17, hc, hs => exact rf_s17 C hc hs hG
  | 18, hc, hs => exact rf_s18 C hc hs hG
  | 19, hc, hs => exact rf_s19 C hc hs hG
  | 20, hc, hs => exact rf_s20 C hc hs hG
  | 21, hc, hs => exact rf_s21 C hc hs hG
  | 22, hc, hs => exact rf_s22 C hc hs hG
  | 23, hc, hs => exact rf_s23 C hc hs hG
  | 24, hc, hs => exact rf_s24 C hc hs hG
  | 25, hc, hs => exact rf_s25 C hc hs hG
  | 26, hc, hs => exact rf_s26 C hc hs hG
  | 27, hc, hs => exact rf_s27 C hc hs hG
  | 28, hc, hs => exact rf_s28 C hc hs hG
  | 29, hc, hs => exact rf_s29 C hc hs hG
  | 30, hc, hs => exact rf_s30 C hc hs hG
  | 31, hc, hs => exact rf_s31 C hc hs hG
  | 32, hc, hs => exact rf_s32 C hc hs hG
  | 33, hc, hs => exact rf_s33 C hc hs hG
  | 34, hc, hs => exact rf_s34 C hc hs hG
  | 35, hc, hs => exact rf_s35 C hc hs hG
  | 36, hc, hs => exact rf_s36 C hc hs hG
  | 37, hc, hs => exact rf_s37 C hc hs hG
  | 38, hc, hs => exact rf_s38 C hc hs hG
  | 39, hc, hs => exact absurd hs (by simp [rf_stp])
  | 40, hc, hs => exact absurd hs (by simp [rf_stp])
  | 41, hc, hs => exact absurd hs (by simp [rf_stp])
  | 42, hc, hs => exact rf_s42 C hc hs hG
  | 43, hc, hs => exact rf_s43 C hc hs hG
  | 44, hc, hs => exact rf_s44 C hcc hss hc hs hG
  | 45, hc, hs => exact rf_s45 C hcc hss hc hs hG
  | n + 46, hc, hs => exact absurd hs (by simp [rf_stp])
/-- behind a call -/
theorem rf_callX {H H0 : Heap} {locs : List Loc} {ls : Array Slot} {st0 rest : List Value} {a : Array Value} {A0 A1 : Nat → Prop} {mc mk : Nat} {free : Addr → Prop} {n0 : Nat} {ad0 : Nat → Nat} {post : rf_P} (hr : va_Run p l e R s m args below meth c H locs cells slots mc mk (F0 m pc ls st0) rest (rf_Q dD aC n0 ad0 post A1 a) free) (hS : va_S A0 H0 H locs) (hA : ∀ q, q < H.size → A1 q → A0 q) (hf : ∀ q, free q → A0 q)
    (kk : ∀ (rv : Option Value) (σ1 : rf_S) (ad1 : Nat → Nat) (H1 : Heap) (locs1 : List Loc), post rv σ1 → rf_Ag n0 ad0 ad1 σ1 → va_P dD vwCl (rf_ws ad1 aC σ1) H1 → va_D A1 (rf_ws ad1 aC σ1) → va_S A0 H0 H1 locs1 → W p l e R s m args below meth c H1 locs1 (cells + mc) (slots + mk) Q (F0 m (pc + 3) ls ((rv.map (rf_mv ad1)).toList ++ rest))) : W p l e R s m args below meth c H locs cells slots Q (F0 m pc ls st0) := by
  intro T hT X
  obtain ⟨v, st₀, t, T', LL, h0, X', hL, e1, e2, ⟨⟨rv, σ1, ad1, hv, hp, hag, hb, hd⟩, hz, hk⟩, stp⟩ := hr T hT X
  cases hv
  rw [h0] at hz hk
  obtain ⟨t2, a1, b1⟩ := kk rv σ1 ad1 T'.heap (locs ++ LL) hp hag (by rw [e1]; exact hb) hd
    ⟨Nat.le_trans hS.1 (by rw [e1]; exact hz), fun q h1 h2 => by rw [e1, hk q (Nat.lt_of_lt_of_le h1 hS.1) (fun z => h2 (hA q (Nat.lt_of_lt_of_le h1 hS.1) z))]; exact hS.2.1 q h1 h2, fun q hq => by
      rcases List.mem_append.mp hq with h | h
      · exact hS.2.2 q h
      · exact hf _ (hL q h)⟩ T' rfl X'
  exact ⟨t2, stp t2 a1, b1⟩
end
