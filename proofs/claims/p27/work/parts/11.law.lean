/-! from the law's entry to the abstract machine -/
def rf_bd (j : Nat) : Int32 := ([1, 10, 11, 2, 20, 0, 0, 0, 0, 30, 0, 0, 0, 41, 40, 0, 0, 0, 50, 0, 0, 0, 0, 60, 70, 0, 0, 0, 0, 80, 0, 81] : List Int32).getD j 0
def rf_ab (j : Nat) : Int32 := ([-1, 0, 0, 2, 1, 3, 0, 4] : List Int32).getD j 0
/-- the arrays that stand before: the class's two tables, the script -/
def rf_SA (L : Nat) (xs : Nat → Int32) : rf_A := fun j => match j with
  | 0 => some (32, rf_bd)
  | 1 => some (8, rf_ab)
  | 2 => some (L, xs)
  | _ => none
set_option maxRecDepth 100000 in
theorem rf_bd_in : ∀ j, j < 32 → Jvm.Cond.eq (.elem (.static "LeftByLast$Acts" "BODY" "[I") (.int (Int32.ofNat j))) (.int (rf_bd j)) ∈ flatC (Jvm.Cond.and given_1 narrow_1) := by decide +kernel
set_option maxRecDepth 100000 in
theorem rf_ab_in : ∀ j, j < 8 → Jvm.Cond.eq (.elem (.static "LeftByLast$Acts" "ABOVE" "[I") (.int (Int32.ofNat j))) (.int (rf_ab j)) ∈ flatC (Jvm.Cond.and given_1 narrow_1) := by decide +kernel
theorem rf_tb_lw : ∀ w ∈ rf_tb, w ∈ lw_tbl := fun _ h => (List.mem_filter.mp h).1
theorem rf_arr {args : Array Value} {s : State} {ty : FieldType} (hno : ∀ C, ty ≠ .object C) (h : (Jvm.Cond.arrayClass ty).before args s = true) : ∃ cA : ClassId, ArrOfT s cA ty ∧ va_RA s cA ty := by
  obtain ⟨cA, kA, comp, h1, h2, h3⟩ := Cond.arrayClass_spec h
  refine ⟨cA, fun n z => ⟨fun k h => (by cases h), kA, h2, comp, h3⟩, ?_⟩
  unfold va_RA
  cases ty <;> first | exact absurd rfl (hno _) | exact h1
theorem rf_arrM {args : Array Value} {s : State} {C : String} (h : (Jvm.Cond.arrayOver (.object C)).before args s = true) : ∃ cA : ClassId, ArrOfT s cA (.object C) ∧ va_RA s cA (.object C) := by
  obtain ⟨comp, c, k, h1, h2, h3, h4, h5⟩ := Cond.arrayOver_spec h
  exact ⟨c, fun n z => ⟨fun k h => (by cases h), k, h3, comp, h4⟩, k, comp, h3, h4, h1, h5⟩
set_option maxHeartbeats 4000000 in
set_option maxRecDepth 100000 in
theorem rf_start {p : Program} {e : Env} {s : State} {m : MethodId} {below : List Frame} {meth : Method} {c : Code} (l : Launch) {b L : Nat} {xs : Nat → Int32} (hL : L < 2 ^ 31) (C0 : lw_At p s m meth c b L xs) {d n : Nat} (hd : d ≤ 1000) (hrun : rf_wp (rf_SA L xs) rf_ms (rf_run (rf_SA L xs) rf_ms d) rf_law n 0 (lv_args 0 [.ref 1000002]) [] [] 0 0 (fun rv _ => rv = some (.int 1))) : W p l e room_1 s m #[Value.ref b] below meth c s.heap [] 0 0 (lw_Z below #[Value.ref b] s) (entryFrame m ([Value.ref b] : List Value).toArray 4) := by
  obtain ⟨hx, hb, hr, hml, hown, hts, hX, hbl, hlocks, hgv⟩ := id C0
  have hfl := flat_of_before _ hgv
  have hA0 : ∀ a : Nat, a < s.heap.size → ¬ (fun q : Nat => s.heap.size ≤ q) a := fun a h => Nat.not_le.mpr h
  have hini : (Jvm.Cond.initialized "LeftByLast$Acts").before #[Value.ref b] s = true := hts _ (by decide +kernel)
  obtain ⟨tB, hB1, hB2⟩ := va_Tof (N := 32) (f := fun i => .int (rf_bd i)) (A := fun q : Nat => s.heap.size ≤ q) (tm := .static "LeftByLast$Acts" "BODY" "[I") (ty := .int) (by decide) (hfl _ (by decide +kernel)) (va_eqt (hfl (Jvm.Cond.eq (.length (.static "LeftByLast$Acts" "BODY" "[I")) (.int 32)) (by decide +kernel))) (fun j hj => va_eqt (hfl _ (rf_bd_in j hj))) hA0
  obtain ⟨tA, hT1, hT2⟩ := va_Tof (N := 8) (f := fun i => .int (rf_ab i)) (A := fun q : Nat => s.heap.size ≤ q) (tm := .static "LeftByLast$Acts" "ABOVE" "[I") (ty := .int) (by decide) (hfl _ (by decide +kernel)) (va_eqt (hfl (Jvm.Cond.eq (.length (.static "LeftByLast$Acts" "ABOVE" "[I")) (.int 8)) (by decide +kernel))) (fun j hj => va_eqt (hfl _ (rf_ab_in j hj))) hA0
  have hZB := va_Zref (A := fun q : Nat => s.heap.size ≤ q) (hts (Jvm.Cond.laysStatic "LeftByLast$Acts" "BODY" "[I") (by decide +kernel)) hini hB1 hA0
  have hZA := va_Zref (A := fun q : Nat => s.heap.size ≤ q) (hts (Jvm.Cond.laysStatic "LeftByLast$Acts" "ABOVE" "[I") (by decide +kernel)) hini hT1 hA0
  obtain ⟨scr, x1, x2, x3, x4, x5⟩ := hX
  have hTX : va_T .int b L (fun i => .int (xs i)) (fun q : Nat => s.heap.size ≤ q) s s.heap := ⟨scr, x1, x2, x3, by rw [x4]; exact Nat.le_refl _, by rw [x4]; first | done | rfl, x5, hA0 b hbl⟩
  have hkn : ∀ k : Nat, ∃ (cC : ClassId) (iS : Nat → Nat), ∀ (q : vw_C), vwCl[k]? = some q → u_Kn s q.1 q.2.1 q.2.2 cC iS := by
    intro k
    by_cases hk : k < 11
    · obtain ⟨C, T, N, h1, h2, -⟩ := rf_cls hk
      obtain ⟨C1, T1, N1, g1, g2, -⟩ := rf_inst hk
      rw [h1] at g1
      cases g1
      obtain ⟨cC, iS, hu⟩ := u_known (C := C) (T := T) (N := N) (n := N) hts (fun w h => rf_tb_lw w (h2 w h)) (hts _ (rf_tb_lw _ g2))
      refine ⟨cC, iS, fun q hq => ?_⟩
      rw [h1] at hq
      cases hq
      exact hu
    · refine ⟨0, fun _ => 0, fun q hq => ?_⟩
      have : k < 11 := (List.getElem?_eq_some_iff.mp hq).1
      exact absurd this hk
  obtain ⟨cI, hI⟩ := rf_arr (ty := .int) (fun C h => by cases h) (hts _ (rf_tb_lw _ rf_ai))
  obtain ⟨cJ, hJ⟩ := rf_arr (ty := .long) (fun C h => by cases h) (hts _ (rf_tb_lw _ rf_al))
  have hao := hts (Jvm.Cond.arrayOver (.object "LeftByLast$Moment")) (by decide +kernel)
  obtain ⟨cM, hM⟩ := rf_arrM hao
  have hK : va_K (fun k => Classical.choose (hkn k), fun k => Classical.choose (Classical.choose_spec (hkn k))) vwCl (rf_tys (fun k => if k = 0 then cI else if k = 1 then cJ else cM)) s := by
    refine ⟨fun k q hq => Classical.choose_spec (Classical.choose_spec (hkn k)) q hq, fun k q hq => ?_⟩
    match k, hq with
    | 0, hq => cases hq; exact hI
    | 1, hq => cases hq; exact hJ
    | 2, hq => cases hq; exact hM
    | k + 3, hq => simp [rf_tys] at hq
  obtain ⟨dD, aC, hK⟩ : ∃ (dD : va_G) (aC : Nat → ClassId), va_K dD vwCl (rf_tys aC) s := ⟨_, _, hK⟩
  obtain ⟨ad, ha0, ha1, ha2⟩ : ∃ ad : Nat → Nat, ad 1000000 = tB ∧ ad 1000001 = tA ∧ ad 1000002 = b := ⟨fun i => if i = 1000000 then tB else if i = 1000001 then tA else b, rfl, rfl, rfl⟩
  have hSt : rf_St (rf_SA L xs) ad (fun q : Nat => s.heap.size ≤ q) s s.heap := by
    refine ⟨fun j x hj => ?_, by rw [ha0]; exact hZB, by rw [ha1]; exact hZA⟩
    match j, hj with
    | 0, hj => cases hj; rw [ha0]; exact hB2
    | 1, hj => cases hj; rw [ha1]; exact hT2
    | 2, hj => cases hj; rw [ha2]; exact hTX
    | j + 3, hj => cases hj
  have hNx : rf_Nx s := ⟨fun a i y h hm => va_Nw.of rfl (hts _ hm), va_AO.of hao⟩
  have C : rf_Cx p room_1 s m #[Value.ref b] meth c RL cL_law 4 "law" dD aC (rf_SA L xs) ad (fun q : Nat => s.heap.size ≤ q) := ⟨hx, hb, hml, hown, fun w h => hts w (rf_tb_lw w h), hK, hSt, fun _ h => h, fun h => absurd h (by decide), hNx, by decide, by decide⟩
  have hP : va_P dD vwCl (rf_ws ad aC []) s.heap := fun k q h => by simp [rf_ws] at h
  have hD : va_D (fun q : Nat => s.heap.size ≤ q) (rf_ws ad aC []) := ⟨fun i j p q h => by simp [rf_ws] at h, fun k q h => by simp [rf_ws] at h⟩
  have hl := lv_entry ([.ref b]) (n := 4) (Nat.le_of_ble_eq_true rfl)
  rw [lg_entry_eq]
  generalize (lg_sl ([.ref b]) ++ List.replicate (4 - (lg_sl ([.ref b])).length) Slot.unset).toArray = ls at hl ⊢
  have hl : lv_has ls 4 (rf_mL ad (lv_args 0 [.ref 1000002])) := by
    have e1 : rf_mL ad (lv_args 0 [.ref 1000002]) = lv_args 0 [.ref b] := by
      rw [← rf_args_map]
      show lv_args 0 [.ref (ad 1000002)] = _
      rw [ha2]
    rw [e1]
    exact hl
  have hms : ∀ (b : Nat) (mj : rf_M), rf_ms[b]? = some mj → rf_chkW mj = true := fun b mj h => (rf_oks mj (List.mem_of_getElem? h)).1
  have hT : ∀ (b : Nat) (mj : rf_M), rf_ms[b]? = some mj → ∀ pc E, mj.2.2 pc = some E → rf_chk rf_ms mj.1.2.2.2.2 mj.1.2.1 mj.1.1.name mj.1.2.2.1 mj.1.2.2.2.1 pc E = true := by
    intro b mj h pc E hE
    obtain ⟨-, n, h1, h2⟩ := rf_oks mj (List.mem_of_getElem? h)
    exact rf_chkT_at h1 h2 hE
  refine rf_walk (mi := rf_law) (ms := rf_ms) rf_lawok hms (K := rf_run (rf_SA L xs) rf_ms d) (fr := d) (lo := 64 * d) (R := room_1) (A := fun q : Nat => s.heap.size ≤ q) (Nat.le_refl _) (Nat.le_refl _) (by show d + 1 ≤ 2048; omega) (by show 64 * d + 64 ≤ 84000; omega) (fun b' mj' As' σ' post' ad' h1 h2 => rf_met l (N := 0) hT hms dD aC (rf_SA L xs) d b' mj' As' σ' post' ad' h1 h2) (n0 := 0) (ad0 := ad) (post := fun rv _ => rv = some (.int 1)) ?_ n 0 (lv_args 0 [.ref 1000002]) [] [] 0 0 ad C ⟨Nat.le_refl _, fun _ _ => rfl, fun _ => rfl⟩ (Nat.zero_le _) (Nat.zero_le _) hrun s.heap [] ls ⟨hP, hD, va_S.rf⟩ hl
  intro rv σ1 ad1 H locs ls' pc E hE hrv hp hag hW
  have hc := rf_lawok pc E hE
  obtain ⟨op, a0, b0, k0, x0, nxt, sw⟩ := E
  subst hp
  rcases hrv with ⟨-, h⟩ | ⟨h48, -⟩ | ⟨-, z, h⟩ | ⟨-, z, h⟩
  · cases h
  · dsimp only at h48
    subst h48
    simp only [rf_chk, Bool.and_eq_true] at hc
    obtain ⟨hd', -⟩ := rf_dec_ok hc.1
    refine va_forget (fun q hq => hW.2.2.2.2 q hq) ?_
    exact lw_ret hx hb hr hlocks hd'
  · cases h
  · cases h
