/-! a call -/
def rf_CM (l : Launch) (dD : va_G) (aC : Nat → ClassId) (SA : rf_A) (ad : Nat → Nat) (σ : rf_S) (As : List Value) (mj : rf_M) (fr lo : Nat) (post : rf_P) : Prop :=
  ∀ sz : Nat, Met l mj.1.1 (Jvm.Cond.code mj.1.1 mj.1.2.1 mj.1.2.2.1 mj.1.2.2.2.1 :: rf_tb) { frames := fr, cells := mj.2.1.2.2.1, slots := mj.2.1.2.2.2.1, locals := lo } (va_Pc (As.map (rf_mv ad)) (rf_B dD aC SA ad σ sz (va_A (rf_ws ad aC σ) sz))) (rf_Q dD aC σ.length ad post (va_A (rf_ws ad aC σ) sz)) mj.2.1.2.2.1 mj.2.1.2.2.2.1 (va_A (rf_ws ad aC σ) sz)
theorem rf_gi {w0 : Jvm.Cond} (h : w0 ∈ rf_tb) : GoodIn rf_tb (w0 :: rf_tb) := fun w hw => by
  have h1 : w ∈ rf_tb := (List.mem_cons.mp hw).elim (fun e => e ▸ h) id
  exact ⟨h1, good_of_word (List.mem_filter.mp h1).2⟩
theorem rf_blind {dD : va_G} {aC : Nat → ClassId} {SA : rf_A} {ad : Nat → Nat} {σ : rf_S} {sz : Nat} {A : Nat → Prop} {av : List Value} : FrameBlind (va_Pc av (rf_B dD aC SA ad σ sz A)) := by
  rintro a U g mk ⟨h1, h2, h3, h4, h5, ⟨h6, h7, h8⟩, h9, h10⟩
  refine ⟨h1, h2, h3, va_K.moved (u := U) (U := U.calling g mk a) (Vm.Alike.refl U.vm) h4, h5, ⟨fun j x hj => ?_, ?_, ?_⟩, fun b i y h hm => ?_, ?_⟩
  · exact va_T.moved (u := U) (U := U.calling g mk a) (Vm.Alike.refl U.vm) (h6 j x hj)
  · exact va_Z.moved (u := U) (U := U.calling g mk a) (Vm.Alike.refl U.vm) h7
  · exact va_Z.moved (u := U) (U := U.calling g mk a) (Vm.Alike.refl U.vm) h8
  · exact va_Nw.same rfl (u := U) (U := U.calling g mk a) rfl (h9 b i y h hm)
  · exact va_AO.moved (u := U) (U := U.calling g mk a) (Vm.Alike.refl U.vm) h10
theorem rf_pre {dD : va_G} {aC : Nat → ClassId} {SA : rf_A} {ad : Nat → Nat} {σ : rf_S} {A : Nat → Prop} {s U : State} {H : Heap} {locs : List Loc} (hK : va_K dD vwCl (rf_tys aC) s) (hSt : rf_St SA ad A s s.heap) (hNx : rf_Nx s) (hW : rf_Wd dD ad aC A s σ H locs) (hF : ∀ q, va_A (rf_ws ad aC σ) H.size q → A q) (hU : U.heap = H) (hWm : s.WarmedH U.vm) : rf_B dD aC SA ad σ H.size (va_A (rf_ws ad aC σ) H.size) U := by
  obtain ⟨h6, h7, h8⟩ := hSt
  refine ⟨by rw [hU], by rw [hU]; exact hW.1, va_K.moved hWm.alike hK, hW.2.1.weaken (fun _ _ _ _ => trivial), ⟨fun j x hj => ?_, ?_, ?_⟩, fun b i y h hm => ?_, ?_⟩
  · rw [hU]
    exact ((va_T.moved hWm.alike (h6 j x hj)).kept hW.2.2.2.1).narrow hF
  · rw [hU]
    exact ((va_Z.moved hWm.alike h7).kept hW.2.2.2.1).narrow hF
  · rw [hU]
    exact ((va_Z.moved hWm.alike h8).kept hW.2.2.2.1).narrow hF
  · exact va_Nw.warmM hWm (hNx.1 b i y h hm)
  · exact va_AO.moved hWm.alike hNx.2
theorem rf_okc_ok {c : String} (h : rf_okc c = true) : c ≠ "java/lang/invoke/MethodHandle" ∧ c ≠ "java/lang/invoke/VarHandle" := by
  simp only [rf_okc, Bool.and_eq_true, decide_eq_true_eq] at h
  exact h
section
variable {p : Program} {l : Launch} {e : Env} {R : Room} {s : State} {m : MethodId} {args : Array Value} {below : List Frame} {meth : Method} {c : Code} {cells slots : Nat} {Q : State → Prop} {own : String} {cc : ByteArray} {nL : Nat} {nm : String} {dD : va_G} {aC : Nat → ClassId} {SA : rf_A} {ad : Nat → Nat} {A : Nat → Prop} {ms : List rf_M} {ret : Option FieldType} {pc : Nat} {L : rf_L} {st : List Value} {σ : rf_S}
theorem rf_sC (C : rf_Cx p R s m args meth c own cc nL nm dD aC SA ad A) {a : Int} {b k x nxt : Nat} {sw : List (Int × Nat)} {mj : rf_M} {fr lo : Nat} {post : rf_P} (hc : rf_chk ms own cc nm nL ret pc (46, a, b, k, x, nxt, sw) = true) (hmj : ms[b]? = some mj) (hw : rf_chkW mj = true) (hk : k ≤ st.length) (h8 : rf_cat (st.drop k) ≤ 8) (hrecv : rf_recv mj.2.1.1 mj.2.1.2.2.2.2.1 (st.take k).reverse σ = true) (hcells : cells + mj.2.1.2.2.1 ≤ R.cells) (hslots : slots + mj.2.1.2.2.2.1 ≤ R.slots) (hfr : fr + 1 ≤ R.frames) (hlo : lo + 64 ≤ R.locals) (hM : rf_CM l dD aC SA ad σ (st.take k).reverse mj fr lo post)
    (hG : ∀ (rv : Option Value) (σ1 : rf_S) (ad1 : Nat → Nat), post rv σ1 → rf_Ag σ.length ad ad1 σ1 → (σ1.length = σ.length ∨ rf_wfl σ.length L (st.drop k) = true) ∧ rf_G p l e R s m args below meth c (cells + mj.2.1.2.2.1) (slots + mj.2.1.2.2.2.1) Q nL dD ad1 aC A (nxt, L, rv.toList ++ st.drop k, σ1)) : rf_G p l e R s m args below meth c cells slots Q nL dD ad aC A (pc, L, st, σ) := by
  obtain ⟨hx, hb, hml, hown, hts, hK, hSt, hA, hnm, hNx, hfr1, hlo1⟩ := C
  intro H locs ls hW hl
  have hF : ∀ q, va_A (rf_ws ad aC σ) H.size q → A q := fun q h => h.elim (fun ⟨k, e, hk⟩ => hW.2.1.2 k (q, e) hk) (fun h => hA q (Nat.le_trans hW.2.2.1 h))
  simp only [rf_chk, hmj] at hc
  rw [Bool.and_eq_true] at hc
  obtain ⟨hc, hlk⟩ := hc
  have h8' : ((((st.drop k).map (rf_mv ad))).map fun v => v.category).sum ≤ 8 := by rw [rf_cat_map]; exact h8
  have htl : (st.take k).length = k := by rw [List.length_take]; omega
  unfold rf_chkW at hw
  split at hw
  case h_2 => cases hw
  case h_1 i0 i1 i2 i3 hidx =>
  simp only [Bool.and_eq_true, decide_eq_true_eq] at hw
  obtain ⟨⟨⟨⟨⟨⟨hcode, hini⟩, hok⟩, hpn⟩, hcls⟩, h40⟩, hkind⟩ := hw
  have hcode := rf_lk_tb hcode rfl
  have hini := hts _ (rf_lk_tb hini rfl)
  have hok := rf_okc_ok hok
  have h40 : mj.1.2.2.1 ≤ 40 := Nat.le_of_ble_eq_true h40
  have hR : fr + 1 ≤ R.frames ∧ 8 + (mj.1.2.2.1 + 11) + lo ≤ R.locals := ⟨hfr, by omega⟩
  have behind : ∀ (Aarr : Array Value), va_Run p l e R s m args below meth c H locs cells slots mj.2.1.2.2.1 mj.2.1.2.2.2.1 (F0 m pc ls (st.map (rf_mv ad))) ((st.drop k).map (rf_mv ad)) (rf_Q dD aC σ.length ad post (va_A (rf_ws ad aC σ) H.size) Aarr) (va_A (rf_ws ad aC σ) H.size) → nxt = pc + 3 → W p l e R s m args below meth c H locs cells slots Q (F0 m pc ls (st.map (rf_mv ad))) := by
    intro Aarr hrun hnx
    refine rf_callX hrun hW.2.2 (fun q _ h => hF q h) hF (fun rv σ1 ad1 H1 locs1 hp hag hP1 hD1 hS1 => ?_)
    obtain ⟨hlen, hg⟩ := hG rv σ1 ad1 hp hag
    have e1 : rf_mL ad1 L = rf_mL ad L ∧ (st.drop k).map (rf_mv ad1) = (st.drop k).map (rf_mv ad) := by
      rcases hlen with hlen | hlen
      · rw [hag.2.2 hlen]; exact ⟨rfl, rfl⟩
      · rw [rf_wfl, Bool.and_eq_true] at hlen
        exact ⟨rf_mL_ag hag.2.1 hlen.1, rf_map_ag hag.2.1 hlen.2⟩
    have hg := hg H1 locs1 ls ⟨hP1, hD1.weaken (fun _ q _ h => hF q.1 h), hS1⟩ (by rw [e1.1]; exact hl)
    have e2 : (rv.toList ++ st.drop k).map (rf_mv ad1) = (rv.map (rf_mv ad1)).toList ++ (st.drop k).map (rf_mv ad) := by
      rw [List.map_append, e1.2]
      cases rv <;> rfl
    subst hnx
    rw [← e2]
    exact hg
  have pre : ∀ U : State, U.heap = H → s.WarmedH U.vm → rf_B dD aC SA ad σ H.size (va_A (rf_ws ad aC σ) H.size) U := fun U hU hWm => rf_pre hK hSt hNx hW hF hU hWm
  have hstk : st.map (rf_mv ad) = (st.take k).map (rf_mv ad) ++ (st.drop k).map (rf_mv ad) := by rw [← List.map_append, List.take_append_drop]
  have hM := hM H.size
  match hkd : mj.2.1.1 with
  | 0 =>
    rw [hkd] at hc hkind
    simp only [Bool.and_eq_true, decide_eq_true_eq] at hc
    obtain ⟨hd, rfl⟩ := rf_dec_ok hc.1
    have hpl : (parseMethodDescriptor mj.1.1.desc).map (fun d => d.parameters.length) = some k := hc.2
    have hstat := hts _ (rf_lk_tb hkind rfl)
    have hstack : st.map (rf_mv ad) = (((st.take k).reverse).map (rf_mv ad)).reverse ++ (st.drop k).map (rf_mv ad) := by
      rw [hstk, List.map_reverse, List.reverse_reverse]
    have hlen : (((st.take k).reverse).map (rf_mv ad)).length = k := by rw [List.length_map, List.length_reverse, htl]
    cases sw with
    | nil =>
      have hlink := hts _ (rf_lk_tb hlk rfl)
      exact behind _ (va_runS ⟨hx, hb, hml, hown, hts⟩ hM ⟨callB_of k hts (rf_gi hcode) rfl rfl rfl hini hlink ⟨hok.1, hok.2, hpl⟩ hR, hstat⟩ ⟨rf_blind, fun U hU hWm => ⟨rfl, pre U hU hWm⟩⟩ rfl hlen hl.1 hstack (lv_room h8') hd ⟨hcells, hslots⟩) rfl
    | cons q0 qs =>
      have hlink := hNx.1 _ _ _ _ (rf_lk_ok hlk)
      exact behind _ (va_runSN ⟨hx, hb, hml, hown, hts⟩ hM ⟨va_cnB k hts (rf_gi hcode) rfl rfl rfl hlink hini ⟨hok.1, hok.2, hpl⟩ hR, hstat, trivial⟩ ⟨rf_blind, fun U hU hWm => ⟨rfl, pre U hU hWm⟩⟩ rfl hlen hl.1 hstack (lv_room h8') hd ⟨hcells, hslots⟩) rfl
  | 1 =>
    rw [hkd] at hc hkind hrecv
    simp only [Bool.and_eq_true, decide_eq_true_eq] at hc hkind
    obtain ⟨hd, rfl⟩ := rf_dec_ok hc.1.1
    have hk0 : 0 < k := Nat.le_of_ble_eq_true hc.2
    have hpl : (parseMethodDescriptor mj.1.1.desc).map (fun d => d.parameters.length) = some (k - 1) := hc.1.2
    have hinst := hts _ (rf_lk_tb hkind.1.1 rfl)
    have hsel := hts _ (rf_lk_tb hkind.1.2 rfl)
    unfold rf_recv at hrecv
    split at hrecv
    case h_1 h0 => cases h0
    case h_3 h0 h1 => exact absurd rfl h1
    case h_2 =>
    split at hrecv
    case h_2 => cases hrecv
    case h_1 r0 As hAs =>
    split at hrecv
    case h_2 => cases hrecv
    case h_1 cj fs hcell =>
    have hcj : cj = mj.2.1.2.2.2.2.1 := Nat.eq_of_beq_eq_true hrecv
    subst hcj
    have htk : st.take k = As.reverse ++ [.ref r0] := by rw [← List.reverse_reverse (st.take k), hAs, List.reverse_cons]
    have hlenA : As.length = k - 1 := by
      have := congrArg List.length htk
      rw [htl, List.length_append, List.length_reverse] at this
      simp only [List.length_cons, List.length_nil] at this
      omega
    have hstack : st.map (rf_mv ad) = (As.map (rf_mv ad)).reverse ++ .ref (ad r0) :: (st.drop k).map (rf_mv ad) := by
      rw [hstk, htk, List.map_append, List.map_reverse, List.append_assoc]
      rfl
    have hlen : (As.map (rf_mv ad)).length = k - 1 := by rw [List.length_map, hlenA]
    rw [hAs] at hM
    obtain ⟨q, hq, hqc⟩ : ∃ q, vwCl[mj.2.1.2.2.2.2.1]? = some q ∧ q.1 = mj.1.1.cls := by
      have h2 := hkind.2
      cases hv : vwCl[mj.2.1.2.2.2.2.1]? with
      | none => rw [hv] at h2; cases h2
      | some q => rw [hv] at h2; exact ⟨q, rfl, Option.some.inj h2⟩
    have hrc := va_recv hK hW.1 hq (rf_ws_get (ad := ad) (aC := aC) hcell)
    rw [hqc] at hrc
    cases sw with
    | nil =>
      have hlink := hts _ (rf_lk_tb hlk rfl)
      exact behind _ (va_runV (C := mj.1.1.cls) ⟨hx, hb, hml, hown, hts⟩ hM ⟨callB_of (k - 1) hts (rf_gi hcode) rfl rfl rfl hini hlink ⟨hok.1, hok.2, hpl⟩ hR, hinst, hsel⟩ ⟨rf_blind, hrc, fun U hU hWm => ⟨rfl, pre U hU hWm⟩⟩ rfl hlen hl.1 hstack (lv_room h8') hd ⟨hcells, hslots⟩) rfl
    | cons q0 qs =>
      have hlink := hNx.1 _ _ _ _ (rf_lk_ok hlk)
      exact behind _ (va_runVN (C := mj.1.1.cls) ⟨hx, hb, hml, hown, hts⟩ hM ⟨va_cnB (k - 1) hts (rf_gi hcode) rfl rfl rfl hlink hini ⟨hok.1, hok.2, hpl⟩ hR, hinst, hsel⟩ ⟨rf_blind, hrc, fun U hU hWm => ⟨rfl, pre U hU hWm⟩⟩ rfl hlen hl.1 hstack (lv_room h8') hd ⟨hcells, hslots⟩) rfl
  | z + 2 =>
    rw [hkd] at hc hkind hrecv
    simp only [Bool.and_eq_true, decide_eq_true_eq] at hc
    obtain ⟨⟨⟨⟨hd0, hpl0⟩, hk0⟩, hy1⟩, hret⟩ := hc
    obtain ⟨hd, rfl⟩ := rf_dec_ok hd0
    have hk0 : 0 < k := Nat.le_of_ble_eq_true hk0
    have hpl : (parseMethodDescriptor mj.1.1.desc).map (fun d => d.parameters.length) = some (k - 1) := hpl0
    have hinst := hts _ (rf_lk_tb hkind rfl)
    have hrecv : (match (st.take k).reverse with
      | .ref _ :: _ => true
      | _ => false) = true := hrecv
    split at hrecv
    case h_2 => cases hrecv
    case h_1 r0 As hAs =>
    have htk : st.take k = As.reverse ++ [.ref r0] := by rw [← List.reverse_reverse (st.take k), hAs, List.reverse_cons]
    have hlenA : As.length = k - 1 := by
      have := congrArg List.length htk
      rw [htl, List.length_append, List.length_reverse] at this
      simp only [List.length_cons, List.length_nil] at this
      omega
    have hstack : st.map (rf_mv ad) = (As.map (rf_mv ad)).reverse ++ .ref (ad r0) :: (st.drop k).map (rf_mv ad) := by
      rw [hstk, htk, List.map_append, List.map_reverse, List.append_assoc]
      rfl
    have hlen : (As.map (rf_mv ad)).length = k - 1 := by rw [List.length_map, hlenA]
    rw [hAs] at hM
    rw [hret] at hM hcode
    cases sw with
    | nil =>
      have hlink := hts _ (rf_lk_tb hlk rfl)
      exact behind _ (va_runI ⟨hx, hb, hml, hown, hts⟩ hM ⟨callB_of (k - 1) hts (rf_gi hcode) rfl rfl rfl hini hlink ⟨hok.1, hok.2, hpl⟩ hR, hy1, hinst⟩ ⟨rf_blind, fun U hU hWm => ⟨rfl, pre U hU hWm⟩⟩ rfl hlen hl.1 hstack (lv_room h8') hd ⟨hcells, hslots⟩) rfl
    | cons q0 qs =>
      have hlink := hNx.1 _ _ _ _ (rf_lk_ok hlk)
      exact behind _ (va_runIN ⟨hx, hb, hml, hown, hts⟩ hM ⟨va_cnB (k - 1) hts (rf_gi hcode) rfl rfl rfl hlink hini ⟨hok.1, hok.2, hpl⟩ hR, hy1, hinst⟩ ⟨rf_blind, fun U hU hWm => ⟨rfl, pre U hU hWm⟩⟩ rfl hlen hl.1 hstack (lv_room h8') hd ⟨hcells, hslots⟩) rfl
end
