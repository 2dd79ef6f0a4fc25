theorem rf_oi1 : Jvm.Cond.instanceMethod objectInit ∈ rf_tb := by decide +kernel
theorem rf_oi2 : Jvm.Cond.code objectInit ⟨#[0xb1]⟩ 1 none ∈ rf_tb := by decide +kernel
theorem rf_ac1 : Jvm.Cond.native arraycopyName ∈ rf_tb := by decide +kernel
theorem rf_ac2 : Jvm.Cond.static arraycopyName ∈ rf_tb := by decide +kernel
theorem rf_ma1 : Jvm.Cond.static Lib.Math.max.name ∈ rf_tb := by decide +kernel
theorem rf_ma2 : Jvm.Cond.initialized "java/lang/Math" ∈ rf_tb := by decide +kernel
theorem rf_ma3 : Jvm.Cond.code Lib.Math.max.name Lib.Math.max.code 2 (some .int) ∈ rf_tb := by decide +kernel
theorem rf_mi1 : Jvm.Cond.static Lib.Math.min.name ∈ rf_tb := by decide +kernel
theorem rf_mi2 : Jvm.Cond.initialized "java/lang/Math" ∈ rf_tb := by decide +kernel
theorem rf_mi3 : Jvm.Cond.code Lib.Math.min.name Lib.Math.min.code 2 (some .int) ∈ rf_tb := by decide +kernel
theorem rf_ac3 : Jvm.Cond.initialized "java/lang/System" ∈ rf_tb := by decide +kernel
/-! switches, fields, arrays, Object.<init>, arraycopy -/
theorem rf_lsw_ok {pc : Nat} {d : Int} {c : Nat} (hd : (pc : Int) + d = (c : Int)) (x : Int) : ∀ (ps : List (Int × Int)) (sw : List (Int × Nat)), rf_lsw pc ps sw = true → (pc : Int) + Op.lookupswitch.offset ps d x = (rf_sw sw c x : Int)
  | [], [], _ => hd
  | (k, o) :: r, (k', t) :: r', h => by
    simp only [rf_lsw, Bool.and_eq_true, decide_eq_true_eq] at h
    obtain ⟨⟨rfl, h2⟩, h3⟩ := h
    by_cases hx : x = k
    · subst hx
      simp only [Op.lookupswitch.offset, rf_sw, decide_true, cond_true]
      simpa using h2
    · have ih := rf_lsw_ok hd x r r' h3
      simp only [Op.lookupswitch.offset, rf_sw, decide_eq_false hx, cond_false]
      rw [← ih]
      congr 1
      simp
      intro q
      exact absurd q.symm hx
  | [], _ :: _, h => by simp [rf_lsw] at h
  | _ :: _, [], h => by simp [rf_lsw] at h
theorem rf_tsw_ok {pc : Nat} (c : Nat) (x : Int) : ∀ (os : List Int) (lo : Int) (sw : List (Int × Nat)), rf_tsw pc lo os sw = true → (∀ i : Nat, x = lo + (i : Int) → i < os.length → ∃ o, os[i]? = some o ∧ (pc : Int) + o = (rf_sw sw c x : Int)) ∧ ((x < lo ∨ lo + (os.length : Int) ≤ x) → rf_sw sw c x = c)
  | [], lo, [], _ => ⟨fun i _ h => absurd h (Nat.not_lt_zero i), fun _ => rfl⟩
  | o :: os, lo, (k, t) :: r, h => by
    simp only [rf_tsw, Bool.and_eq_true, decide_eq_true_eq] at h
    obtain ⟨⟨rfl, h2⟩, h3⟩ := h
    obtain ⟨i1, i2⟩ := rf_tsw_ok c x os (k + 1) r h3
    refine ⟨fun i hi hl => ?_, fun hx => ?_⟩
    · cases i with
      | zero =>
        have hxk : x = k := by omega
        exact ⟨o, rfl, by simp only [rf_sw, decide_eq_true hxk, cond_true]; exact h2⟩
      | succ i =>
        have hxk : ¬ x = k := by omega
        obtain ⟨o', e1, e2⟩ := i1 i (by omega) (by simpa using hl)
        exact ⟨o', by simpa using e1, by simp only [rf_sw, decide_eq_false hxk, cond_false]; exact e2⟩
    · simp only [List.length_cons] at hx
      have hxk : ¬ x = k := by omega
      simp only [rf_sw, decide_eq_false hxk, cond_false]
      exact i2 (by omega)
  | [], _, _ :: _, h => by simp [rf_tsw] at h
  | _ :: _, _, [], h => by simp [rf_tsw] at h
section
variable {p : Program} {l : Launch} {e : Env} {R : Room} {s : State} {m : MethodId} {args : Array Value} {below : List Frame} {meth : Method} {c : Code} {cells slots : Nat} {Q : State → Prop} {own : String} {cc : ByteArray} {nL : Nat} {nm : String} {dD : va_G} {aC : Nat → ClassId} {SA : rf_A} {ad : Nat → Nat} {A : Nat → Prop} {ms : List rf_M} {ret : Option FieldType} {pc : Nat} {L : rf_L} {st : List Value} {σ : rf_S} {r : Nat × rf_L × List Value × rf_S}
theorem rf_s28 (C : rf_Cx p R s m args meth c own cc nL nm dD aC SA ad A) {a : Int} {b k x nxt : Nat} {sw : List (Int × Nat)} (hc : rf_chk ms own cc nm nL ret pc (28, a, b, k, x, nxt, sw) = true) (hs : rf_stp SA (28, a, b, k, x, nxt, sw) L st σ = some r) (hG : rf_G p l e R s m args below meth c cells slots Q nL dD ad aC A r) : rf_G p l e R s m args below meth c cells slots Q nL dD ad aC A (pc, L, st, σ) := by
  obtain ⟨hx, hb, hml, hown, hts, hK, hSt, hA, hnm, hNx, hfr, hlo⟩ := C
  intro H locs ls hW hl
  simp only [rf_stp] at hs
  split at hs
  case h_2 => cases hs
  case h_1 y rr =>
  cases hs
  have hg := hG H locs ls hW hl
  simp only [rf_chk] at hc
  split at hc
  case h_3 => cases hc
  case h_1 d ps len hdec =>
    simp only [Bool.and_eq_true, decide_eq_true_eq] at hc
    exact lv_lookup hx hb hdec hc.2 rfl (rf_lsw_ok hc.1.1 y.toInt ps.toList sw hc.1.2) hg
  case h_2 d lo hi offs len hdec =>
    simp only [Bool.and_eq_true, decide_eq_true_eq] at hc
    obtain ⟨⟨h1, h2⟩, h3⟩ := hc
    obtain ⟨i1, i2⟩ := rf_tsw_ok k y.toInt offs.toList lo sw h3
    by_cases hlo : y.toInt < lo
    · have e1 := i2 (Or.inl hlo)
      rw [e1] at hg
      exact lv_tableOut hx hb hdec (Or.inl hlo) h1 hg
    · by_cases hhi : hi < y.toInt
      · have e1 := i2 (Or.inr (by simp only [Array.length_toList]; omega))
        rw [e1] at hg
        exact lv_tableOut hx hb hdec (Or.inr hhi) h1 hg
      · obtain ⟨o', e1, e2⟩ := i1 (y.toInt - lo).toNat (by omega) (by simp only [Array.length_toList]; omega)
        exact lv_tableIn hx hb hdec hlo hhi (by rw [← Array.getElem?_toList]; exact e1) e2 hg
theorem rf_s29 (C : rf_Cx p R s m args meth c own cc nL nm dD aC SA ad A) {a : Int} {b k x nxt : Nat} {sw : List (Int × Nat)} (hc : rf_chk ms own cc nm nL ret pc (29, a, b, k, x, nxt, sw) = true) (hs : rf_stp SA (29, a, b, k, x, nxt, sw) L st σ = some r) (hG : rf_G p l e R s m args below meth c cells slots Q nL dD ad aC A r) : rf_G p l e R s m args below meth c cells slots Q nL dD ad aC A (pc, L, st, σ) := by
  obtain ⟨hx, hb, hml, hown, hts, hK, hSt, hA, hnm, hNx, hfr, hlo⟩ := C
  intro H locs ls hW hl
  simp only [rf_stp] at hs
  split at hs
  case h_2 => cases hs
  case h_1 r0 rr =>
  split at hs
  case h_2 => cases hs
  case h_1 ci fs hcell =>
  rw [cond_eq_ite] at hs
  split at hs
  case isFalse => cases hs
  case isTrue hci =>
  have hci : ci = b := Nat.eq_of_beq_eq_true hci
  subst hci
  split at hs
  case h_2 => cases hs
  case h_1 v hv =>
  cases hs
  simp only [rf_chk, Bool.and_eq_true] at hc
  obtain ⟨⟨⟨hd0, hlk⟩, hk⟩, hbn⟩ := hc
  obtain ⟨hd, rfl⟩ := rf_dec_ok hd0
  have hbn : ci < 11 := Nat.le_of_ble_eq_true hbn
  obtain ⟨C0, T, N, h1, h2, h3, h4, h5, h6⟩ := rf_cls hbn
  have hk : k < N := by rw [← h6]; exact Nat.le_of_ble_eq_true hk
  rw [h5 k] at hlk
  have he := rf_ws_get (ad := ad) (aC := aC) hcell
  exact va_get hx hb hts h2 hown hK hW.1 r0 he h1 k hk (hts _ (rf_lk_tb hlk rfl)) (fun _ h9 => h9) (by rw [List.getElem?_map, hv]; rfl) hd (hG H locs ls hW hl)
theorem rf_s30 (C : rf_Cx p R s m args meth c own cc nL nm dD aC SA ad A) {a : Int} {b k x nxt : Nat} {sw : List (Int × Nat)} (hc : rf_chk ms own cc nm nL ret pc (30, a, b, k, x, nxt, sw) = true) (hs : rf_stp SA (30, a, b, k, x, nxt, sw) L st σ = some r) (hG : rf_G p l e R s m args below meth c cells slots Q nL dD ad aC A r) : rf_G p l e R s m args below meth c cells slots Q nL dD ad aC A (pc, L, st, σ) := by
  obtain ⟨hx, hb, hml, hown, hts, hK, hSt, hA, hnm, hNx, hfr, hlo⟩ := C
  intro H locs ls hW hl
  simp only [rf_stp] at hs
  split at hs
  case h_2 => cases hs
  case h_1 v r0 rr =>
  split at hs
  case h_2 => cases hs
  case h_1 ci fs hcell =>
  rw [cond_eq_ite] at hs
  split at hs
  case isFalse => cases hs
  case isTrue hci =>
  simp only [Bool.and_eq_true] at hci
  obtain ⟨⟨hci, hfit⟩, hlen⟩ := hci
  have hci : ci = b := Nat.eq_of_beq_eq_true hci
  subst hci
  cases hs
  have hlen : k < fs.length := Nat.le_of_ble_eq_true hlen
  simp only [rf_chk, Bool.and_eq_true] at hc
  obtain ⟨⟨⟨⟨hd0, hlk⟩, hk⟩, hbn⟩, hfin⟩ := hc
  obtain ⟨hd, rfl⟩ := rf_dec_ok hd0
  have hbn : ci < 11 := Nat.le_of_ble_eq_true hbn
  obtain ⟨C0, T, N, h1, h2, h3, h4, h5, h6⟩ := rf_cls hbn
  have hk : k < N := by rw [← h6]; exact Nat.le_of_ble_eq_true hk
  rw [h5 k] at hlk hfin
  have he := rf_ws_get (ad := ad) (aC := aC) hcell
  obtain ⟨hf1, hf2⟩ := rf_fit_ok ad hfit
  have hset : (rf_ws ad aC σ).set r0 (ad r0, .inr (ci, (fs.map (rf_mv ad)).set k (rf_mv ad v))) = rf_ws ad aC (σ.set r0 (.inr (ci, fs.set k v))) := by
    rw [← rf_ws_set]
    show _ = (rf_ws ad aC σ).set r0 (ad r0, .inr (ci, (fs.set k v).map (rf_mv ad)))
    rw [List.map_set]
  have kk : ∀ (H1 : Heap) (locs1 : List Loc), va_P dD vwCl ((rf_ws ad aC σ).set r0 (ad r0, .inr (ci, (fs.map (rf_mv ad)).set k (rf_mv ad v)))) H1 → va_D A ((rf_ws ad aC σ).set r0 (ad r0, .inr (ci, (fs.map (rf_mv ad)).set k (rf_mv ad v)))) → va_S A s.heap H1 locs1 → W p l e R s m args below meth c H1 locs1 cells slots Q (F0 m (pc + 3) ls (rr.map (rf_mv ad))) := by
    intro H1 locs1 g1 g2 g3
    rw [hset] at g1 g2
    exact hG H1 locs1 ls ⟨g1, g2, g3⟩ hl
  cases hff : (T k).2.2.2 with
  | false =>
    exact va_put hx hb hts h2 (rf_fty ci) h3 h4 hown hK hW.1 hW.2.1 hW.2.2 r0 he h1 k hk (hts _ (rf_lk_tb hlk rfl)) (fun _ h9 => h9) hff (h3 k hk) hf1 hf2 (by simpa using hlen) hd kk
  | true =>
    rw [hff] at hfin
    simp only [Bool.not_true, Bool.false_or, Bool.and_eq_true, decide_eq_true_eq] at hfin
    exact va_putF hx hb hts h2 (rf_fty ci) h3 h4 hown hK hW.1 hW.2.1 hW.2.2 r0 he h1 k hk (hts _ (rf_lk_tb hlk rfl)) (fun _ h9 => h9) hff ((hnm hfin.1).trans hfin.1) hfin.2 (h3 k hk) hf1 hf2 (by simpa using hlen) hd kk
theorem rf_s31 (C : rf_Cx p R s m args meth c own cc nL nm dD aC SA ad A) {a : Int} {b k x nxt : Nat} {sw : List (Int × Nat)} (hc : rf_chk ms own cc nm nL ret pc (31, a, b, k, x, nxt, sw) = true) (hs : rf_stp SA (31, a, b, k, x, nxt, sw) L st σ = some r) (hG : rf_G p l e R s m args below meth c cells slots Q nL dD ad aC A r) : rf_G p l e R s m args below meth c cells slots Q nL dD ad aC A (pc, L, st, σ) := by
  obtain ⟨hx, hb, hml, hown, hts, hK, hSt, hA, hnm, hNx, hfr, hlo⟩ := C
  intro H locs ls hW hl
  simp only [rf_stp] at hs
  cases hs
  have hg := hG H locs ls hW hl
  simp only [rf_chk] at hc
  match b, hc, hg with
  | 0, hc, hg =>
    have hc : (rf_dec cc pc (.getstatic a.toNat) 3 nxt && rf_lk x (.fieldLink own a.toNat "LeftByLast$Acts" "BODY" "[I")) = true := hc
    rw [Bool.and_eq_true] at hc
    obtain ⟨hd, rfl⟩ := rf_dec_ok hc.1
    exact va_gets hx hb hSt.2.1 hW.2.2 hown (hts _ (rf_lk_tb hc.2 rfl)) (fun _ h9 => h9) hd hg
  | 1, hc, hg =>
    have hc : (rf_dec cc pc (.getstatic a.toNat) 3 nxt && rf_lk x (.fieldLink own a.toNat "LeftByLast$Acts" "ABOVE" "[I")) = true := hc
    rw [Bool.and_eq_true] at hc
    obtain ⟨hd, rfl⟩ := rf_dec_ok hc.1
    exact va_gets hx hb hSt.2.2 hW.2.2 hown (hts _ (rf_lk_tb hc.2 rfl)) (fun _ h9 => h9) hd hg
  | n + 2, hc, hg => cases hc
theorem rf_s32 (C : rf_Cx p R s m args meth c own cc nL nm dD aC SA ad A) {a : Int} {b k x nxt : Nat} {sw : List (Int × Nat)} (hc : rf_chk ms own cc nm nL ret pc (32, a, b, k, x, nxt, sw) = true) (hs : rf_stp SA (32, a, b, k, x, nxt, sw) L st σ = some r) (hG : rf_G p l e R s m args below meth c cells slots Q nL dD ad aC A r) : rf_G p l e R s m args below meth c cells slots Q nL dD ad aC A (pc, L, st, σ) := by
  obtain ⟨hx, hb, hml, hown, hts, hK, hSt, hA, hnm, hNx, hfr, hlo⟩ := C
  intro H locs ls hW hl
  simp only [rf_stp] at hs
  split at hs
  case h_2 => cases hs
  case h_1 i r0 rr =>
  simp only [rf_chk] at hc
  obtain ⟨hd, rfl⟩ := rf_dec_ok hc
  rw [cond_eq_ite] at hs
  split at hs
  case isTrue h6 =>
    have h6 : 1000000 ≤ r0 := Nat.le_of_ble_eq_true h6
    split at hs
    case h_2 => cases hs
    case h_1 q hq =>
    rw [cond_eq_ite] at hs
    split at hs
    case isFalse => cases hs
    case isTrue hin =>
    cases hs
    have hT := hSt.1 _ _ hq
    rw [rf_ix_eq h6] at hT
    exact va_ti hx hb hT hW.2.2 (rf_ixs_ok hin) rfl hd (hG H locs ls hW hl)
  case isFalse h6 =>
    split at hs
    case h_2 => cases hs
    case h_1 n f hcell =>
    rw [cond_eq_ite] at hs
    split at hs
    case isFalse => cases hs
    case isTrue hin =>
    cases hs
    exact va_iald hx hb hK hW.1 r0 0 (rf_ws_get (ad := ad) (aC := aC) hcell) rfl (rf_ixs_ok hin) hd (hG H locs ls hW hl)
theorem rf_s33 (C : rf_Cx p R s m args meth c own cc nL nm dD aC SA ad A) {a : Int} {b k x nxt : Nat} {sw : List (Int × Nat)} (hc : rf_chk ms own cc nm nL ret pc (33, a, b, k, x, nxt, sw) = true) (hs : rf_stp SA (33, a, b, k, x, nxt, sw) L st σ = some r) (hG : rf_G p l e R s m args below meth c cells slots Q nL dD ad aC A r) : rf_G p l e R s m args below meth c cells slots Q nL dD ad aC A (pc, L, st, σ) := by
  obtain ⟨hx, hb, hml, hown, hts, hK, hSt, hA, hnm, hNx, hfr, hlo⟩ := C
  intro H locs ls hW hl
  simp only [rf_stp] at hs
  split at hs
  case h_2 => cases hs
  case h_1 v i r0 rr =>
  simp only [rf_chk] at hc
  obtain ⟨hd, rfl⟩ := rf_dec_ok hc
  split at hs
  case h_2 => cases hs
  case h_1 n f hcell =>
  rw [cond_eq_ite] at hs
  split at hs
  case isFalse => cases hs
  case isTrue hin =>
  cases hs
  refine va_iast hx hb hK hW.1 hW.2.1 hW.2.2 r0 0 (rf_ws_get (ad := ad) (aC := aC) hcell) rfl (rf_ixs_ok hin) hd (fun H1 locs1 g1 g2 g3 => ?_)
  have hset := rf_ws_set ad aC σ r0 (.inl (0, n, .inl (upd f i.toNatClampNeg v)))
  exact hG H1 locs1 ls ⟨by rw [← hset]; exact g1, by rw [← hset]; exact g2, g3⟩ hl
theorem rf_s34 (C : rf_Cx p R s m args meth c own cc nL nm dD aC SA ad A) {a : Int} {b k x nxt : Nat} {sw : List (Int × Nat)} (hc : rf_chk ms own cc nm nL ret pc (34, a, b, k, x, nxt, sw) = true) (hs : rf_stp SA (34, a, b, k, x, nxt, sw) L st σ = some r) (hG : rf_G p l e R s m args below meth c cells slots Q nL dD ad aC A r) : rf_G p l e R s m args below meth c cells slots Q nL dD ad aC A (pc, L, st, σ) := by
  obtain ⟨hx, hb, hml, hown, hts, hK, hSt, hA, hnm, hNx, hfr, hlo⟩ := C
  intro H locs ls hW hl
  simp only [rf_stp] at hs
  split at hs
  case h_2 => cases hs
  case h_1 i r0 rr =>
  simp only [rf_chk] at hc
  obtain ⟨hd, rfl⟩ := rf_dec_ok hc
  split at hs
  case h_2 => cases hs
  case h_1 n f hcell =>
  rw [cond_eq_ite] at hs
  split at hs
  case isFalse => cases hs
  case isTrue hin =>
  cases hs
  exact va_lald hx hb hK hW.1 r0 1 (rf_ws_get (ad := ad) (aC := aC) hcell) rfl (rf_ixs_ok hin) hd (hG H locs ls hW hl)
theorem rf_s35 (C : rf_Cx p R s m args meth c own cc nL nm dD aC SA ad A) {a : Int} {b k x nxt : Nat} {sw : List (Int × Nat)} (hc : rf_chk ms own cc nm nL ret pc (35, a, b, k, x, nxt, sw) = true) (hs : rf_stp SA (35, a, b, k, x, nxt, sw) L st σ = some r) (hG : rf_G p l e R s m args below meth c cells slots Q nL dD ad aC A r) : rf_G p l e R s m args below meth c cells slots Q nL dD ad aC A (pc, L, st, σ) := by
  obtain ⟨hx, hb, hml, hown, hts, hK, hSt, hA, hnm, hNx, hfr, hlo⟩ := C
  intro H locs ls hW hl
  simp only [rf_stp] at hs
  split at hs
  case h_2 => cases hs
  case h_1 v i r0 rr =>
  simp only [rf_chk] at hc
  obtain ⟨hd, rfl⟩ := rf_dec_ok hc
  split at hs
  case h_2 => cases hs
  case h_1 n f hcell =>
  rw [cond_eq_ite] at hs
  split at hs
  case isFalse => cases hs
  case isTrue hin =>
  cases hs
  refine va_last hx hb hK hW.1 hW.2.1 hW.2.2 r0 1 (rf_ws_get (ad := ad) (aC := aC) hcell) rfl (rf_ixs_ok hin) hd (fun H1 locs1 g1 g2 g3 => ?_)
  have hset := rf_ws_set ad aC σ r0 (.inl (1, n, .inr (.inl (vp_updL f i.toNatClampNeg v))))
  exact hG H1 locs1 ls ⟨by rw [← hset]; exact g1, by rw [← hset]; exact g2, g3⟩ hl
theorem rf_s36 (C : rf_Cx p R s m args meth c own cc nL nm dD aC SA ad A) {a : Int} {b k x nxt : Nat} {sw : List (Int × Nat)} (hc : rf_chk ms own cc nm nL ret pc (36, a, b, k, x, nxt, sw) = true) (hs : rf_stp SA (36, a, b, k, x, nxt, sw) L st σ = some r) (hG : rf_G p l e R s m args below meth c cells slots Q nL dD ad aC A r) : rf_G p l e R s m args below meth c cells slots Q nL dD ad aC A (pc, L, st, σ) := by
  obtain ⟨hx, hb, hml, hown, hts, hK, hSt, hA, hnm, hNx, hfr, hlo⟩ := C
  intro H locs ls hW hl
  simp only [rf_stp] at hs
  split at hs
  case h_2 => cases hs
  case h_1 i r0 rr =>
  simp only [rf_chk] at hc
  obtain ⟨hd, rfl⟩ := rf_dec_ok hc
  split at hs
  case h_2 => cases hs
  case h_1 n f hcell =>
  rw [cond_eq_ite] at hs
  split at hs
  case isFalse => cases hs
  case isTrue hin =>
  split at hs
  case h_2 => cases hs
  case h_1 q hq =>
  cases hs
  have hg := hG H locs ls hW hl
  refine va_aldq hx hb hK hW.1 r0 2 (rf_ws_get (ad := ad) (aC := aC) hcell) rfl (rf_ixs_ok hin) hd ?_
  have e1 : va_rf ((f i.toNatClampNeg).map ad) = Value.ref (ad q) := by rw [hq]; rfl
  rw [e1]
  exact hg
theorem rf_s37 (C : rf_Cx p R s m args meth c own cc nL nm dD aC SA ad A) {a : Int} {b k x nxt : Nat} {sw : List (Int × Nat)} (hc : rf_chk ms own cc nm nL ret pc (37, a, b, k, x, nxt, sw) = true) (hs : rf_stp SA (37, a, b, k, x, nxt, sw) L st σ = some r) (hG : rf_G p l e R s m args below meth c cells slots Q nL dD ad aC A r) : rf_G p l e R s m args below meth c cells slots Q nL dD ad aC A (pc, L, st, σ) := by
  obtain ⟨hx, hb, hml, hown, hts, hK, hSt, hA, hnm, hNx, hfr, hlo⟩ := C
  intro H locs ls hW hl
  simp only [rf_stp] at hs
  split at hs
  case h_2 => cases hs
  case h_1 v i r0 rr =>
  simp only [rf_chk] at hc
  obtain ⟨hd, rfl⟩ := rf_dec_ok hc
  split at hs
  case h_2 => cases hs
  case h_1 n f fs hcell hcv =>
  rw [cond_eq_ite] at hs
  split at hs
  case isFalse => cases hs
  case isTrue hin =>
  cases hs
  refine va_astq (r := (RX5, TX5, 6)) hx hb hK hW.1 hW.2.1 hW.2.2 r0 2 v 5 (rf_ws_get (ad := ad) (aC := aC) hcell) rfl (rf_ws_get (ad := ad) (aC := aC) hcv) rfl (rf_ixs_ok hin) hd (fun H1 locs1 g1 g2 g3 => ?_)
  have hset := rf_ws_set ad aC σ r0 (.inl (2, n, .inr (.inr (.inr (.inr (va_up f i.toNatClampNeg (some v)))))))
  have e1 : rf_mo ad aC (.inl (2, n, .inr (.inr (.inr (.inr (va_up f i.toNatClampNeg (some v))))))) = .inl (aC 2, n, .inr (.inr (.inr (.inr (va_up (fun j => (f j).map ad) i.toNatClampNeg (some (ad v))))))) := by
    show (Sum.inl (aC 2, n, Sum.inr (Sum.inr (Sum.inr (Sum.inr fun j => (va_up f i.toNatClampNeg (some v) j).map ad)))) : va_E) = _
    congr 7
    funext j
    unfold va_up
    by_cases hj : j = i.toNatClampNeg
    · rw [if_pos hj, if_pos hj]; rfl
    · rw [if_neg hj, if_neg hj]
  rw [e1] at hset
  exact hG H1 locs1 ls ⟨by rw [← hset]; exact g1, by rw [← hset]; exact g2, g3⟩ hl
theorem rf_s38 (C : rf_Cx p R s m args meth c own cc nL nm dD aC SA ad A) {a : Int} {b k x nxt : Nat} {sw : List (Int × Nat)} (hc : rf_chk ms own cc nm nL ret pc (38, a, b, k, x, nxt, sw) = true) (hs : rf_stp SA (38, a, b, k, x, nxt, sw) L st σ = some r) (hG : rf_G p l e R s m args below meth c cells slots Q nL dD ad aC A r) : rf_G p l e R s m args below meth c cells slots Q nL dD ad aC A (pc, L, st, σ) := by
  obtain ⟨hx, hb, hml, hown, hts, hK, hSt, hA, hnm, hNx, hfr, hlo⟩ := C
  intro H locs ls hW hl
  simp only [rf_stp] at hs
  split at hs
  case h_2 => cases hs
  case h_1 r0 rr =>
  simp only [rf_chk] at hc
  obtain ⟨hd, rfl⟩ := rf_dec_ok hc
  rw [cond_eq_ite] at hs
  split at hs
  case isTrue h6 =>
    have h6 : 1000000 ≤ r0 := Nat.le_of_ble_eq_true h6
    split at hs
    case h_2 => cases hs
    case h_1 q hq =>
    cases hs
    have hT := hSt.1 _ _ hq
    rw [rf_ix_eq h6] at hT
    exact va_tlen hx hb hT hW.2.2 rfl hd (hG H locs ls hW hl)
  case isFalse h6 =>
    split at hs
    case h_2 => cases hs
    case h_1 kk n f hcell =>
    rw [cond_eq_ite] at hs
    split at hs
    case isFalse => cases hs
    case isTrue hk3 =>
    cases hs
    have hk3 : kk < 3 := Nat.le_of_ble_eq_true hk3
    have hg := hG H locs ls hW hl
    have hwe := rf_ws_get (ad := ad) (aC := aC) hcell
    have hty : ∃ ty, (rf_tys aC)[kk]? = some (aC kk, ty) := by
      match kk, hk3 with
      | 0, _ => exact ⟨_, rfl⟩
      | 1, _ => exact ⟨_, rfl⟩
      | 2, _ => exact ⟨_, rfl⟩
    obtain ⟨ty, hty⟩ := hty
    have hmo : ∃ f', rf_mo ad aC (.inl (kk, n, f)) = .inl (aC kk, n, f') := by
      rcases f with f | f | f | f | f <;> exact ⟨_, rfl⟩
    obtain ⟨f', hmo⟩ := hmo
    rw [hmo] at hwe
    exact va_alen hx hb hK hW.1 r0 kk hwe hty rfl hd hg
theorem rf_s42 (C : rf_Cx p R s m args meth c own cc nL nm dD aC SA ad A) {a : Int} {b k x nxt : Nat} {sw : List (Int × Nat)} (hc : rf_chk ms own cc nm nL ret pc (42, a, b, k, x, nxt, sw) = true) (hs : rf_stp SA (42, a, b, k, x, nxt, sw) L st σ = some r) (hG : rf_G p l e R s m args below meth c cells slots Q nL dD ad aC A r) : rf_G p l e R s m args below meth c cells slots Q nL dD ad aC A (pc, L, st, σ) := by
  obtain ⟨hx, hb, hml, hown, hts, hK, hSt, hA, hnm, hNx, hfr, hlo⟩ := C
  intro H locs ls hW hl
  simp only [rf_stp] at hs
  split at hs
  case h_2 => cases hs
  case h_1 r0 rr =>
  rw [cond_eq_ite] at hs
  split at hs
  case isFalse => cases hs
  case isTrue h8 =>
  cases hs
  have h8 : rf_cat rr ≤ 8 := Nat.le_of_ble_eq_true h8
  simp only [rf_chk, Bool.and_eq_true] at hc
  obtain ⟨hd, rfl⟩ := rf_dec_ok hc.1
  have hg := hG H locs ls hW hl
  refine W.objInit hx hb hown (hts _ (rf_lk_tb hc.2 rfl)) (hts _ rf_oi1) (hts _ rf_oi2) rfl (by rw [hml]; exact hl.1) rfl hd hfr ?_ ?_
  · rw [rf_cat_map]
    show 2 * 0 + rf_cat rr + 12 ≤ R.locals
    omega
  · exact hg
theorem rf_s43 (C : rf_Cx p R s m args meth c own cc nL nm dD aC SA ad A) {a : Int} {b k x nxt : Nat} {sw : List (Int × Nat)} (hc : rf_chk ms own cc nm nL ret pc (43, a, b, k, x, nxt, sw) = true) (hs : rf_stp SA (43, a, b, k, x, nxt, sw) L st σ = some r) (hG : rf_G p l e R s m args below meth c cells slots Q nL dD ad aC A r) : rf_G p l e R s m args below meth c cells slots Q nL dD ad aC A (pc, L, st, σ) := by
  obtain ⟨hx, hb, hml, hown, hts, hK, hSt, hA, hnm, hNx, hfr, hlo⟩ := C
  intro H locs ls hW hl
  simp only [rf_stp] at hs
  split at hs
  case h_2 => cases hs
  case h_1 n dp r1 sp r0 rr =>
  rw [cond_eq_ite] at hs
  split at hs
  case isFalse => cases hs
  case isTrue h8 =>
  simp only [Bool.and_eq_true, decide_eq_true_eq] at h8
  obtain ⟨⟨⟨hn0, hd0⟩, hs0⟩, h8⟩ := h8
  have h8 : rf_cat rr ≤ 8 := Nat.le_of_ble_eq_true h8
  simp only [rf_chk, Bool.and_eq_true] at hc
  obtain ⟨hd, rfl⟩ := rf_dec_ok hc.1
  have hlk := hts _ (rf_lk_tb hc.2 rfl)
  have hml' : c.maxLocals = ls.size := by rw [hml]; exact hl.1.symm
  have hlo' : ((rr.map (rf_mv ad)).map fun v => v.category).sum + (nativeFrameWords "java/lang/System" "arraycopy" 5 + 11) ≤ R.locals := by
    rw [rf_cat_map]
    have : nativeFrameWords "java/lang/System" "arraycopy" 5 + 11 ≤ 50 := by decide
    omega
  split at hs
  case h_3 => cases hs
  case h_1 n0 f n1 g hc0 hc1 =>
    rw [cond_eq_ite] at hs
    split at hs
    case isFalse => cases hs
    case isTrue hle =>
    rw [Bool.and_eq_true] at hle
    cases hs
    refine va_copyi hx hb hml' hown hlk (hts _ rf_ac1) (hts _ rf_ac2) (hts _ rf_ac3) hK hW.1 hW.2.1 hW.2.2 r0 r1 0 0 (rf_ws_get (ad := ad) (aC := aC) hc0) (rf_ws_get (ad := ad) (aC := aC) hc1) rfl rfl rfl hs0 hd0 hn0 (Nat.le_of_ble_eq_true hle.1) (Nat.le_of_ble_eq_true hle.2) (fun _ _ => rfl) hfr hlo' hd (fun H1 locs1 g1 g2 g3 => ?_)
    have hset := rf_ws_set ad aC σ r1 (.inl (0, n1, .inl (va_cpy f g sp.toNatClampNeg dp.toNatClampNeg n.toNatClampNeg)))
    exact hG H1 locs1 ls ⟨by rw [← hset]; exact g1, by rw [← hset]; exact g2, g3⟩ hl
  case h_2 n0 f n1 g hc0 hc1 =>
    rw [cond_eq_ite] at hs
    split at hs
    case isFalse => cases hs
    case isTrue hle =>
    rw [Bool.and_eq_true] at hle
    cases hs
    refine va_copyl hx hb hml' hown hlk (hts _ rf_ac1) (hts _ rf_ac2) (hts _ rf_ac3) hK hW.1 hW.2.1 hW.2.2 r0 r1 1 1 (rf_ws_get (ad := ad) (aC := aC) hc0) (rf_ws_get (ad := ad) (aC := aC) hc1) rfl rfl rfl hs0 hd0 hn0 (Nat.le_of_ble_eq_true hle.1) (Nat.le_of_ble_eq_true hle.2) (fun _ _ => rfl) hfr hlo' hd (fun H1 locs1 g1 g2 g3 => ?_)
    have hset := rf_ws_set ad aC σ r1 (.inl (1, n1, .inr (.inl (va_cpy f g sp.toNatClampNeg dp.toNatClampNeg n.toNatClampNeg))))
    exact hG H1 locs1 ls ⟨by rw [← hset]; exact g1, by rw [← hset]; exact g2, g3⟩ hl
theorem rf_s44 (C : rf_Cx p R s m args meth c own cc nL nm dD aC SA ad A) {a : Int} {b k x nxt : Nat} {sw : List (Int × Nat)} (hcc : cells ≤ R.cells) (hss : slots ≤ R.slots) (hc : rf_chk ms own cc nm nL ret pc (44, a, b, k, x, nxt, sw) = true) (hs : rf_stp SA (44, a, b, k, x, nxt, sw) L st σ = some r) (hG : rf_G p l e R s m args below meth c cells slots Q nL dD ad aC A r) : rf_G p l e R s m args below meth c cells slots Q nL dD ad aC A (pc, L, st, σ) := by
  obtain ⟨hx, hb, hml, hown, hts, hK, hSt, hA, hnm, hNx, hfr, hlo⟩ := C
  intro H locs ls hW hl
  simp only [rf_stp] at hs
  split at hs
  case h_2 => cases hs
  case h_1 y z rr =>
  rw [cond_eq_ite] at hs
  split at hs
  case isFalse => cases hs
  case isTrue h8 =>
  have h8 : rf_cat rr ≤ 8 := Nat.le_of_ble_eq_true h8
  cases hs
  simp only [rf_chk, Bool.and_eq_true] at hc
  obtain ⟨hd, rfl⟩ := rf_dec_ok hc.1
  have hg := hG H locs ls hW hl
  exact va_mmax hx hb (by rw [hml]; exact hl.1.symm) hown (hts _ (rf_lk_tb hc.2 rfl)) (hts _ rf_ma1) (hts _ rf_ma2) (hts _ rf_ma3) hfr (by rw [rf_cat_map]; omega) hcc hss hd hg
theorem rf_s45 (C : rf_Cx p R s m args meth c own cc nL nm dD aC SA ad A) {a : Int} {b k x nxt : Nat} {sw : List (Int × Nat)} (hcc : cells ≤ R.cells) (hss : slots ≤ R.slots) (hc : rf_chk ms own cc nm nL ret pc (45, a, b, k, x, nxt, sw) = true) (hs : rf_stp SA (45, a, b, k, x, nxt, sw) L st σ = some r) (hG : rf_G p l e R s m args below meth c cells slots Q nL dD ad aC A r) : rf_G p l e R s m args below meth c cells slots Q nL dD ad aC A (pc, L, st, σ) := by
  obtain ⟨hx, hb, hml, hown, hts, hK, hSt, hA, hnm, hNx, hfr, hlo⟩ := C
  intro H locs ls hW hl
  simp only [rf_stp] at hs
  split at hs
  case h_2 => cases hs
  case h_1 y z rr =>
  rw [cond_eq_ite] at hs
  split at hs
  case isFalse => cases hs
  case isTrue h8 =>
  have h8 : rf_cat rr ≤ 8 := Nat.le_of_ble_eq_true h8
  cases hs
  simp only [rf_chk, Bool.and_eq_true] at hc
  obtain ⟨hd, rfl⟩ := rf_dec_ok hc.1
  have hg := hG H locs ls hW hl
  exact va_mmin hx hb (by rw [hml]; exact hl.1.symm) hown (hts _ (rf_lk_tb hc.2 rfl)) (hts _ rf_mi1) (hts _ rf_mi2) (hts _ rf_mi3) hfr (by rw [rf_cat_map]; omega) hcc hss hd hg
end
