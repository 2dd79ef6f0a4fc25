/-! the walk of a method, from any place: by the number of steps; then every method's contract, by the depth of calls -/
/-- how a method leaves -/
def rf_rv (op : Nat) (ret : Option FieldType) (rv : Option Value) : Prop := (op = 47 ∧ rv = none) ∨ (op = 48 ∧ ∃ z : Int32, rv = some (.int z) ∧ narrow (ret.getD .int) (.int z) = .int z) ∨ (op = 49 ∧ ∃ z : Int64, rv = some (.long z)) ∨ (op = 50 ∧ ∃ z : Nat, rv = some (.ref z))
theorem rf_chkT_at {ms : List rf_M} {mi : rf_M} {n pc : Nat} {E : rf_E} (h : rf_chkT ms mi n = true) (hb : ∀ pc E, mi.2.2 pc = some E → pc < n) (hE : mi.2.2 pc = some E) : rf_chk ms mi.1.2.2.2.2 mi.1.2.1 mi.1.1.name mi.1.2.2.1 mi.1.2.2.2.1 pc E = true := by
  have h1 := List.all_eq_true.mp h pc (List.mem_range.mpr (hb pc E hE))
  rw [hE] at h1
  exact h1
section
variable {p : Program} {l : Launch} {e : Env} {R : Room} {s : State} {m : MethodId} {args : Array Value} {below : List Frame} {meth : Method} {c : Code} {Q : State → Prop} {dD : va_G} {aC : Nat → ClassId} {SA : rf_A} {A : Nat → Prop} {ms : List rf_M} {mi : rf_M}
theorem rf_walk (hok : ∀ pc E, mi.2.2 pc = some E → rf_chk ms mi.1.2.2.2.2 mi.1.2.1 mi.1.1.name mi.1.2.2.1 mi.1.2.2.2.1 pc E = true) (hms : ∀ (b : Nat) (mj : rf_M), ms[b]? = some mj → rf_chkW mj = true) {K : Nat → List Value → rf_S → rf_P → Prop} {fr lo : Nat} (hRc : mi.2.1.2.2.1 ≤ R.cells) (hRs : mi.2.1.2.2.2.1 ≤ R.slots) (hfr : fr + 1 ≤ R.frames) (hlo : lo + 64 ≤ R.locals)
    (hcall : ∀ (b : Nat) (mj : rf_M) (As : List Value) (σ : rf_S) (post : rf_P) (ad : Nat → Nat), ms[b]? = some mj → K b As σ post → rf_CM l dD aC SA ad σ As mj fr lo post) {n0 : Nat} {ad0 : Nat → Nat} {post : rf_P}
    (hret : ∀ (rv : Option Value) (σ1 : rf_S) (ad1 : Nat → Nat) (H : Heap) (locs : List Loc) (ls : Array Slot) (pc : Nat) (E : rf_E), mi.2.2 pc = some E → rf_rv E.1 mi.1.2.2.2.1 rv → post rv σ1 → rf_Ag n0 ad0 ad1 σ1 → rf_Wd dD ad1 aC A s σ1 H locs → W p l e R s m args below meth c H locs mi.2.1.2.2.1 mi.2.1.2.2.2.1 Q (F0 m pc ls (rv.map (rf_mv ad1)).toList)) :
    ∀ (n pc : Nat) (L : rf_L) (st : List Value) (σ : rf_S) (u v : Nat) (ad : Nat → Nat), rf_Cx p R s m args meth c mi.1.2.2.2.2 mi.1.2.1 mi.1.2.2.1 mi.1.1.name dD aC SA ad A → rf_Ag n0 ad0 ad σ → u ≤ mi.2.1.2.2.1 → v ≤ mi.2.1.2.2.2.1 → rf_wp SA ms K mi n pc L st σ u v post → rf_G p l e R s m args below meth c u v Q mi.1.2.2.1 dD ad aC A (pc, L, st, σ) := by
  intro n
  induction n with
  | zero => intro pc L st σ u v ad _ _ _ _ h; exact h.elim
  | succ n ih =>
    intro pc L st σ u v ad C hag hu hv h
    unfold rf_wp at h
    split at h
    case h_1 => exact h.elim
    case h_2 E hE =>
    have hc := hok pc E hE
    split at h
    case isTrue h46 =>
      obtain ⟨op, a, b, k, x, nxt, sw⟩ := E
      dsimp only at h46
      subst h46
      dsimp only at h
      split at h
      case h_1 => exact h.elim
      case h_2 mj hmj =>
      obtain ⟨h1, h2, h3, h4, h5, h6⟩ := h
      refine rf_sC C hc hmj (hms b mj hmj) h1 h2 h3 (Nat.le_trans h4 hRc) (Nat.le_trans h5 hRs) hfr hlo (hcall b mj _ σ _ ad hmj h6) (fun rv σ1 ad1 hp hag1 => ⟨hp.1, ?_⟩)
      have hag' : rf_Ag n0 ad0 ad1 σ1 := ⟨Nat.le_trans hag.1 hag1.1, fun i hi => (hag1.2.1 i (hi.imp (fun h => Nat.lt_of_lt_of_le h hag.1) id)).trans (hag.2.1 i hi), fun hn => by
        have e1 : σ1.length = σ.length := Nat.le_antisymm (by rw [hn]; exact hag.1) hag1.1
        rw [hag1.2.2 e1]
        exact hag.2.2 (e1.symm.trans hn)⟩
      exact ih _ _ _ _ _ _ ad1 (rf_Cx_ag (fun i hi => hag1.2.1 i (Or.inr hi)) C) hag' h4 h5 hp.2
    case isFalse h46 =>
    split at h
    case isTrue hal =>
      split at h
      case h_1 => exact h.elim
      case h_2 r o w ho =>
      obtain ⟨h1, h2, h3, h4, h5, h6⟩ := h
      refine rf_sA C hc ho h1 h2 h3 (Nat.le_trans h4 hRc) (Nat.le_trans h5 hRs) (fun ad' had => ?_)
      have hag' : rf_Ag n0 ad0 ad' (σ ++ [o]) := ⟨by rw [List.length_append]; exact Nat.le_trans hag.1 (Nat.le_add_right _ _), fun i hi => (had i (hi.imp (fun h => Nat.lt_of_lt_of_le h hag.1) id)).trans (hag.2.1 i hi), fun hn => by
        rw [List.length_append, List.length_singleton] at hn
        have := hag.1
        omega⟩
      exact ih _ _ _ _ _ _ ad' (rf_Cx_ag (fun i hi => had i (Or.inr hi)) C) hag' h4 h5 h6
    case isFalse hal =>
    split at h
    case isTrue h47 =>
      obtain ⟨h1, h2, h3⟩ := h
      intro H locs ls hW hl
      refine W.widen h1 h2 ?_
      split at h3
      case h_1 e1 => exact hret none σ ad H locs ls pc E hE (Or.inl ⟨e1, rfl⟩) h3 hag hW
      case h_2 z e1 => exact hret (some (.int z)) σ ad H locs ls pc E hE (Or.inr (Or.inl ⟨e1, z, rfl, h3.1⟩)) h3.2 hag hW
      case h_3 z e1 => exact hret (some (.long z)) σ ad H locs ls pc E hE (Or.inr (Or.inr (Or.inl ⟨e1, z, rfl⟩))) h3 hag hW
      case h_4 z e1 => exact hret (some (.ref z)) σ ad H locs ls pc E hE (Or.inr (Or.inr (Or.inr ⟨e1, z, rfl⟩))) h3 hag hW
      case h_5 => exact h3.elim
    case isFalse h47 =>
      split at h
      case h_1 => exact h.elim
      case h_2 pc' L' st' σ' hs =>
      refine rf_sS C (Nat.le_trans hu hRc) (Nat.le_trans hv hRs) hc hs (ih _ _ _ _ _ _ ad C ?_ hu hv h)
      have hlen := rf_stp_len hs
      dsimp only at hlen
      exact ⟨by rw [hlen]; exact hag.1, hag.2.1, fun hn => hag.2.2 (hlen.symm.trans hn)⟩
end
theorem rf_args_map (ad : Nat → Nat) : ∀ (As : List Value) (i : Nat), lv_args i (As.map (rf_mv ad)) = rf_mL ad (lv_args i As)
  | [], _ => rfl
  | v :: As, i => by
    simp only [List.map_cons, lv_args, rf_mv_cat, rf_args_map ad As]
    rfl
theorem rf_sl_map (ad : Nat → Nat) (As : List Value) : (lg_sl (As.map (rf_mv ad))).length = (lg_sl As).length := by
  unfold lg_sl
  induction As with
  | nil => rfl
  | cons v As ih =>
    simp only [List.map_cons, List.flatMap_cons, List.length_append, rf_mv_cat, ih]
    split <;> rfl
/-- EVERY METHOD'S CONTRACT -/
theorem rf_met (l : Launch) {ms : List rf_M} {N : Nat} (hT : ∀ (b : Nat) (mj : rf_M), ms[b]? = some mj → ∀ pc E, mj.2.2 pc = some E → rf_chk ms mj.1.2.2.2.2 mj.1.2.1 mj.1.1.name mj.1.2.2.1 mj.1.2.2.2.1 pc E = true) (hms : ∀ (b : Nat) (mj : rf_M), ms[b]? = some mj → rf_chkW mj = true) (dD : va_G) (aC : Nat → ClassId) (SA : rf_A) :
    ∀ (d b : Nat) (mj : rf_M) (As : List Value) (σ : rf_S) (post : rf_P) (ad : Nat → Nat), ms[b]? = some mj → rf_run SA ms d b As σ post → rf_CM l dD aC SA ad σ As mj d (64 * d) post := by
  intro d
  induction d with
  | zero => intro b mj As σ post ad _ h; exact h.elim
  | succ d ih =>
    intro b mj As σ post ad hmj h sz
    obtain ⟨mi, hmi, hsl, n, hwp⟩ := h
    rw [hmj] at hmi
    cases hmi
    have hw := hms b mj hmj
    unfold rf_chkW at hw
    split at hw
    case h_2 => cases hw
    case h_1 i0 i1 i2 i3 hidx =>
    simp only [Bool.and_eq_true, decide_eq_true_eq] at hw
    obtain ⟨⟨⟨⟨⟨⟨hcode, hini⟩, hok⟩, hpn⟩, hcls⟩, h40⟩, hkind⟩ := hw
    refine Met.ofW (cc := mj.1.2.1) (maxL := mj.1.2.2.1) (ret := mj.1.2.2.2.1) hpn rfl ?_
    intro p e s m args below meth c s₁ B hml hv
    obtain ⟨rfl, hsz, hP, hK, hD0, hSt, hNx⟩ := hv
    have hx := B.exec
    have hb := B.bytes
    have hr := B.returns
    have hts := atoms_spec (ws := Jvm.Cond.code mj.1.1 mj.1.2.1 mj.1.2.2.1 mj.1.2.2.2.1 :: rf_tb) B.pre
    have hown : s.vm.findClass mj.1.1.cls = some m.cls := findClass_of_methodNamed B.named
    rw [hcls] at hown
    have hlocks := B.notSynchronized
    have hin : meth.name = mj.1.1.name := (name_of_methodNamed B.named B.method).1
    subst hsz
    have hD := hD0.self (sz := s.heap.size)
    have hA : ∀ q : Nat, s.heap.size ≤ q → va_A (rf_ws ad aC σ) s.heap.size q := fun q h => Or.inr h
    have hS : va_S (va_A (rf_ws ad aC σ) s.heap.size) s.heap s.heap [] := va_S.rf
    have hl := lv_entry (As.map (rf_mv ad)) (n := mj.1.2.2.1) (by rw [rf_sl_map]; exact hsl)
    rw [lg_entry_eq]
    rw [rf_args_map] at hl
    generalize (lg_sl (As.map (rf_mv ad)) ++ List.replicate (mj.1.2.2.1 - (lg_sl (As.map (rf_mv ad))).length) Slot.unset).toArray = ls at hl ⊢
    have C : rf_Cx p (headSpec (Jvm.Cond.code mj.1.1 mj.1.2.1 mj.1.2.2.1 mj.1.2.2.2.1 :: rf_tb) { frames := d + 1, cells := mj.2.1.2.2.1, slots := mj.2.1.2.2.2.1, locals := 64 * (d + 1) }).room s m (As.map (rf_mv ad)).toArray meth c mj.1.2.2.2.2 mj.1.2.1 mj.1.2.2.1 mj.1.1.name dD aC SA ad (va_A (rf_ws ad aC σ) s.heap.size) :=
      ⟨hx, hb, hml, hown, fun w h => hts w (List.mem_cons_of_mem _ h), hK, hSt, hA, fun _ => hin, hNx, Nat.succ_le_succ (Nat.zero_le d), by show 64 ≤ 64 * (d + 1); omega⟩
    have hlo : 64 * d + 64 ≤ (headSpec (Jvm.Cond.code mj.1.1 mj.1.2.1 mj.1.2.2.1 mj.1.2.2.2.1 :: rf_tb) { frames := d + 1, cells := mj.2.1.2.2.1, slots := mj.2.1.2.2.2.1, locals := 64 * (d + 1) }).room.locals := by show 64 * d + 64 ≤ 64 * (d + 1); omega
    refine rf_walk (mi := mj) (ms := ms) (hT b mj hmj) hms (K := rf_run SA ms d) (fr := d) (lo := 64 * d) (Nat.le_refl _) (Nat.le_refl _) (Nat.le_refl _) hlo (fun b' mj' As' σ' post' ad' h1 h2 => ih b' mj' As' σ' post' ad' h1 h2) (n0 := σ.length) (ad0 := ad) (post := post) ?_ n 0 (lv_args 0 As) [] σ 0 0 ad C ⟨Nat.le_refl _, fun _ _ => rfl, fun _ => rfl⟩ (Nat.zero_le _) (Nat.zero_le _) hwp s.heap [] ls ⟨hP, hD, hS⟩ hl
    intro rv σ1 ad1 H locs ls' pc E hE hrv hp hag hW
    have hc := hT b mj hmj pc E hE
    obtain ⟨op, a0, b0, k0, x0, nxt, sw⟩ := E
    have hQ : ∀ (v : Option Value), v = rv.map (rf_mv ad1) → ∀ t : State, t.heap = H → s.WarmedH t.vm → rf_Q dD aC σ.length ad post (va_A (rf_ws ad aC σ) s.heap.size) (As.map (rf_mv ad)).toArray s (.returned v) t := by
      intro v hv t ht _
      exact ⟨⟨rv, σ1, ad1, by rw [hv], hp, hag, by rw [ht]; exact hW.1, hW.2.1⟩, hW.2.2.F ht⟩
    rcases hrv with ⟨h47, rfl⟩ | ⟨h48, z, rfl, hz⟩ | ⟨h49, z, rfl⟩ | ⟨h50, z, rfl⟩
    · dsimp only at h47
      subst h47
      simp only [rf_chk, Bool.and_eq_true, decide_eq_true_eq] at hc
      obtain ⟨hd, -⟩ := rf_dec_ok hc.1
      exact W.vret hx hb (hr.trans hc.2) (hQ none rfl) hW.2.2.2.2 hd
    · dsimp only at h48
      subst h48
      simp only [rf_chk, Bool.and_eq_true, decide_eq_true_eq] at hc
      obtain ⟨hd, -⟩ := rf_dec_ok hc.1
      rcases hc.2 with h | h
      · rw [h] at hz
        exact W.zret (ty := .int) hx hb (hr.trans h) hz (hQ (some (.int z)) rfl) hW.2.2.2.2 hd
      · rw [h] at hz
        exact W.zret (ty := .boolean) hx hb (hr.trans h) hz (hQ (some (.int z)) rfl) hW.2.2.2.2 hd
    · dsimp only at h49
      subst h49
      simp only [rf_chk, Bool.and_eq_true, decide_eq_true_eq] at hc
      obtain ⟨hd, -⟩ := rf_dec_ok hc.1
      exact W.lret hx hb (hr.trans hc.2) (hQ (some (.long z)) rfl) hW.2.2.2.2 hd
    · dsimp only at h50
      subst h50
      simp only [rf_chk, Bool.and_eq_true] at hc
      obtain ⟨hd, -⟩ := rf_dec_ok hc.1
      have hc2 := hc.2
      split at hc2
      case h_2 => cases hc2
      case h_1 C0 hC0 =>
      exact W.aret hx hb (hr.trans hC0) (Or.inl ⟨_, rfl⟩) (Or.inr ⟨_, rfl⟩) (hQ (some (.ref (ad1 z))) rfl) hW.2.2.2.2 hd
