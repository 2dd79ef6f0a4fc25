/-! a method one of whose reads of a row is known by name: element k of row r is number g -/
noncomputable def zb_hkn (env : zb_N) (i : an_V) (k m : Nat) : Bool := match zb_pi env i with
  | some q => zb_smn q k && zb_ixs q m
  | none => false
noncomputable def zb_hkr (cs : List (Bool × zb_C)) : Option zb_R := bif cs.all (fun c => c.1) then some (cs.map fun c => (c.2.1, c.2.2.2.2.1.head?, c.2.2.2.2.2)) else none
noncomputable def zb_hk2 (T : zb_T) (wr : Nat → Bool) (sl : Bool × List Nat) (ms : List rf_M) (K : zb_Kt) (F : Nat) (mi : rf_M) (nxt r m k g : Nat) (e : Bool × zb_C) : Option zb_R := bif e.1 then some [(e.2.1, e.2.2.2.2.1.head?, e.2.2.2.2.2)] else (match e.2.2.2.2.1 with
  | i :: .inl (.ref r') :: st => bif Nat.beq r' r && zb_hkn e.2.1 i k m then zb_bnd (zb_body T wr sl ms K mi (fun _ => false) F true (e.2.1, nxt, e.2.2.2.1, .inr (0, (g : Int), 0) :: st, e.2.2.2.2.2)) zb_hkr else none
  | _ => none)
noncomputable def zb_hk (T : zb_T) (wr : Nat → Bool) (sl : Bool × List Nat) (ms : List rf_M) (K : zb_Kt) (F b pc0 r m k g : Nat) (env : zb_N) (As : List an_V) (D : zb_D) : Option zb_R := match zb_nth ms b with
  | none => none
  | some mi => (match mi.2.2 pc0 with
    | none => none
    | some E => bif Nat.beq E.1 32 && Nat.ble (an_lgs As) mi.1.2.2.1 then
        zb_bnd (zb_body T wr sl ms K mi (fun pc => Nat.beq pc pc0) F true (env, 0, zb_arg As ++ List.replicate mi.1.2.2.1 none, [], D)) fun cs => an_all (zb_hk2 T wr sl ms K F mi E.2.2.2.2.2.1 r m k g) cs
      else none)
section
variable {T : zb_T} {len : Nat} {wr : Nat → Bool} {sl : Bool × List Nat} {LL : Nat} {xs : Nat → Int32} {loc : Nat → Nat × Nat} {n0 : Nat} {ρ0 : Nat → Int} {σ0 : rf_S} {ms : List rf_M} {K : zb_Kt}
theorem zb_hk_ok {F b pc0 r m k g d : Nat} (hlen : len ≤ 1000000) (hLL : LL < 2 ^ 31) (hloc : zb_loc T loc) (hsl : sl.1 = true → zb_hs LL xs n0 ρ0) (hK : zb_cov T len wr n0 ρ0 σ0 K (rf_run (rf_SA LL xs) ms d)) (hr : rf_isS r = false) (hwr : wr r = false) (hk : k < n0) (hg : g < n0) (hgh : ∃ f, σ0[r]? = some (.inl (0, m, .inl f)) ∧ (0 ≤ ρ0 k → ρ0 k < (m : Int) → (f (ρ0 k).toNat).toInt = ρ0 g)) :
    ∀ (env : zb_N) (As : List an_V) (D : zb_D) (rs : zb_R) (As' : List Value) (σ : rf_S) (post : rf_P) (N : Nat) (ρ : Nat → Int), zb_hk T wr sl ms K F b pc0 r m k g env As D = some rs → zb_en N ρ env → zb_gl N ρ As As' → zb_ss T len D N ρ σ → zb_H wr n0 ρ0 σ0 N ρ σ →
    (∀ q, q ∈ rs → ∀ M ρ', N ≤ M → zb_ag N ρ ρ' → zb_en M ρ' q.1 → ∀ (rv : Option Value) (σ1 : rf_S), zb_gl M ρ' q.2.1.toList rv.toList → zb_ss T len q.2.2 M ρ' σ1 → (∀ x, wr x = false → σ1[x]? = σ[x]?) → post rv σ1) → rf_run (rf_SA LL xs) ms (d + 1) b As' σ post := by
  intro env As D rs As' σ post N ρ h he hA hσ hH hpost
  unfold zb_hk at h
  rw [zb_nth_eq] at h
  split at h
  case h_1 => cases h
  case h_2 mi hmi =>
  split at h
  case h_1 => cases h
  case h_2 E hE =>
  obtain ⟨hc, h⟩ := zb_cond h
  have hc := an_and hc
  have hop : E.1 = 32 := Nat.eq_of_beq_eq_true hc.1
  obtain ⟨cs, hcs, h⟩ := zb_bnd_some h
  have hd : ∀ (x : List an_V) (M : Nat) (ρ' : Nat → Int) (rv : Option Value), zb_gl M ρ' x rv.toList → zb_gl M ρ' x.head?.toList rv.toList := fun x M ρ' rv hx => by
    cases x with
    | nil => exact hx
    | cons a l =>
      cases rv with
      | none => exact hx.elim
      | some y => exact ⟨hx.1, trivial⟩
  have hW := zb_body_ok (xs := xs) (post := post) (u := 0) (v := 0) hlen hLL hloc hsl (fun b As σ p q => rf_run_post _ _ _ b As σ p q) (rf_run_det _ _ _) hK (Nat.zero_le mi.2.1.2.2.1) (Nat.zero_le mi.2.1.2.2.2.1) F true (env, 0, zb_arg As ++ List.replicate mi.1.2.2.1 none, [], D) cs N ρ (lv_args 0 As') [] σ hcs he (fun i v hv => by
      obtain ⟨w, w1, w2⟩ := zb_arg_ok 0 i v hA (zb_get_pad hv)
      rw [Nat.zero_add] at w1
      exact ⟨w, w1, w2⟩) trivial hσ hH (fun e he2 M ρ' rv σ1 a1 a2 a3 a4 a5 a6 => by
      obtain ⟨a, ha, hb⟩ := an_all_ok h _ he2
      have ha : some [(e.1, e.2.2.2.1.head?, e.2.2.2.2)] = some a := ha
      cases ha
      exact hpost _ (hb _ List.mem_cons_self) M ρ' a4 a5 a1 rv σ1 (hd _ _ _ _ a2) a3 a6) (fun e he2 M ρ' L1 st1 σ1 a1 a2 a3 a4 a5 a6 a7 a8 => by
      obtain ⟨a, ha, hb⟩ := an_all_ok h _ he2
      have ha : (match e.2.2.2.1 with
        | i :: .inl (.ref r') :: st => bif Nat.beq r' r && zb_hkn e.1 i k m then zb_bnd (zb_body T wr sl ms K mi (fun _ => false) F true (e.1, E.2.2.2.2.2.1, e.2.2.1, .inr (0, (g : Int), 0) :: st, e.2.2.2.2)) zb_hkr else none
        | _ => none) = some a := ha
      have epc : e.2.1 = pc0 := Nat.eq_of_beq_eq_true a8
      split at ha
      case h_2 => cases ha
      case h_1 i r' st hst =>
      obtain ⟨h1, h2⟩ := zb_cond ha
      have h1 := an_and h1
      have er : r' = r := Nat.eq_of_beq_eq_true h1.1
      subst er
      obtain ⟨cs2, h3, h4⟩ := zb_bnd_some h2
      obtain ⟨h5, h6⟩ := zb_cond h4
      cases h6
      rw [hst] at a3
      obtain ⟨w1, st2, rfl, g1, g2⟩ := zb_gl_cons a3
      obtain ⟨w2, st3, rfl, g3, g4⟩ := zb_gl_cons g2
      have g3 : w2 = .ref r' := g3
      subst g3
      have hn := h1.2
      unfold zb_hkn at hn
      split at hn
      case h_2 => cases hn
      case h_1 q hq =>
      have hn := an_and hn
      obtain ⟨x, rfl, hx⟩ := zb_pi_ok a1 hq g1
      have ex := zb_smn_ok hn.1 hx
      obtain ⟨x1, x2, x3, x4⟩ := zb_ixs_ok hn.2 hx
      have hH1 := zb_H_next hH a5 a6 a7
      have ek : ρ' k = ρ0 k := hH1.2.1 k hk
      have eg : ρ' g = ρ0 g := hH1.2.1 g hg
      obtain ⟨f, f1, f2⟩ := hgh
      have f3 : σ1[r']? = some (.inl (0, m, .inl f)) := by rw [hH1.2.2 r' hwr]; exact f1
      have f4 := f2 (by omega) (by omega)
      obtain ⟨op, ea, eb, ec, ex2, nxt, sw⟩ := E
      have hop : op = 32 := hop
      subst hop
      have hstp := an_st_H (SA := rf_SA LL xs) (L' := L1) (σ' := σ1) (a := ea) (b := eb) (c := ec) (x := ex2) (nxt := nxt) (sw := sw) (r2 := st3) hr f3 x3
      have eidx : (ρ0 k).toNat = x.toNatClampNeg := by omega
      rw [epc]
      refine zb_W_step hE (by show ¬ (32 : Nat) = 46; decide) (by show ¬ (39 ≤ (32 : Nat) ∧ (32 : Nat) ≤ 41); decide) (by show ¬ 47 ≤ (32 : Nat); decide) hstp ?_
      refine zb_body_ok (xs := xs) (post := post) (u := 0) (v := 0) hlen hLL hloc hsl (fun b As σ p q => rf_run_post _ _ _ b As σ p q) (rf_run_det _ _ _) hK (Nat.zero_le _) (Nat.zero_le _) F true (e.1, nxt, e.2.2.1, .inr (0, (g : Int), 0) :: st, e.2.2.2.2) cs2 M ρ' L1 _ σ1 h3 a1 a2 ⟨⟨?_, _, rfl, ?_⟩, g4⟩ a4 hH1 (fun e2 he3 M2 ρ2 rv σ2 b1 b2 b3 b4 b5 b6 => ?_) (fun e2 he3 => ?_)
      · rw [Int.toNat_natCast]
        have := hH1.1
        omega
      · rw [Int.toNat_natCast, eg, ← f4, eidx, Int.add_zero]
      · exact hpost _ (hb _ (List.mem_map.mpr ⟨(true, e2), he3, rfl⟩)) M2 ρ2 (Nat.le_trans a5 b4) (zb_ag_trans a5 a6 b5) b1 rv σ2 (hd _ _ _ _ b2) b3 (fun x hx => (b6 x hx).trans (a7 x hx))
      · exact absurd (List.all_eq_true.mp h5 _ he3) Bool.false_ne_true)
  obtain ⟨n, hn⟩ := hW
  exact ⟨mi, hmi, by rw [zb_lgs_ok hA]; exact Nat.le_of_ble_eq_true hc.2, n, hn⟩
end
