/-! runs of methods in boxes; the law -/
section
variable {ρ : Nat → Int32} {LL LC : Nat} {xs : Nat → Int32}
theorem an_arg_ok : ∀ {As : List an_V} {As' : List Value} (i : Nat), an_gl ρ As As' → an_gL ρ (an_arg i As) (lv_args i As')
  | [], [], _, _ => trivial
  | _ :: _, [], _, h => h.elim
  | [], _ :: _, _, h => h.elim
  | a :: as, v :: vs, i, h => by
    have e1 : i + an_ct a = (if v.category = 2 then i + 2 else i + 1) := by
      rw [an_g_ct h.1]
      rcases lv_cat v with hc | hc
      · rw [if_neg (by omega), hc]
      · rw [if_pos hc, hc]
    have ih := an_arg_ok (i + an_ct a) h.2
    refine ⟨⟨rfl, h.1⟩, ?_⟩
    rw [← e1]
    exact ih
theorem an_lgs_ok : ∀ {As : List an_V} {As' : List Value}, an_gl ρ As As' → (lg_sl As').length = an_lgs As
  | [], [], _ => rfl
  | _ :: _, [], h => h.elim
  | [], _ :: _, h => h.elim
  | a :: as, v :: vs, h => by
    have ih := an_lgs_ok h.2
    unfold lg_sl an_lgs at *
    rw [List.flatMap_cons, List.length_append, ih, List.map_cons, List.sum_cons, an_g_ct h.1]
    rcases lv_cat v with hc | hc
    · rw [if_neg (by omega), hc]; rfl
    · rw [if_pos hc, hc]; rfl
theorem an_run_ok {ms : List rf_M} {F : Nat} (hρ : ∀ k, k < LL → ρ k = xs k) : ∀ d : Nat, an_cov ρ (an_run LL ms F d) (rf_run (rf_SA LC xs) ms d) := by
  intro d
  induction d with
  | zero => intro b env As σ rs As' σ' post h; cases h
  | succ d ih =>
    intro b env As σ rs As' σ' post h he hA hσ hpost
    unfold an_run at h
    cases hmi : ms[b]? with
    | none => rw [hmi] at h; cases h
    | some mi =>
    rw [hmi] at h
    dsimp only at h
    rw [cond_eq_ite] at h
    split at h
    case isFalse => cases h
    case isTrue hc =>
    have h1 := Nat.le_of_ble_eq_true (an_and hc).1
    cases hb : an_body LL ms (an_run LL ms F d) mi (fun _ => false) F (env, 0, an_arg 0 As, [], σ, 0, 0) with
    | none => rw [hb] at h; cases h
    | some cs =>
    rw [hb] at h
    dsimp only at h
    rw [cond_eq_ite] at h
    split at h
    case isFalse => cases h
    case isTrue hall =>
    cases h
    refine ⟨mi, hmi, by rw [an_lgs_ok hA]; exact h1, F, ?_⟩
    refine an_body_ok (m := 0) (post := post) hρ (fun b As σ p q => rf_run_post _ _ d b As σ p q) ih F _ cs _ _ σ' hb ⟨he, an_arg_ok 0 hA, trivial, hσ⟩ (fun e he2 rv σ1 hr => ?_) (fun e he2 => ?_)
    · obtain ⟨r1, r2, r3⟩ := hr
      refine hpost (e.1, e.2.2.2.1.head?, e.2.2.2.2.1) (List.mem_map.mpr ⟨(true, e), he2, rfl⟩) r1 rv σ1 ?_ r2
      split at r3
      case h_1 e1 => rw [e1]; exact trivial
      case h_2 a v e1 => rw [e1]; exact ⟨r3, trivial⟩
      case h_3 => exact r3.elim
    · have := List.all_eq_true.mp hall _ he2
      cases this
end
/-- where the law begins: six inputs of which nothing is known -/
def an_env0 : an_N := [(an_lo32, an_hi32), (an_lo32, an_hi32), (an_lo32, an_hi32), (an_lo32, an_hi32), (an_lo32, an_hi32), (an_lo32, an_hi32)]
def an_c0 : an_C := (an_env0, 0, [(0, .inl (.ref 1000002))], [], [], 0, 0)
theorem an_env0_ok (xs : Nat → Int32) : an_e xs an_env0 := by
  intro k q hk
  have : q = (an_lo32, an_hi32) := by
    have := List.mem_of_getElem? hk
    simp [an_env0] at this
    exact this
  rw [this]
  exact ⟨Int32.le_toInt _, Int.le_of_lt_add_one (Int32.toInt_lt _)⟩
theorem an_c0_ok (xs : Nat → Int32) : an_gc xs an_c0 (lv_args 0 [.ref 1000002]) [] [] := ⟨an_env0_ok xs, ⟨⟨rfl, rfl⟩, trivial⟩, trivial, trivial⟩
