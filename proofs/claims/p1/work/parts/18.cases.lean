/-! every first call, from the store behind both constructors -/
def an_parts (env : an_N) (k : Nat) : Int → List Int → List an_N
  | lo, [] => [env.set k (lo, an_hi32)]
  | lo, c :: r => env.set k (lo, c) :: an_parts env k (c + 1) r
theorem an_set_e {ρ : Nat → Int32} {env : an_N} {k : Nat} {lo hi : Int} (he : an_e ρ env) (h1 : lo ≤ (ρ k).toInt) (h2 : (ρ k).toInt ≤ hi) : an_e ρ (env.set k (lo, hi)) := by
  intro j q hj
  rw [List.getElem?_set] at hj
  by_cases hjk : k = j
  · subst hjk
    rw [if_pos rfl] at hj
    split at hj
    · cases hj; exact ⟨h1, h2⟩
    · cases hj
  · rw [if_neg hjk] at hj
    exact he j q hj
theorem an_parts_ok {ρ : Nat → Int32} {env : an_N} {k : Nat} (he : an_e ρ env) : ∀ (cs : List Int) (lo : Int), lo ≤ (ρ k).toInt → ∃ e, e ∈ an_parts env k lo cs ∧ an_e ρ e
  | [], lo, h => ⟨_, List.mem_cons_self, an_set_e he h (Int.le_of_lt_add_one (Int32.toInt_lt _))⟩
  | c :: r, lo, h => by
    by_cases hc : (ρ k).toInt ≤ c
    · exact ⟨_, List.mem_cons_self, an_set_e he h hc⟩
    · obtain ⟨e, h1, h2⟩ := an_parts_ok (k := k) he r (c + 1) (by omega)
      exact ⟨e, List.mem_cons_of_mem _ h1, h2⟩
def an_ce (e : an_N) (t : Nat) : an_C := (e, t, an_l0, [], an_sh0, 90, 3429)
set_option maxRecDepth 100000 in
theorem an_case_0 : an_fin 6 3000 12 3000 (an_ct0 200) = true := by decide +kernel
set_option maxRecDepth 100000 in
theorem an_case_1 : an_fin 6 3000 12 3000 (an_ct0 223) = true := by decide +kernel
set_option maxRecDepth 100000 in
theorem an_case_2 : an_fin 6 3000 12 3000 (an_ct0 256) = true := by decide +kernel
set_option maxRecDepth 100000 in
theorem an_case_3 : an_fin 6 3000 12 3000 (an_ct0 299) = true := by decide +kernel
set_option maxRecDepth 100000 in
theorem an_case_4 : an_fin 6 3000 12 3000 (an_ct0 342) = true := by decide +kernel
set_option maxRecDepth 100000 in
theorem an_case_6 : an_fin 6 3000 12 3000 (an_ct0 398) = true := by decide +kernel
set_option maxRecDepth 100000 in
theorem an_case_7 : an_fin 6 3000 12 3000 (an_ct0 421) = true := by decide +kernel
set_option maxRecDepth 100000 in
theorem an_case_8 : an_fin 6 3000 12 3000 (an_ct0 434) = true := by decide +kernel
set_option maxRecDepth 100000 in
theorem an_case_9 : an_fin 6 3000 12 3000 (an_ct0 457) = true := by decide +kernel
set_option maxRecDepth 100000 in
theorem an_case_10 : an_fin 6 3000 12 3000 (an_ct0 480) = true := by decide +kernel
set_option maxRecDepth 100000 in
theorem an_case_11 : an_fin 6 3000 12 3000 (an_ct0 513) = true := by decide +kernel
set_option maxRecDepth 100000 in
theorem an_case_12 : an_fin 6 3000 12 3000 (an_ct0 536) = true := by decide +kernel
set_option maxRecDepth 100000 in
theorem an_case_13 : an_fin 6 3000 12 3000 (an_ct0 559) = true := by decide +kernel
set_option maxRecDepth 100000 in
theorem an_case_14 : an_fin 6 3000 12 3000 (an_ct0 582) = true := by decide +kernel
set_option maxRecDepth 100000 in
theorem an_case_15 : an_fin 6 3000 12 3000 (an_ct0 605) = true := by decide +kernel
set_option maxRecDepth 100000 in
theorem an_case_16 : an_fin 6 3000 12 3000 (an_ct0 628) = true := by decide +kernel
set_option maxRecDepth 100000 in
theorem an_case_17 : an_fin 6 3000 12 3000 (an_ct0 651) = true := by decide +kernel
set_option maxRecDepth 100000 in
theorem an_case_18 : an_fin 6 3000 12 3000 (an_ct0 664) = true := by decide +kernel
set_option maxRecDepth 100000 in
theorem an_case_19 : an_fin 6 3000 12 3000 (an_ct0 677) = true := by decide +kernel
set_option maxRecDepth 100000 in
theorem an_case_20 : an_fin 6 3000 12 3000 (an_ct0 690) = true := by decide +kernel
set_option maxRecDepth 100000 in
theorem an_case_22 : an_fin 6 3000 12 3000 (an_ct0 766) = true := by decide +kernel
set_option maxRecDepth 100000 in
theorem an_case_23 : an_fin 6 3000 12 3000 (an_ct0 789) = true := by decide +kernel
set_option maxRecDepth 100000 in
theorem an_case_24 : an_fin 6 3000 12 3000 (an_ct0 812) = true := by decide +kernel
set_option maxRecDepth 100000 in
theorem an_case_25 : an_fin 6 3000 12 3000 (an_ct0 825) = true := by decide +kernel
set_option maxRecDepth 100000 in
theorem an_case_26 : an_fin 6 3000 12 3000 (an_ct0 838) = true := by decide +kernel
set_option maxRecDepth 100000 in
theorem an_case_27 : an_fin 6 3000 12 3000 (an_ct0 851) = true := by decide +kernel
set_option maxRecDepth 100000 in
theorem an_case_28 : an_fin 6 3000 12 3000 (an_ct0 864) = true := by decide +kernel
set_option maxRecDepth 100000 in
theorem an_case_29 : an_fin 6 3000 12 3000 (an_ct0 887) = true := by decide +kernel
set_option maxRecDepth 100000 in
theorem an_case_30 : an_fin 6 3000 12 3000 (an_ct0 930) = true := by decide +kernel
set_option maxRecDepth 100000 in
theorem an_case_31 : an_fin 6 3000 12 3000 (an_ct0 953) = true := by decide +kernel
set_option maxRecDepth 100000 in
theorem an_case_33 : an_fin 6 3000 12 3000 (an_ct0 1029) = true := by decide +kernel
set_option maxRecDepth 100000 in
theorem an_case_34 : an_fin 6 3000 12 3000 (an_ct0 1102) = true := by decide +kernel
set_option maxRecDepth 100000 in
theorem an_case_35 : an_fin 6 3000 12 3000 (an_ct0 1136) = true := by decide +kernel
set_option maxRecDepth 100000 in
theorem an_case_36 : an_fin 6 3000 12 3000 (an_ct0 1199) = true := by decide +kernel
set_option maxRecDepth 100000 in
theorem an_case_37 : an_fin 6 3000 12 3000 (an_ct0 1232) = true := by decide +kernel
set_option maxRecDepth 100000 in
theorem an_case_d : an_fin 6 3000 12 3000 (an_ct0 1255) = true := by decide +kernel
set_option maxRecDepth 100000 in
theorem an_case_5_0 : an_fin 6 3000 12 3000 (an_ce (an_env0.set 1 (an_lo32, (-1))) 375) = true := by decide +kernel
set_option maxRecDepth 100000 in
theorem an_case_5_1 : an_fin 6 3000 12 3000 (an_ce (an_env0.set 1 (0, an_hi32)) 375) = true := by decide +kernel
