/-! the tests of the law's cases (wip/e3/mk3.py) -/
def zb_lc (t : Nat) : zb_C := (zb_LC.1, t, zb_LC.2.1, [], zb_LC.2.2.2.1)
noncomputable def zb_lend (e : Bool × zb_C) : Bool := bif e.1 then false else Nat.beq e.2.2.1 18 && ((Nat.beq e.2.2.2.2.2.length 90 && (zb_rend e.2.1 e.2.2.2.2.2 && zc_csz e.2.1 e.2.2.2.2.2)) && (match zb_fitA 1 e.2 zb_LH with
  | some ds => (match zb_nth ds 6 with
    | some (.inr (0, k, c)) => Nat.beq k.toNat 7 && zb_ieq c 6
    | _ => false)
  | none => false))
noncomputable def zb_ctst (t : Nat) (c : zb_N × zb_D) : Bool := match zb_body zb_tL (zb_has zb_lw) (true, zb_lsl t) rf_ms (zb_run zb_tL (zb_has zb_lw) (true, zb_lsl t) rf_ms zb_lS 3000 8) rf_law (fun k => Nat.beq k 18) 3000 true (c.1, t, zb_LC.2.1, [], c.2) with
  | some cs => cs.all zb_lend
  | none => false
noncomputable def zb_ltst (t : Nat) : Bool := zb_ctst t (zb_LC.1, zb_LC.2.2.2.1)
set_option maxRecDepth 100000 in
theorem zb_l200 : zb_ltst 200 = true := by decide +kernel
set_option maxRecDepth 100000 in
theorem zb_l223 : zb_ltst 223 = true := by decide +kernel
set_option maxRecDepth 100000 in
theorem zb_l299 : zb_ltst 299 = true := by decide +kernel
set_option maxRecDepth 100000 in
theorem zb_l342 : zb_ltst 342 = true := by decide +kernel
set_option maxRecDepth 100000 in
theorem zb_l375 : zb_ltst 375 = true := by decide +kernel
set_option maxRecDepth 100000 in
theorem zb_l398 : zb_ltst 398 = true := by decide +kernel
set_option maxRecDepth 100000 in
theorem zb_l421 : zb_ltst 421 = true := by decide +kernel
set_option maxRecDepth 100000 in
theorem zb_l434 : zb_ltst 434 = true := by decide +kernel
set_option maxRecDepth 100000 in
theorem zb_l457 : zb_ltst 457 = true := by decide +kernel
set_option maxRecDepth 100000 in
theorem zb_l480 : zb_ltst 480 = true := by decide +kernel
set_option maxRecDepth 100000 in
theorem zb_l513 : zb_ltst 513 = true := by decide +kernel
set_option maxRecDepth 100000 in
theorem zb_l536 : zb_ltst 536 = true := by decide +kernel
set_option maxRecDepth 100000 in
theorem zb_l559 : zb_ltst 559 = true := by decide +kernel
set_option maxRecDepth 100000 in
theorem zb_l582 : zb_ltst 582 = true := by decide +kernel
set_option maxRecDepth 100000 in
theorem zb_l605 : zb_ltst 605 = true := by decide +kernel
set_option maxRecDepth 100000 in
theorem zb_l628 : zb_ltst 628 = true := by decide +kernel
set_option maxRecDepth 100000 in
theorem zb_l651 : zb_ltst 651 = true := by decide +kernel
set_option maxRecDepth 100000 in
theorem zb_l664 : zb_ltst 664 = true := by decide +kernel
set_option maxRecDepth 100000 in
theorem zb_l677 : zb_ltst 677 = true := by decide +kernel
set_option maxRecDepth 100000 in
theorem zb_l690 : zb_ltst 690 = true := by decide +kernel
set_option maxRecDepth 100000 in
theorem zb_l723 : zb_ltst 723 = true := by decide +kernel
set_option maxRecDepth 100000 in
theorem zb_l766 : zb_ltst 766 = true := by decide +kernel
set_option maxRecDepth 100000 in
theorem zb_l789 : zb_ltst 789 = true := by decide +kernel
set_option maxRecDepth 100000 in
theorem zb_l812 : zb_ltst 812 = true := by decide +kernel
set_option maxRecDepth 100000 in
theorem zb_l838 : zb_ltst 838 = true := by decide +kernel
set_option maxRecDepth 100000 in
theorem zb_l851 : zb_ltst 851 = true := by decide +kernel
set_option maxRecDepth 100000 in
theorem zb_l864 : zb_ltst 864 = true := by decide +kernel
set_option maxRecDepth 100000 in
theorem zb_l887 : zb_ltst 887 = true := by decide +kernel
set_option maxRecDepth 100000 in
theorem zb_l930 : zb_ltst 930 = true := by decide +kernel
set_option maxRecDepth 100000 in
theorem zb_l953 : zb_ltst 953 = true := by decide +kernel
set_option maxRecDepth 100000 in
theorem zb_l1198 : zb_ltst 1198 = true := by decide +kernel
set_option maxRecDepth 100000 in
theorem zb_l1231 : zb_ltst 1231 = true := by decide +kernel
set_option maxRecDepth 100000 in
theorem zb_l1254 : zb_ltst 1254 = true := by decide +kernel
noncomputable def zb_kc (v : Nat) : zb_N × zb_D := ((zb_upd zb_LC.1.1 48 (Int.ofNat v, Int.ofNat v), zb_LC.1.2), zb_LC.2.2.2.1)
set_option maxRecDepth 100000 in
theorem zb_k0 : zb_ctst 825 (zb_kc 0) = true := by decide +kernel
set_option maxRecDepth 100000 in
theorem zb_k1 : zb_ctst 825 (zb_kc 1) = true := by decide +kernel
set_option maxRecDepth 100000 in
theorem zb_k2 : zb_ctst 825 (zb_kc 2) = true := by decide +kernel
set_option maxRecDepth 100000 in
theorem zb_k3 : zb_ctst 825 (zb_kc 3) = true := by decide +kernel
set_option maxRecDepth 100000 in
theorem zb_k4 : zb_ctst 825 (zb_kc 4) = true := by decide +kernel
set_option maxRecDepth 100000 in
theorem zb_k5 : zb_ctst 825 (zb_kc 5) = true := by decide +kernel
set_option maxRecDepth 100000 in
theorem zb_k6 : zb_ctst 825 (zb_kc 6) = true := by decide +kernel
set_option maxRecDepth 100000 in
theorem zb_k7 : zb_ctst 825 (zb_kc 7) = true := by decide +kernel
set_option maxRecDepth 100000 in
theorem zb_k8 : zb_ctst 825 (zb_kc 8) = true := by decide +kernel
theorem zb_kall : ∀ v, v < 9 → zb_ctst 825 (zb_kc v) = true := by
  intro v hv
  have h9 : v = 0 ∨ v = 1 ∨ v = 2 ∨ v = 3 ∨ v = 4 ∨ v = 5 ∨ v = 6 ∨ v = 7 ∨ v = 8 := by omega
  rcases h9 with rfl | rfl | rfl | rfl | rfl | rfl | rfl | rfl | rfl
  · exact zb_k0
  · exact zb_k1
  · exact zb_k2
  · exact zb_k3
  · exact zb_k4
  · exact zb_k5
  · exact zb_k6
  · exact zb_k7
  · exact zb_k8
def zb_lsw : List (Int × Nat) := [(0, 200), (1, 223), (2, 256), (3, 299), (4, 342), (5, 375), (6, 398), (7, 421), (8, 434), (9, 457), (10, 480), (11, 513), (12, 536), (13, 559), (14, 582), (15, 605), (16, 628), (17, 651), (18, 664), (19, 677), (20, 690), (21, 723), (22, 766), (23, 789), (24, 812), (25, 825), (26, 838), (27, 851), (28, 864), (29, 887), (30, 930), (31, 953), (32, 986), (33, 1029), (34, 1102), (35, 1135), (36, 1198), (37, 1231)]
def zb_lts : List Nat := [200, 223, 256, 299, 342, 375, 398, 421, 434, 457, 480, 513, 536, 559, 582, 605, 628, 651, 664, 677, 690, 723, 766, 789, 812, 825, 838, 851, 864, 887, 930, 953, 986, 1029, 1102, 1135, 1198, 1231, 1254]
theorem zb_lall : ∀ t, t ∈ zb_lts → t = 256 ∨ t = 986 ∨ t = 1029 ∨ t = 1102 ∨ t = 1135 ∨ t = 825 ∨ zb_ltst t = true := List.forall_mem_cons.mpr ⟨Or.inr (Or.inr (Or.inr (Or.inr (Or.inr (Or.inr (zb_l200)))))), List.forall_mem_cons.mpr ⟨Or.inr (Or.inr (Or.inr (Or.inr (Or.inr (Or.inr (zb_l223)))))), List.forall_mem_cons.mpr ⟨Or.inl (rfl), List.forall_mem_cons.mpr ⟨Or.inr (Or.inr (Or.inr (Or.inr (Or.inr (Or.inr (zb_l299)))))), List.forall_mem_cons.mpr ⟨Or.inr (Or.inr (Or.inr (Or.inr (Or.inr (Or.inr (zb_l342)))))), List.forall_mem_cons.mpr ⟨Or.inr (Or.inr (Or.inr (Or.inr (Or.inr (Or.inr (zb_l375)))))), List.forall_mem_cons.mpr ⟨Or.inr (Or.inr (Or.inr (Or.inr (Or.inr (Or.inr (zb_l398)))))), List.forall_mem_cons.mpr ⟨Or.inr (Or.inr (Or.inr (Or.inr (Or.inr (Or.inr (zb_l421)))))), List.forall_mem_cons.mpr ⟨Or.inr (Or.inr (Or.inr (Or.inr (Or.inr (Or.inr (zb_l434)))))), List.forall_mem_cons.mpr ⟨Or.inr (Or.inr (Or.inr (Or.inr (Or.inr (Or.inr (zb_l457)))))), List.forall_mem_cons.mpr ⟨Or.inr (Or.inr (Or.inr (Or.inr (Or.inr (Or.inr (zb_l480)))))), List.forall_mem_cons.mpr ⟨Or.inr (Or.inr (Or.inr (Or.inr (Or.inr (Or.inr (zb_l513)))))), List.forall_mem_cons.mpr ⟨Or.inr (Or.inr (Or.inr (Or.inr (Or.inr (Or.inr (zb_l536)))))), List.forall_mem_cons.mpr ⟨Or.inr (Or.inr (Or.inr (Or.inr (Or.inr (Or.inr (zb_l559)))))), List.forall_mem_cons.mpr ⟨Or.inr (Or.inr (Or.inr (Or.inr (Or.inr (Or.inr (zb_l582)))))), List.forall_mem_cons.mpr ⟨Or.inr (Or.inr (Or.inr (Or.inr (Or.inr (Or.inr (zb_l605)))))), List.forall_mem_cons.mpr ⟨Or.inr (Or.inr (Or.inr (Or.inr (Or.inr (Or.inr (zb_l628)))))), List.forall_mem_cons.mpr ⟨Or.inr (Or.inr (Or.inr (Or.inr (Or.inr (Or.inr (zb_l651)))))), List.forall_mem_cons.mpr ⟨Or.inr (Or.inr (Or.inr (Or.inr (Or.inr (Or.inr (zb_l664)))))), List.forall_mem_cons.mpr ⟨Or.inr (Or.inr (Or.inr (Or.inr (Or.inr (Or.inr (zb_l677)))))), List.forall_mem_cons.mpr ⟨Or.inr (Or.inr (Or.inr (Or.inr (Or.inr (Or.inr (zb_l690)))))), List.forall_mem_cons.mpr ⟨Or.inr (Or.inr (Or.inr (Or.inr (Or.inr (Or.inr (zb_l723)))))), List.forall_mem_cons.mpr ⟨Or.inr (Or.inr (Or.inr (Or.inr (Or.inr (Or.inr (zb_l766)))))), List.forall_mem_cons.mpr ⟨Or.inr (Or.inr (Or.inr (Or.inr (Or.inr (Or.inr (zb_l789)))))), List.forall_mem_cons.mpr ⟨Or.inr (Or.inr (Or.inr (Or.inr (Or.inr (Or.inr (zb_l812)))))), List.forall_mem_cons.mpr ⟨Or.inr (Or.inr (Or.inr (Or.inr (Or.inr (Or.inl (rfl)))))), List.forall_mem_cons.mpr ⟨Or.inr (Or.inr (Or.inr (Or.inr (Or.inr (Or.inr (zb_l838)))))), List.forall_mem_cons.mpr ⟨Or.inr (Or.inr (Or.inr (Or.inr (Or.inr (Or.inr (zb_l851)))))), List.forall_mem_cons.mpr ⟨Or.inr (Or.inr (Or.inr (Or.inr (Or.inr (Or.inr (zb_l864)))))), List.forall_mem_cons.mpr ⟨Or.inr (Or.inr (Or.inr (Or.inr (Or.inr (Or.inr (zb_l887)))))), List.forall_mem_cons.mpr ⟨Or.inr (Or.inr (Or.inr (Or.inr (Or.inr (Or.inr (zb_l930)))))), List.forall_mem_cons.mpr ⟨Or.inr (Or.inr (Or.inr (Or.inr (Or.inr (Or.inr (zb_l953)))))), List.forall_mem_cons.mpr ⟨Or.inr (Or.inl (rfl)), List.forall_mem_cons.mpr ⟨Or.inr (Or.inr (Or.inl (rfl))), List.forall_mem_cons.mpr ⟨Or.inr (Or.inr (Or.inr (Or.inl (rfl)))), List.forall_mem_cons.mpr ⟨Or.inr (Or.inr (Or.inr (Or.inr (Or.inl (rfl))))), List.forall_mem_cons.mpr ⟨Or.inr (Or.inr (Or.inr (Or.inr (Or.inr (Or.inr (zb_l1198)))))), List.forall_mem_cons.mpr ⟨Or.inr (Or.inr (Or.inr (Or.inr (Or.inr (Or.inr (zb_l1231)))))), List.forall_mem_cons.mpr ⟨Or.inr (Or.inr (Or.inr (Or.inr (Or.inr (Or.inr (zb_l1254)))))), List.forall_mem_nil _⟩⟩⟩⟩⟩⟩⟩⟩⟩⟩⟩⟩⟩⟩⟩⟩⟩⟩⟩⟩⟩⟩⟩⟩⟩⟩⟩⟩⟩⟩⟩⟩⟩⟩⟩⟩⟩⟩⟩
