/-! the law: a turn begins so (its head, its cases); the tests of its cases, decided by the kernel (wip/e2/mklaw.py) -/
def zb_LH : zb_A := ((List.append [(.ofNat 0, .ofNat 3072), (.negSucc 2147483647, .ofNat 2147483647), (.negSucc 2147483647, .ofNat 2147483647), (.negSucc 2147483647, .ofNat 2147483647), (.negSucc 2147483647, .ofNat 2147483647), (.negSucc 2147483647, .ofNat 2147483647), (.negSucc 2147483647, .ofNat 2147483647), (.ofNat 0, .ofNat 3072)] zb_gb, [(0, 29, 28, .ofNat 0), (0, 35, 36, .ofNat 0), (0, 49, 31, .ofNat 0), (3, 31, 54, .ofNat 0), (3, 49, 61, .ofNat 0)]), [some (.inl (.ref 1000002)), some (.inl (.ref 0)), some (.inl (.ref 63)), some (.inr (0, .ofNat 7, .ofNat 0))], [], [.inr (0, .ofNat 8, .ofNat 0), .inr (0, .ofNat 9, .ofNat 0), .inr (0, .ofNat 10, .ofNat 0), .inr (0, .ofNat 11, .ofNat 0), .inr (0, .ofNat 12, .ofNat 0), .inr (0, .ofNat 13, .ofNat 0), .inr (0, .ofNat 14, .ofNat 0), .inr (0, .ofNat 15, .ofNat 0), .inr (0, .ofNat 16, .ofNat 0), .inr (0, .ofNat 17, .ofNat 0), .inr (0, .ofNat 18, .ofNat 0), .inr (0, .ofNat 19, .ofNat 0), .inr (0, .ofNat 20, .ofNat 0), .inr (0, .ofNat 21, .ofNat 0), .inr (0, .ofNat 22, .ofNat 0), .inr (0, .ofNat 23, .ofNat 0), .inr (0, .ofNat 24, .ofNat 0), .inr (0, .ofNat 25, .ofNat 0), .inr (0, .ofNat 26, .ofNat 0), .inr (0, .ofNat 27, .ofNat 0), .inr (0, .ofNat 28, .ofNat 0), .inr (0, .ofNat 29, .ofNat 0), .inr (0, .ofNat 30, .ofNat 0), .inr (0, .ofNat 31, .ofNat 0), .inr (0, .ofNat 12, .ofNat 0), .inr (0, .ofNat 33, .ofNat 0), .inr (0, .ofNat 34, .ofNat 0), .inr (0, .ofNat 35, .ofNat 0), .inr (0, .ofNat 36, .ofNat 0), .inr (0, .ofNat 37, .ofNat 0), .inr (0, .ofNat 38, .ofNat 0), .inr (0, .ofNat 39, .ofNat 0), .inr (0, .ofNat 40, .ofNat 0), .inr (0, .ofNat 41, .ofNat 0), .inr (0, .ofNat 42, .ofNat 0), .inr (0, .ofNat 43, .ofNat 0), .inr (0, .ofNat 44, .ofNat 0), .inr (0, .ofNat 45, .ofNat 0), .inr (0, .ofNat 46, .ofNat 0), .inr (0, .ofNat 47, .ofNat 0), .inr (0, .ofNat 48, .ofNat 0), .inr (0, .ofNat 49, .ofNat 0), .inr (0, .ofNat 50, .ofNat 0), .inr (0, .ofNat 51, .ofNat 0), .inr (0, .ofNat 52, .ofNat 0), .inr (0, .ofNat 53, .ofNat 0), .inr (0, .ofNat 54, .ofNat 0), .inr (0, .ofNat 55, .ofNat 0), .inr (0, .ofNat 56, .ofNat 0), .inr (0, .ofNat 57, .ofNat 0), .inr (0, .ofNat 58, .ofNat 0), .inr (0, .ofNat 59, .ofNat 0), .inr (0, .ofNat 60, .ofNat 0), .inr (0, .ofNat 61, .ofNat 0), .inr (0, .ofNat 62, .ofNat 0), .inr (0, .ofNat 63, .ofNat 0), .inr (0, .ofNat 64, .ofNat 0), .inr (0, .ofNat 65, .ofNat 0), .inr (0, .ofNat 66, .ofNat 0), .inr (0, .ofNat 67, .ofNat 0), .inr (0, .ofNat 68, .ofNat 0), .inr (0, .ofNat 69, .ofNat 0), .inr (0, .ofNat 70, .ofNat 0), .inr (0, .ofNat 71, .ofNat 0), .inr (0, .ofNat 72, .ofNat 0), .inr (0, .ofNat 73, .ofNat 0)], List.append [(0, 3), (0, 3), (0, 3), (0, 3), (0, 3), (0, 3), (0, 3)] zb_gs)
def zb_LC : zb_A := ((List.append [(.ofNat 0, .ofNat 3072), (.negSucc 2147483647, .ofNat 2147483647), (.negSucc 2147483647, .ofNat 2147483647), (.negSucc 2147483647, .ofNat 2147483647), (.negSucc 2147483647, .ofNat 2147483647), (.negSucc 2147483647, .ofNat 2147483647), (.negSucc 2147483647, .ofNat 2147483647), (.ofNat 0, .ofNat 3066)] zb_gb, [(0, 29, 28, .ofNat 0), (0, 35, 36, .ofNat 0), (0, 49, 31, .ofNat 0), (3, 31, 54, .ofNat 0), (3, 49, 61, .ofNat 0)]), [some (.inl (.ref 1000002)), some (.inl (.ref 0)), some (.inl (.ref 63)), some (.inr (0, .ofNat 7, .ofNat 0))], [], [.inr (0, .ofNat 8, .ofNat 0), .inr (0, .ofNat 9, .ofNat 0), .inr (0, .ofNat 10, .ofNat 0), .inr (0, .ofNat 11, .ofNat 0), .inr (0, .ofNat 12, .ofNat 0), .inr (0, .ofNat 13, .ofNat 0), .inr (0, .ofNat 14, .ofNat 0), .inr (0, .ofNat 15, .ofNat 0), .inr (0, .ofNat 16, .ofNat 0), .inr (0, .ofNat 17, .ofNat 0), .inr (0, .ofNat 18, .ofNat 0), .inr (0, .ofNat 19, .ofNat 0), .inr (0, .ofNat 20, .ofNat 0), .inr (0, .ofNat 21, .ofNat 0), .inr (0, .ofNat 22, .ofNat 0), .inr (0, .ofNat 23, .ofNat 0), .inr (0, .ofNat 24, .ofNat 0), .inr (0, .ofNat 25, .ofNat 0), .inr (0, .ofNat 26, .ofNat 0), .inr (0, .ofNat 27, .ofNat 0), .inr (0, .ofNat 28, .ofNat 0), .inr (0, .ofNat 29, .ofNat 0), .inr (0, .ofNat 30, .ofNat 0), .inr (0, .ofNat 31, .ofNat 0), .inr (0, .ofNat 12, .ofNat 0), .inr (0, .ofNat 33, .ofNat 0), .inr (0, .ofNat 34, .ofNat 0), .inr (0, .ofNat 35, .ofNat 0), .inr (0, .ofNat 36, .ofNat 0), .inr (0, .ofNat 37, .ofNat 0), .inr (0, .ofNat 38, .ofNat 0), .inr (0, .ofNat 39, .ofNat 0), .inr (0, .ofNat 40, .ofNat 0), .inr (0, .ofNat 41, .ofNat 0), .inr (0, .ofNat 42, .ofNat 0), .inr (0, .ofNat 43, .ofNat 0), .inr (0, .ofNat 44, .ofNat 0), .inr (0, .ofNat 45, .ofNat 0), .inr (0, .ofNat 46, .ofNat 0), .inr (0, .ofNat 47, .ofNat 0), .inr (0, .ofNat 48, .ofNat 0), .inr (0, .ofNat 49, .ofNat 0), .inr (0, .ofNat 50, .ofNat 0), .inr (0, .ofNat 51, .ofNat 0), .inr (0, .ofNat 52, .ofNat 0), .inr (0, .ofNat 53, .ofNat 0), .inr (0, .ofNat 54, .ofNat 0), .inr (0, .ofNat 55, .ofNat 0), .inr (0, .ofNat 56, .ofNat 0), .inr (0, .ofNat 57, .ofNat 0), .inr (0, .ofNat 58, .ofNat 0), .inr (0, .ofNat 59, .ofNat 0), .inr (0, .ofNat 60, .ofNat 0), .inr (0, .ofNat 61, .ofNat 0), .inr (0, .ofNat 62, .ofNat 0), .inr (0, .ofNat 63, .ofNat 0), .inr (0, .ofNat 64, .ofNat 0), .inr (0, .ofNat 65, .ofNat 0), .inr (0, .ofNat 66, .ofNat 0), .inr (0, .ofNat 67, .ofNat 0), .inr (0, .ofNat 68, .ofNat 0), .inr (0, .ofNat 69, .ofNat 0), .inr (0, .ofNat 70, .ofNat 0), .inr (0, .ofNat 71, .ofNat 0), .inr (0, .ofNat 72, .ofNat 0), .inr (0, .ofNat 73, .ofNat 0)], List.append [(0, 3), (0, 3), (0, 3), (0, 3), (0, 3), (0, 3), (0, 3)] zb_gs)
def zb_lw : List Nat := [0, 1, 2, 3, 4, 5, 6, 7, 8, 9, 10, 11, 13, 14, 15, 16, 17, 18, 19, 20, 21, 22, 23, 24, 25, 26, 27, 28, 29, 30, 31, 32, 33, 34, 35, 36, 37, 38, 39, 40, 41, 42, 43, 44, 45, 46, 47, 48, 49, 50, 51, 52, 53, 54, 55, 56, 57, 58, 59, 60, 61, 62, 63, 64, 65, 66, 67, 68, 69, 71, 72, 73, 74, 75, 76, 77, 78, 79, 80, 81, 82, 83, 84, 85, 86, 87, 88, 89]
noncomputable def zb_SPl : Nat → List zb_Sp := fun b => bif zb_has [102, 158] b then [] else zb_SP b
noncomputable def zq_lS (wl : List Nat) : zb_St := zb_S rf_ms zb_SPl zb_nX 74 wl (.ofNat 0, 0, .ofNat 909) 8
noncomputable def zq_K (wl : List Nat) : zb_Kt := zb_run zb_tT (zb_has wl) (true, []) rf_ms (zq_lS wl) 3000 8
def zb_lc (t : Nat) : zb_C := (zb_LC.1, t, zb_LC.2.1, [], zb_LC.2.2.2.1)
/-- of the number that is the tape's length: nothing (0), it is what it was (1), it is 0 (2) -/
noncomputable def zq_ex (z : Nat) (env : zb_N) (ds : List an_V) : Bool := match z with
  | 0 => true
  | 1 => (match zb_nth ds 11 with
    | some (.inr (0, k, c)) => Nat.beq k.toNat 12 && zb_ieq c 0
    | _ => false)
  | _ => (match zb_nth ds 11 with
    | some d => (match zb_pi env d with
      | some q => zb_le q.2.2 0
      | none => false)
    | none => false)
noncomputable def zq_end (z : Nat) (e : Bool × zb_C) : Bool := bif e.1 then false else Nat.beq e.2.2.1 18 && (match zb_fitA 1 e.2 zb_LH with
  | some ds => (match zb_nth ds 6 with
    | some (.inr (0, k, c)) => Nat.beq k.toNat 7 && zb_ieq c 6
    | _ => false) && zq_ex z e.2.1 ds
  | none => false)
noncomputable def zq_tst (z : Nat) (wl : List Nat) (c : zb_C) : Bool := match zb_body zb_tT (zb_has wl) (true, []) rf_ms (zq_K wl) rf_law (fun k => Nat.beq k 18) 3000 true c with
  | some cs => cs.all (zq_end z)
  | none => false
noncomputable def zb_ltst (t : Nat) : Bool := zq_tst 1 zb_lw (zb_lc t)
/-- two calls, one behind the other, then on from 1254 -/
noncomputable def zq_dbl (z b1 b2 : Nat) (w1 w2 : List Nat) (a1 a2 : List an_V) : Bool := match zq_K w1 b1 zb_LC.1 a1 zb_LC.2.2.2.1 with
  | some rs1 => zb_every (fun r1 => match zq_K w2 b2 r1.1 a2 r1.2.2 with
    | some rs2 => zb_every (fun r2 => zq_tst z [] (r2.1, 1254, zb_LC.2.1, [], r2.2.2)) rs2
    | none => false) rs1
  | none => false
def zq_w1 : List Nat := [0, 1, 2, 3, 4, 5, 6, 7, 8, 9, 10, 11, 12, 13, 14, 15, 16, 17, 18, 19, 20, 21, 22, 23, 24, 25, 26, 27, 28, 29, 30, 31, 32, 33, 34, 35, 36, 37, 38, 39, 40, 41, 42, 43, 44, 45, 46, 47, 48, 49, 50, 51, 52, 53, 54, 55, 56, 57, 58, 59, 60, 61, 62]
def zq_w2 : List Nat := [63, 64, 65, 66, 67, 68, 69, 70, 71, 72, 73, 74, 75, 76, 77, 78, 79, 80, 81, 82, 83, 84, 85, 86, 87, 88, 89]
set_option maxRecDepth 100000 in
theorem zq_t6 : zq_dbl 0 102 158 [11, 12] [63, 70] [.inl (.ref 0), .inr (0, .ofNat 2, .ofNat 0)] [.inl (.ref 63), .inr (0, .ofNat 2, .ofNat 0)] = true := by decide +kernel
set_option maxRecDepth 100000 in
theorem zq_t7 : zq_dbl 2 103 170 zq_w1 zq_w2 [.inl (.ref 0)] [.inl (.ref 63)] = true := by decide +kernel
set_option maxRecDepth 100000 in
theorem zb_l200 : zb_ltst 200 = true := by decide +kernel
set_option maxRecDepth 100000 in
theorem zb_l223 : zb_ltst 223 = true := by decide +kernel
set_option maxRecDepth 100000 in
theorem zb_l256 : zb_ltst 256 = true := by decide +kernel
set_option maxRecDepth 100000 in
theorem zb_l299 : zb_ltst 299 = true := by decide +kernel
set_option maxRecDepth 100000 in
theorem zb_l342 : zb_ltst 342 = true := by decide +kernel
set_option maxRecDepth 100000 in
theorem zb_l375 : zb_ltst 375 = true := by decide +kernel
set_option maxRecDepth 100000 in
theorem zb_l434 : zb_ltst 434 = true := by decide +kernel
set_option maxRecDepth 100000 in
theorem zb_l457 : zb_ltst 457 = true := by decide +kernel
set_option maxRecDepth 100000 in
theorem zb_l480 : zb_ltst 480 = true := by decide +kernel
set_option maxRecDepth 100000 in
theorem zb_l513 : zb_ltst 513 = true := by decide +kernel
set_option maxRecDepth 100000 in
theorem zb_l536 : zb_ltst 536 = true := by decide +kernel
set_option maxRecDepth 100000 in
theorem zb_l559 : zb_ltst 559 = true := by decide +kernel
set_option maxRecDepth 100000 in
theorem zb_l582 : zb_ltst 582 = true := by decide +kernel
set_option maxRecDepth 100000 in
theorem zb_l605 : zb_ltst 605 = true := by decide +kernel
set_option maxRecDepth 100000 in
theorem zb_l628 : zb_ltst 628 = true := by decide +kernel
set_option maxRecDepth 100000 in
theorem zb_l651 : zb_ltst 651 = true := by decide +kernel
set_option maxRecDepth 100000 in
theorem zb_l664 : zb_ltst 664 = true := by decide +kernel
set_option maxRecDepth 100000 in
theorem zb_l677 : zb_ltst 677 = true := by decide +kernel
set_option maxRecDepth 100000 in
theorem zb_l690 : zb_ltst 690 = true := by decide +kernel
set_option maxRecDepth 100000 in
theorem zb_l723 : zb_ltst 723 = true := by decide +kernel
set_option maxRecDepth 100000 in
theorem zb_l766 : zb_ltst 766 = true := by decide +kernel
set_option maxRecDepth 100000 in
theorem zb_l789 : zb_ltst 789 = true := by decide +kernel
set_option maxRecDepth 100000 in
theorem zb_l812 : zb_ltst 812 = true := by decide +kernel
set_option maxRecDepth 100000 in
theorem zb_l825 : zb_ltst 825 = true := by decide +kernel
set_option maxRecDepth 100000 in
theorem zb_l838 : zb_ltst 838 = true := by decide +kernel
set_option maxRecDepth 100000 in
theorem zb_l851 : zb_ltst 851 = true := by decide +kernel
set_option maxRecDepth 100000 in
theorem zb_l864 : zb_ltst 864 = true := by decide +kernel
set_option maxRecDepth 100000 in
theorem zb_l887 : zb_ltst 887 = true := by decide +kernel
set_option maxRecDepth 100000 in
theorem zb_l930 : zb_ltst 930 = true := by decide +kernel
set_option maxRecDepth 100000 in
theorem zb_l953 : zb_ltst 953 = true := by decide +kernel
set_option maxRecDepth 100000 in
theorem zb_l986 : zb_ltst 986 = true := by decide +kernel
set_option maxRecDepth 100000 in
theorem zb_l1029 : zb_ltst 1029 = true := by decide +kernel
set_option maxRecDepth 100000 in
theorem zb_l1102 : zb_ltst 1102 = true := by decide +kernel
set_option maxRecDepth 100000 in
theorem zb_l1135 : zb_ltst 1135 = true := by decide +kernel
set_option maxRecDepth 100000 in
theorem zb_l1198 : zb_ltst 1198 = true := by decide +kernel
set_option maxRecDepth 100000 in
theorem zb_l1231 : zb_ltst 1231 = true := by decide +kernel
set_option maxRecDepth 100000 in
theorem zb_l1254 : zb_ltst 1254 = true := by decide +kernel
def zb_lsw : List (Int × Nat) := [(0, 200), (1, 223), (2, 256), (3, 299), (4, 342), (5, 375), (6, 398), (7, 421), (8, 434), (9, 457), (10, 480), (11, 513), (12, 536), (13, 559), (14, 582), (15, 605), (16, 628), (17, 651), (18, 664), (19, 677), (20, 690), (21, 723), (22, 766), (23, 789), (24, 812), (25, 825), (26, 838), (27, 851), (28, 864), (29, 887), (30, 930), (31, 953), (32, 986), (33, 1029), (34, 1102), (35, 1135), (36, 1198), (37, 1231)]
def zb_lts : List Nat := [200, 223, 256, 299, 342, 375, 398, 421, 434, 457, 480, 513, 536, 559, 582, 605, 628, 651, 664, 677, 690, 723, 766, 789, 812, 825, 838, 851, 864, 887, 930, 953, 986, 1029, 1102, 1135, 1198, 1231, 1254]
theorem zb_lall : ∀ t, t ∈ zb_lts → t = 398 ∨ t = 421 ∨ zb_ltst t = true := List.forall_mem_cons.mpr ⟨Or.inr (Or.inr zb_l200), List.forall_mem_cons.mpr ⟨Or.inr (Or.inr zb_l223), List.forall_mem_cons.mpr ⟨Or.inr (Or.inr zb_l256), List.forall_mem_cons.mpr ⟨Or.inr (Or.inr zb_l299), List.forall_mem_cons.mpr ⟨Or.inr (Or.inr zb_l342), List.forall_mem_cons.mpr ⟨Or.inr (Or.inr zb_l375), List.forall_mem_cons.mpr ⟨Or.inl rfl, List.forall_mem_cons.mpr ⟨Or.inr (Or.inl rfl), List.forall_mem_cons.mpr ⟨Or.inr (Or.inr zb_l434), List.forall_mem_cons.mpr ⟨Or.inr (Or.inr zb_l457), List.forall_mem_cons.mpr ⟨Or.inr (Or.inr zb_l480), List.forall_mem_cons.mpr ⟨Or.inr (Or.inr zb_l513), List.forall_mem_cons.mpr ⟨Or.inr (Or.inr zb_l536), List.forall_mem_cons.mpr ⟨Or.inr (Or.inr zb_l559), List.forall_mem_cons.mpr ⟨Or.inr (Or.inr zb_l582), List.forall_mem_cons.mpr ⟨Or.inr (Or.inr zb_l605), List.forall_mem_cons.mpr ⟨Or.inr (Or.inr zb_l628), List.forall_mem_cons.mpr ⟨Or.inr (Or.inr zb_l651), List.forall_mem_cons.mpr ⟨Or.inr (Or.inr zb_l664), List.forall_mem_cons.mpr ⟨Or.inr (Or.inr zb_l677), List.forall_mem_cons.mpr ⟨Or.inr (Or.inr zb_l690), List.forall_mem_cons.mpr ⟨Or.inr (Or.inr zb_l723), List.forall_mem_cons.mpr ⟨Or.inr (Or.inr zb_l766), List.forall_mem_cons.mpr ⟨Or.inr (Or.inr zb_l789), List.forall_mem_cons.mpr ⟨Or.inr (Or.inr zb_l812), List.forall_mem_cons.mpr ⟨Or.inr (Or.inr zb_l825), List.forall_mem_cons.mpr ⟨Or.inr (Or.inr zb_l838), List.forall_mem_cons.mpr ⟨Or.inr (Or.inr zb_l851), List.forall_mem_cons.mpr ⟨Or.inr (Or.inr zb_l864), List.forall_mem_cons.mpr ⟨Or.inr (Or.inr zb_l887), List.forall_mem_cons.mpr ⟨Or.inr (Or.inr zb_l930), List.forall_mem_cons.mpr ⟨Or.inr (Or.inr zb_l953), List.forall_mem_cons.mpr ⟨Or.inr (Or.inr zb_l986), List.forall_mem_cons.mpr ⟨Or.inr (Or.inr zb_l1029), List.forall_mem_cons.mpr ⟨Or.inr (Or.inr zb_l1102), List.forall_mem_cons.mpr ⟨Or.inr (Or.inr zb_l1135), List.forall_mem_cons.mpr ⟨Or.inr (Or.inr zb_l1198), List.forall_mem_cons.mpr ⟨Or.inr (Or.inr zb_l1231), List.forall_mem_cons.mpr ⟨Or.inr (Or.inr zb_l1254), List.forall_mem_nil _⟩⟩⟩⟩⟩⟩⟩⟩⟩⟩⟩⟩⟩⟩⟩⟩⟩⟩⟩⟩⟩⟩⟩⟩⟩⟩⟩⟩⟩⟩⟩⟩⟩⟩⟩⟩⟩⟩⟩
