/-! one instruction of any kind; bodies; calls gone into -/
noncomputable def zb_stp (T : zb_T) (wr : Nat → Bool) (sl : Bool × List Nat) (E : rf_E) (env : zb_N) (L : zb_L) (st : List an_V) (D : zb_D) : zb_Rs :=
  match E with
  | (op, a, b, c, x, nxt, sw) => bif Nat.blt op 46 then (bif Nat.blt op 23 then (bif Nat.blt op 11 then (bif Nat.blt op 5 then (bif Nat.blt op 2 then (bif Nat.blt op 1 then (zb_o0 a nxt env L st D) else (zb_o1 a nxt env L st D)) else (bif Nat.blt op 3 then (zb_o2 (zb_has sl.2 b) b nxt env L st D) else (bif Nat.blt op 4 then (zb_o3 b nxt env L st D) else (zb_o4 b nxt env L st D)))) else (bif Nat.blt op 8 then (bif Nat.blt op 6 then (zb_o5 b nxt env L st D) else (bif Nat.blt op 7 then (zb_o6 b nxt env L st D) else (none))) else (bif Nat.blt op 9 then (zb_o8 a b nxt env L st D) else (bif Nat.blt op 10 then (zb_o9 (zb_has sl.2 99) b nxt env L st D) else (zb_o10 nxt env L st D))))) else (bif Nat.blt op 17 then (bif Nat.blt op 14 then (bif Nat.blt op 12 then (zb_o11 nxt env L st D) else (bif Nat.blt op 13 then (zb_o12 (zb_has sl.2 99) nxt env L st D) else (zb_o13 nxt env L st D))) else (bif Nat.blt op 15 then (zb_o14 nxt env L st D) else (bif Nat.blt op 16 then (zb_o15 nxt env L st D) else (zb_o16 nxt env L st D)))) else (bif Nat.blt op 20 then (bif Nat.blt op 18 then (zb_o17 nxt env L st D) else (bif Nat.blt op 19 then (zb_o18 nxt env L st D) else (zb_o19 nxt env L st D))) else (bif Nat.blt op 21 then (zb_o20 nxt env L st D) else (bif Nat.blt op 22 then (zb_o21 nxt env L st D) else (zb_o22 nxt env L st D)))))) else (bif Nat.blt op 34 then (bif Nat.blt op 28 then (bif Nat.blt op 25 then (bif Nat.blt op 24 then (zb_o23 nxt env L st D) else (zb_o24 nxt env L st D)) else (bif Nat.blt op 26 then (zb_o25 b c nxt env L st D) else (bif Nat.blt op 27 then (zb_o26 b c nxt env L st D) else (zb_st1 env c L st D)))) else (bif Nat.blt op 31 then (bif Nat.blt op 29 then (zb_o28 c sw env L st D) else (bif Nat.blt op 30 then (zb_o29 T b c nxt env L st D) else (zb_o30 T wr b c nxt env L st D))) else (bif Nat.blt op 32 then (zb_o31 b nxt env L st D) else (bif Nat.blt op 33 then (zb_o32 T sl.1 nxt env L st D) else (zb_o33c T wr nxt env L st D))))) else (bif Nat.blt op 40 then (bif Nat.blt op 37 then (bif Nat.blt op 35 then (zb_o34 T 1 nxt env L st D) else (bif Nat.blt op 36 then (zb_o33 T wr zb_isL 1 nxt env L st D) else (zb_o34 T 2 nxt env L st D))) else (bif Nat.blt op 38 then (none) else (bif Nat.blt op 39 then (zb_o38 T sl.1 nxt env L st D) else (none)))) else (bif Nat.blt op 43 then (bif Nat.blt op 41 then (none) else (bif Nat.blt op 42 then (none) else (none))) else (bif Nat.blt op 44 then (zb_o43 T wr nxt env L st D) else (bif Nat.blt op 45 then (zb_o44 nxt env L st D) else (zb_o45 nxt env L st D))))))) else none
section
variable {T : zb_T} {len : Nat} {wr : Nat → Bool} {N : Nat} {ρ : Nat → Int} {env : zb_N} {L : zb_L} {L' : rf_L} {st : List an_V} {st' : List Value} {D : zb_D} {σ : rf_S} {ws : List zb_C} {sl : Bool × List Nat} {LL : Nat} {xs : Nat → Int32} {loc : Nat → Nat × Nat}
set_option maxRecDepth 10000 in
theorem zb_stp_ok {E : rf_E} (hlen : len ≤ 1000000) (hLL : LL < 2 ^ 31) (hloc : zb_loc T loc) (hsl : sl.1 = true → zb_hs LL xs N ρ) (he : zb_en N ρ env) (hL : zb_gL N ρ L L') (hst : zb_gl N ρ st st') (hσ : zb_ss T len D N ρ σ) (hs : zb_stp T wr sl E env L st D = some ws) : zb_In T len wr N ρ (rf_SA LL xs) E ws L' st' σ := by
  obtain ⟨op, a, b, c, x, nxt, sw⟩ := E
  match op, hs with
  | 0, hs => exact zb_s0 he hL hst hσ hs
  | 1, hs => exact zb_s1 he hL hst hσ hs
  | 2, hs => exact zb_s2 he hL hst hσ hs
  | 3, hs => exact zb_s3 he hL hst hσ hs
  | 4, hs => exact zb_s4 he hL hst hσ hs
  | 5, hs => exact zb_s5 he hL hst hσ hs
  | 6, hs => exact zb_s6 he hL hst hσ hs
  | 7, hs => cases hs
  | 8, hs => exact zb_s8 he hL hst hσ hs
  | 9, hs => exact zb_s9 he hL hst hσ hs
  | 10, hs => exact zb_s10 he hL hst hσ hs
  | 11, hs => exact zb_s11 he hL hst hσ hs
  | 12, hs => exact zb_s12 he hL hst hσ hs
  | 13, hs => exact zb_s13 he hL hst hσ hs
  | 14, hs => exact zb_s14 he hL hst hσ hs
  | 15, hs => exact zb_s15 he hL hst hσ hs
  | 16, hs => exact zb_s16 he hL hst hσ hs
  | 17, hs => exact zb_s17 he hL hst hσ hs
  | 18, hs => exact zb_s18 he hL hst hσ hs
  | 19, hs => exact zb_s19 he hL hst hσ hs
  | 20, hs => exact zb_s20 he hL hst hσ hs
  | 21, hs => exact zb_s21 he hL hst hσ hs
  | 22, hs => exact zb_s22 he hL hst hσ hs
  | 23, hs => exact zb_s23 he hL hst hσ hs
  | 24, hs => exact zb_s24 he hL hst hσ hs
  | 25, hs => exact zb_s25 he hL hst hσ hs
  | 26, hs => exact zb_s26 he hL hst hσ hs
  | 27, hs => exact zb_s27 he hL hst hσ hs
  | 28, hs => exact zb_s28 he hL hst hσ hs
  | 29, hs => exact zb_s29 he hL hst hσ hs
  | 30, hs => exact zb_s30 hloc he hL hst hσ hs
  | 31, hs => exact zb_s31 he hL hst hσ hs
  | 32, hs => exact zb_s32 hlen hsl he hL hst hσ hs
  | 33, hs => exact zb_s33c hloc he hL hst hσ hs
  | 34, hs => exact zb_s34 he hL hst hσ hs
  | 35, hs => exact zb_s35 he hL hst hσ hs
  | 36, hs => exact zb_s36 he hL hst hσ hs
  | 37, hs => cases hs
  | 38, hs => exact zb_s38 hlen hLL hsl he hL hst hσ hs
  | 39, hs => cases hs
  | 40, hs => cases hs
  | 41, hs => cases hs
  | 42, hs => cases hs
  | 43, hs => exact zb_s43 he hL hst hσ hs
  | 44, hs => exact zb_s44 he hL hst hσ hs
  | 45, hs => exact zb_s45 he hL hst hσ hs
  | k + 46, hs => cases hs
end
abbrev zb_R : Type := List (zb_N × Option an_V × zb_D)
/-- a number that is only bounded gets a name -/
noncomputable def zb_nm (env : zb_N) (st : List an_V) : zb_N × List an_V := match st with
  | .inr (1, lo, hi) :: r => bif zb_le hi lo then (env, st) else ((env.1 ++ [(lo, hi)], env.2), .inr (0, (env.1.length : Int), 0) :: r)
  | _ => (env, st)
/-- a local that is only bounded gets a name -/
noncomputable def zb_nml (env : zb_N) (L : zb_L) (b : Nat) : zb_N × zb_L := match zb_get L b with
  | some (.inr (1, lo, hi)) => bif zb_le hi lo then (env, L) else ((env.1 ++ [(lo, hi)], env.2), zb_upd L b (some (.inr (0, (env.1.length : Int), 0))))
  | _ => (env, L)
noncomputable def zb_rok1 (env : zb_N) (ret : Option FieldType) (v : an_V) : Bool := match ret with
  | some .int => zb_isI v
  | some .boolean => (match zb_pi env v with
    | some q => zb_le 0 q.2.1 && zb_le q.2.2 1
    | none => false)
  | _ => false
noncomputable def zb_rok (env : zb_N) (op : Nat) (ret : Option FieldType) (st : List an_V) : Bool := match op, st with
  | 47, [] => true
  | 48, [v] => zb_rok1 env ret v
  | 49, [v] => zb_isL v
  | 50, [v] => zb_isR v
  | _, _ => false
def zb_recv (T : zb_T) (kind ci : Nat) (As : List an_V) : Bool := match kind with
  | 0 => true
  | 1 => (match As with
    | v :: _ => zb_isR v && (zb_mem v).all (fun r => match T r with
      | some (.inr (cj, _)) => Nat.beq cj ci
      | _ => false)
    | _ => false)
  | _ => false
abbrev zb_Kt : Type := Nat → zb_N → List an_V → zb_D → Option zb_R
abbrev zb_B : Type := Option (List (Bool × zb_C))
/-- one step of a body: the ways on are given to k -/
noncomputable def zb_go (T : zb_T) (wr : Nat → Bool) (sl : Bool × List Nat) (ms : List rf_M) (K : zb_Kt) (mi : rf_M) (k : zb_C → zb_B) (env : zb_N) (pc : Nat) (L : zb_L) (st : List an_V) (D : zb_D) : zb_B :=
  match mi.2.2 pc with
  | none => none
  | some E => bif Nat.beq E.1 46 then
      (match zb_nth ms E.2.2.1 with
      | none => none
      | some mj => bif Nat.ble E.2.2.2.1 st.length && (Nat.ble (an_cat (st.drop E.2.2.2.1)) 8 && (zb_recv T mj.2.1.1 mj.2.1.2.2.2.2.1 (st.take E.2.2.2.1).reverse && (Nat.beq mj.2.1.2.2.1 0 && Nat.beq mj.2.1.2.2.2.1 0))) then
          zb_bnd (K E.2.2.1 env (st.take E.2.2.2.1).reverse D) fun rs => an_all (fun r => k (r.1, E.2.2.2.2.2.1, L, r.2.1.toList ++ st.drop E.2.2.2.1, r.2.2)) rs
        else none)
    else bif Nat.ble 47 E.1 then (bif zb_rok env E.1 mi.1.2.2.2.1 st then some [(true, env, pc, L, st, D)] else none)
    else bif Nat.beq E.1 2 || Nat.beq E.1 8 then zb_bnd (zb_stp T wr sl E (zb_nml env L E.2.2.1).1 (zb_nml env L E.2.2.1).2 st D) fun ws => an_all k ws
    else bif Nat.beq E.1 5 || (Nat.beq E.1 30 || Nat.beq E.1 33) then zb_bnd (zb_stp T wr sl E (zb_nm env st).1 L (zb_nm env st).2 D) fun ws => an_all k ws
    else zb_bnd (zb_stp T wr sl E env L st D) fun ws => an_all k ws
/-- a body, to its returns (true) or to places where it stops (false); 'go': the first place is no stop -/
noncomputable def zb_body (T : zb_T) (wr : Nat → Bool) (sl : Bool × List Nat) (ms : List rf_M) (K : zb_Kt) (mi : rf_M) (stop : Nat → Bool) (n : Nat) : Bool → zb_C → zb_B :=
  Nat.rec (motive := fun _ => Bool → zb_C → zb_B) (fun _ _ => none) (fun _ ih go c => bif go then zb_go T wr sl ms K mi (ih false) c.1 c.2.1 c.2.2.1 c.2.2.2.1 c.2.2.2.2 else bif stop c.2.1 then some [(false, c)] else zb_go T wr sl ms K mi (ih false) c.1 c.2.1 c.2.2.1 c.2.2.2.1 c.2.2.2.2) n
def zb_arg : List an_V → zb_L
  | [] => []
  | v :: vs => bif Nat.beq (an_ct v) 2 then some v :: none :: zb_arg vs else some v :: zb_arg vs
/-- calls: by what is known of the method (S), else gone into -/
noncomputable def zb_run (T : zb_T) (wr : Nat → Bool) (sl : Bool × List Nat) (ms : List rf_M) (S : Nat → Option (zb_N → List an_V → zb_D → Option zb_R)) (F : Nat) (t : Nat) : zb_Kt :=
  Nat.rec (motive := fun _ => zb_Kt) (fun _ _ _ _ => none) (fun _ ih b env As D => match S b with
    | some f => f env As D
    | none => (match zb_nth ms b with
      | none => none
      | some mi => bif Nat.ble (an_lgs As) mi.1.2.2.1 then
          zb_bnd (zb_body T wr sl ms ih mi (fun _ => false) F true (env, 0, zb_arg As ++ List.replicate mi.1.2.2.1 none, [], D)) fun cs => bif cs.all (fun c => c.1) then some (cs.map fun c => (c.2.1, c.2.2.2.2.1.head?, c.2.2.2.2.2)) else none
        else none)) t
