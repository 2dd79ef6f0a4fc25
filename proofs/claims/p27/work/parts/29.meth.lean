/-! what is known of a method: used at calls, and shown of its body with its loops -/
/-- e = (a, k, c): a times the number k, and c -/
abbrev zb_E : Type := Int × Nat × Int
def zb_ev (ρ : Nat → Int) (e : zb_E) : Int := e.1 * ρ e.2.1 + e.2.2
abbrev zb_M : Type := zb_E × zb_E × zb_E
/-- before; the ends; places in loops, with what grows less; the depth; what it may write -/
abbrev zb_Sp : Type := zb_A × List zb_A × List (Nat × zb_A × zb_M) × zb_E × List Nat
/-- a number of the callee's end among the caller's -/
noncomputable def zb_sx (N nP : Nat) (ds : List an_V) (j : Nat) : Option an_V := bif Nat.blt j nP then zb_nth ds j else some (.inr (0, ((N + (j - nP) : Nat) : Int), 0))
noncomputable def zb_sb (N nP : Nat) (ds : List an_V) : an_V → Option an_V
  | .inr (0, j, c) => (match zb_sx N nP ds j.toNat with
    | some (.inr (0, k, d)) => some (.inr (0, k, d + c))
    | some (.inr (1, lo, hi)) => some (.inr (1, lo + c, hi + c))
    | _ => none)
  | .inr (3, _, _) => none
  | a => some a
noncomputable def zb_sfJ (N nP : Nat) (ds : List an_V) (k j b : Nat) : List zb_F := bif zb_every (fun i => match zb_sx N nP ds (b + i) with
    | some (.inr (0, m, y)) => Nat.beq m.toNat (j + i) && zb_ieq y 0
    | _ => false) [0, 1, 2, 3, 4, 5, 6] then [(3, k, j, 0)] else []
noncomputable def zb_sf (N nP : Nat) (ds : List an_V) (f : zb_F) : List zb_F := match f.1, zb_sx N nP ds f.2.1, zb_sx N nP ds f.2.2.1 with
  | 3, some (.inr (0, k, x)), some (.inr (0, j, _)) => bif zb_ieq x 0 then zb_sfJ N nP ds k.toNat j.toNat f.2.2.1 else []
  | 0, some (.inr (0, k, x)), some (.inr (0, j, y)) => [(0, k.toNat, j.toNat, f.2.2.2 + y - x)]
  | _, _, _ => []
noncomputable def zb_fm {α β : Type} (f : α → List β) (l : List α) : List β := List.rec (motive := fun _ => List β) [] (fun a _ ih => f a ++ ih) l
noncomputable def zb_pm1 (N nP : Nat) (ds : List an_V) (i : Nat) (a : an_V) (dt : List an_V) : Option an_V := match a, dt with
  | .inr (0, j, c), d :: _ => bif Nat.beq j.toNat i && (zb_ieq c 0 && zb_isI d) then some d else zb_sb N nP ds (.inr (0, j, c))
  | a, _ => zb_sb N nP ds a
/-- the scalars at the callee's end, in step with the numbers -/
noncomputable def zb_pm (N nP : Nat) (ds : List an_V) (D : zb_D) : Nat → List an_V → Option (List an_V) :=
  List.rec (motive := fun _ => Nat → List an_V → Option (List an_V)) (fun _ _ => some []) (fun a _ ih i dt => zb_oc (zb_pm1 N nP ds i a dt) (ih (i + 1) dt.tail)) D
noncomputable def zb_pst (env : zb_N) (ds : List an_V) (B : zb_A) : Option (zb_N × Option an_V × zb_D) :=
  zb_bnd (zb_pm env.1.length ds.length ds B.2.2.2.1 0 ds) fun D => zb_bnd (zb_prop2 (env.1 ++ B.1.1.drop ds.length, zb_fm (zb_sf env.1.length ds.length ds) B.1.2 ++ env.2)) fun e => (match B.2.2.1 with
    | [] => some (e, none, D)
    | [a] => zb_bnd (zb_sb env.1.length ds.length ds a) fun a => some (e, some a, D)
    | _ => none)
/-- the bounds of a q + c -/
def zb_eb (a : Int) (q : zb_q) (c : Int) : Int × Int := bif zb_le 0 a then (a * q.2.1 + c, a * q.2.2 + c) else (a * q.2.2 + c, a * q.2.1 + c)
/-- a q + c + s is no more than b p + d -/
noncomputable def zb_els (fs : List zb_F) (a : Int) (q : zb_q) (c s b : Int) (p : zb_q) (d : Int) : Bool :=
  zb_le ((zb_eb a q c).2 + s) (zb_eb b p d).1 || (zb_ieq a b && (bif zb_le 1 a then zb_ent fs q p ((d - c - s) / a) else bif zb_le a (-1) then zb_ent fs p q ((d - c - s) / (-a)) else zb_le (c + s) d))
/-- the value of a number of a written one -/
noncomputable def zb_eq (env : zb_N) (n0 : Nat) (ds : List an_V) (e : zb_E) : Option zb_q := bif zb_ieq e.1 0 then some (none, 0, 0) else (match zb_dl n0 ds e.2.1 with
  | some d => zb_pi env d
  | none => none)
noncomputable def zb_dpc (env : zb_N) (n0 : Nat) (ds : List an_V) (e dc : zb_E) (T0 : Int) : Bool := match zb_eq env 0 ds e, zb_eq env n0 [] dc with
  | some q, some p => zb_els env.2 e.1 q e.2.2 T0 dc.1 p dc.2.2
  | _, _ => false
noncomputable def zb_use (n0 : Nat) (wl : List Nat) (dc : zb_E) (T0 : Int) (nl : Nat) (p : zb_Sp) (env : zb_N) (As : List an_V) (D : zb_D) : Option zb_R :=
  zb_bnd (zb_fitA 0 (env, 0, zb_arg As, [], D) p.1) fun ds => bif Nat.ble (an_lgs As) nl && (zb_dpc env n0 ds p.2.2.2.1 dc T0 && zb_every (zb_has wl) p.2.2.2.2) then zb_map (zb_pst env ds) p.2.1 else none
/-- the first that fits -/
noncomputable def zb_uses (n0 : Nat) (wl : List Nat) (dc : zb_E) (T0 : Int) (nl : Nat) (ps : List zb_Sp) (env : zb_N) (As : List an_V) (D : zb_D) : Option zb_R :=
  List.rec (motive := fun _ => Option zb_R) none (fun p _ ih => match zb_use n0 wl dc T0 nl p env As D with
    | some r => some r
    | none => ih) ps
/-- e2 (of the written one) and s is no more than e1 (of the start's numbers, NS of them) -/
noncomputable def zb_le2 (env : zb_N) (n0 NS : Nat) (ds : List an_V) (s : Int) (e2 e1 : zb_E) : Bool := match zb_eq env n0 ds e2, zb_eq env NS [] e1 with
  | some q, some p => zb_els env.2 e2.1 q e2.2.2 s e1.1 p e1.2.2 && (zb_le s 0 || zb_le 0 (zb_eb e2.1 q e2.2.2).1)
  | _, _ => false
/-- the measures: the first that differs is less -/
noncomputable def zb_lex (env : zb_N) (n0 NS : Nat) (ds : List an_V) (m2 m1 : zb_M) : Bool :=
  zb_le2 env n0 NS ds 1 m2.1 m1.1 || (zb_le2 env n0 NS ds 0 m2.1 m1.1 && (zb_le2 env n0 NS ds 1 m2.2.1 m1.2.1 || (zb_le2 env n0 NS ds 0 m2.2.1 m1.2.1 && zb_le2 env n0 NS ds 1 m2.2.2 m1.2.2)))
/-- an end of a way: a written end, or a place in a loop with less -/
noncomputable def zb_endok (n0 NS : Nat) (p : zb_Sp) (m : Option zb_M) (e : Bool × zb_C) : Bool :=
  bif e.1 then zb_any (fun B => match zb_fitA n0 (e.2.1, 0, [], e.2.2.2.2.1, e.2.2.2.2.2) B with
    | some _ => true
    | none => false) p.2.1
  else zb_any (fun q => Nat.beq q.1 e.2.2.1 && (match zb_fitA n0 e.2 q.2.1 with
    | some ds => (match m with
      | some m => zb_lex e.2.1 n0 NS ds q.2.2 m
      | none => true)
    | none => false)) p.2.2.1
noncomputable def zb_seg (T : zb_T) (sl : Bool × List Nat) (ms : List rf_M) (S : zb_St) (F T0 : Nat) (mi : rf_M) (p : zb_Sp) (pc : Nat) (A : zb_A) (m : Option zb_M) : Bool :=
  match zb_body T (zb_has p.2.2.2.2) sl ms (zb_run T (zb_has p.2.2.2.2) sl ms S F T0) mi (fun k => zb_any (fun q => Nat.beq q.1 k) p.2.2.1) F true (A.1, pc, A.2.1, A.2.2.1, A.2.2.2.1) with
  | some cs => cs.all (zb_endok p.1.1.1.length A.1.1.length p m)
  | none => false
noncomputable def zb_S (ms : List rf_M) (SP : Nat → List zb_Sp) (X : zb_St) (n0 : Nat) (wl : List Nat) (dc : zb_E) (T0 : Nat) : zb_St := fun b => match X b with
  | some f => some f
  | none => (match SP b, zb_nth ms b with
    | p :: ps, some mi => some (zb_uses n0 wl dc (T0 : Int) mi.1.2.2.1 (p :: ps))
    | _, _ => none)
noncomputable def zb_dn (ns : Nat) (p : zb_Sp) : Bool := Nat.beq p.1.2.2.2.1.length ns && (zb_every (fun B => Nat.beq B.2.2.2.1.length ns) p.2.1 && zb_every (fun q => Nat.beq q.2.1.2.2.2.1.length ns) p.2.2.1)
/-- the depth is enough for calls gone into -/
noncomputable def zb_dq (T0 : Nat) (p : zb_Sp) : Bool := match zb_eq p.1.1 p.1.1.1.length [] p.2.2.2.1 with
  | some q => zb_le ((T0 : Int) + 1) (zb_eb p.2.2.2.1.1 q p.2.2.2.1.2.2).1
  | none => false
noncomputable def zb_chkc (T : zb_T) (sl : Bool × List Nat) (ms : List rf_M) (SP : Nat → List zb_Sp) (X : zb_St) (F T0 : Nat) (mi : rf_M) (p : zb_Sp) : Bool :=
  zb_every (fun q => zb_seg T sl ms (zb_S ms SP X p.1.1.1.length p.2.2.2.2 p.2.2.2.1 T0) F T0 mi p q.1 q.2.1 (some q.2.2)) p.2.2.1
noncomputable def zb_chk (T : zb_T) (sl : Bool × List Nat) (ms : List rf_M) (SP : Nat → List zb_Sp) (X : zb_St) (F T0 ns : Nat) (mi : rf_M) (p : zb_Sp) : Bool :=
  zb_dn ns p && (zb_dq T0 p && (zb_seg T sl ms (zb_S ms SP X p.1.1.1.length p.2.2.2.2 p.2.2.2.1 T0) F T0 mi p 0 p.1 none && zb_chkc T sl ms SP X F T0 mi p))
