/-! one instruction in boxes: the ways on -/
abbrev zb_Rs : Type := Option (List zb_C)
def zb_st1 (env : zb_N) (nxt : Nat) (L : zb_L) (st : List an_V) (D : zb_D) : zb_Rs := some [(env, nxt, L, st, D)]
noncomputable def zb_get (L : zb_L) (i : Nat) : Option an_V := match zb_nth L i with
  | some o => o
  | none => none
/-- a local is laid; a long just ahead of it bars -/
noncomputable def zb_set (L : zb_L) (i : Nat) (v : an_V) : Option zb_L := match zb_get L (Nat.pred i) with
  | some w => bif Nat.beq (an_ct w) 2 && !(Nat.beq i 0) then none else some (zb_upd L i (some v))
  | none => some (zb_upd L i (some v))
noncomputable def zb_o0 (a : Int) (nxt : Nat) (env : zb_N) (L : zb_L) (st : List an_V) (D : zb_D) : zb_Rs := bif zb_fit a a then zb_st1 env nxt L (.inr (1, a, a) :: st) D else none
noncomputable def zb_o1 (a : Int) (nxt : Nat) (env : zb_N) (L : zb_L) (st : List an_V) (D : zb_D) : zb_Rs := bif zb_le zb_lo64 a && zb_le a zb_hi64 then zb_st1 env nxt L (.inr (2, a, a) :: st) D else none
/-- a number by name that has few values left: one by one -/
noncomputable def zb_each (env : zb_N) (k : Nat) (lo : Int) : Nat → List (Int × zb_N)
  | 0 => []
  | n + 1 => (lo, (zb_upd env.1 k (lo, lo), env.2)) :: zb_each env k (lo + 1) n
noncomputable def zb_o2 (sp : Bool) (b nxt : Nat) (env : zb_N) (L : zb_L) (st : List an_V) (D : zb_D) : zb_Rs := match zb_get L b with
  | some v => bif zb_isI v then (bif sp then (match zb_pi env v with
      | some (some (k, c), lo, hi) => bif zb_le (lo + 1) hi && zb_le hi (lo + 7) then some ((zb_each env k (lo - c) (hi - lo + 1).toNat).map fun w => (w.2, nxt, L, v :: st, D)) else zb_st1 env nxt L (v :: st) D
      | _ => zb_st1 env nxt L (v :: st) D) else zb_st1 env nxt L (v :: st) D) else none
  | none => none
noncomputable def zb_o3 (b nxt : Nat) (env : zb_N) (L : zb_L) (st : List an_V) (D : zb_D) : zb_Rs := match zb_get L b with
  | some v => bif zb_isL v then zb_st1 env nxt L (v :: st) D else none
  | none => none
noncomputable def zb_o4 (b nxt : Nat) (env : zb_N) (L : zb_L) (st : List an_V) (D : zb_D) : zb_Rs := match zb_get L b with
  | some v => bif zb_isR v then zb_st1 env nxt L (v :: st) D else none
  | none => none
noncomputable def zb_o5 (b nxt : Nat) (env : zb_N) (L : zb_L) (st : List an_V) (D : zb_D) : zb_Rs := match st with
  | v :: r => bif zb_isI v then zb_bnd (zb_set L b v) fun L1 => zb_st1 env nxt L1 r D else none
  | _ => none
noncomputable def zb_o6 (b nxt : Nat) (env : zb_N) (L : zb_L) (st : List an_V) (D : zb_D) : zb_Rs := match st with
  | v :: r => bif zb_isR v then zb_bnd (zb_set L b v) fun L1 => zb_st1 env nxt L1 r D else none
  | _ => none
noncomputable def zb_o8 (a : Int) (b nxt : Nat) (env : zb_N) (L : zb_L) (st : List an_V) (D : zb_D) : zb_Rs := match zb_get L b with
  | some v => zb_bnd (zb_pi env v) fun q => bif zb_fit a a then zb_bnd (zb_set L b (zb_addc q a)) fun L1 => zb_st1 env nxt L1 st D else none
  | none => none
/-- a sum, with what the facts say of it -/
noncomputable def zb_addf (fs : List zb_F) (x y : zb_q) : an_V := match x.1, y.1 with
  | some (k, a), some (j, b) => (match zb_sm2 fs k j fs with
    | some s => bif zb_fit (x.2.1 + y.2.1) (x.2.2 + y.2.2) then .inr (1, x.2.1 + y.2.1, zb_min (x.2.2 + y.2.2) (s + a + b)) else zb_top
    | none => zb_bin 0 x y)
  | _, _ => zb_bin 0 x y
/-- a difference of a number by name: by name too, with the fact that ties them -/
noncomputable def zb_subf (nxt : Nat) (env : zb_N) (L : zb_L) (r : List an_V) (D : zb_D) (x y : zb_q) : zb_Rs := match x.1, y.1 with
  | _, some (k, c) => bif zb_fit (x.2.1 - y.2.2) (x.2.2 - y.2.1) && !(zb_sing y) then zb_st1 (env.1 ++ [(x.2.1 - y.2.2, x.2.2 - y.2.1)], [(2, env.1.length, k, x.2.2 - c)] ++ env.2) nxt L (.inr (0, (env.1.length : Int), 0) :: r) D else zb_st1 env nxt L (zb_bin 1 x y :: r) D
  | _, _ => zb_st1 env nxt L (zb_bin 1 x y :: r) D
/-! results found again by what they are of (kinds 5 + m; m < 9: op m of two numbers; 9 + m: of a number and c; 18 + m: of c and a number; 27: less than nothing): switched on by slot 99 -/
noncomputable def zb_fnd (kd k : Nat) (c : Int) (fs : List zb_F) : Option Nat := List.rec (motive := fun _ => Option Nat) none (fun f _ ih => bif Nat.beq f.1 kd && (Nat.beq f.2.2.1 k && (zb_le f.2.2.2 c && zb_le c f.2.2.2)) then some f.2.1 else ih) fs
noncomputable def zb_vb (env : zb_N) (r : an_V) : Int × Int := match zb_pi env r with
  | some q => (q.2.1, q.2.2)
  | none => (zb_lo32, zb_hi32)
noncomputable def zb_opn (env : zb_N) (m k : Nat) (c : Int) (bd : Int × Int) : zb_N × Nat := match zb_fnd (5 + m) k c env.2 with
  | some t => (env, t)
  | none => ((env.1 ++ [bd], [(5 + m, env.1.length, k, c)] ++ env.2), env.1.length)
noncomputable def zb_nrm (env : zb_N) (q : zb_q) (k : Nat) (c : Int) : zb_N × Nat := bif zb_le c 0 && zb_le 0 c then (env, k) else zb_opn env 9 k c (q.2.1, q.2.2)
def zb_pu (nxt : Nat) (L : zb_L) (r : List an_V) (D : zb_D) (e : zb_N × Nat) : zb_Rs := zb_st1 e.1 nxt L (.inr (0, (e.2 : Int), 0) :: r) D
def zb_isN : an_V → Bool
  | .inr (0, _, _) => true
  | _ => false
noncomputable def zb_opc (b nxt : Nat) (env : zb_N) (L : zb_L) (r : List an_V) (D : zb_D) (qz qy : zb_q) (k : Nat) (c : Int) : zb_Rs := zb_pu nxt L r D (zb_opn (zb_nrm env qz k c).1 (9 + b) (zb_nrm env qz k c).2 qy.2.1 (zb_vb env (zb_bin b qz qy)))
noncomputable def zb_o9c (b nxt : Nat) (env : zb_N) (L : zb_L) (r : List an_V) (D : zb_D) (qz qy : zb_q) : zb_Rs := match qz.1, qy.1 with
  | some (k, c), some (j, d) => zb_pu nxt L r D (zb_opn (zb_nrm (zb_nrm env qz k c).1 qy j d).1 b (zb_nrm env qz k c).2 (((zb_nrm (zb_nrm env qz k c).1 qy j d).2 : Nat) : Int) (zb_vb env (zb_bin b qz qy)))
  | some (k, c), none => bif zb_sing qy then (match b with
      | 0 => bif zb_isN (zb_addc qz qy.2.1) then zb_st1 env nxt L (zb_addc qz qy.2.1 :: r) D else zb_opc 0 nxt env L r D qz qy k c
      | 1 => bif zb_isN (zb_addc qz (-qy.2.1)) then zb_st1 env nxt L (zb_addc qz (-qy.2.1) :: r) D else zb_opc 1 nxt env L r D qz qy k c
      | b => zb_opc b nxt env L r D qz qy k c) else zb_st1 env nxt L (zb_bin b qz qy :: r) D
  | none, some (j, d) => bif zb_sing qz then (bif Nat.beq b 0 && zb_isN (zb_addc qy qz.2.1) then zb_st1 env nxt L (zb_addc qy qz.2.1 :: r) D
      else zb_pu nxt L r D (zb_opn (zb_nrm env qy j d).1 (18 + b) (zb_nrm env qy j d).2 qz.2.1 (zb_vb env (zb_bin b qz qy)))) else zb_st1 env nxt L (zb_bin b qz qy :: r) D
  | none, none => zb_st1 env nxt L (zb_bin b qz qy :: r) D
noncomputable def zb_o12c (nxt : Nat) (env : zb_N) (L : zb_L) (r : List an_V) (D : zb_D) (q : zb_q) : zb_Rs := match q.1 with
  | some (k, c) => zb_pu nxt L r D (zb_opn (zb_nrm env q k c).1 27 (zb_nrm env q k c).2 0 (zb_vb env (zb_neg q)))
  | none => zb_st1 env nxt L (zb_neg q :: r) D
noncomputable def zb_o9 (fl : Bool) (b nxt : Nat) (env : zb_N) (L : zb_L) (st : List an_V) (D : zb_D) : zb_Rs := match st with
  | y :: z :: r => zb_bnd (zb_pi env z) fun qz => zb_bnd (zb_pi env y) fun qy => bif fl && Nat.blt b 9 then zb_o9c b nxt env L r D qz qy else (match b with
    | 0 => zb_st1 env nxt L (zb_addf env.2 qz qy :: r) D
    | 1 => zb_subf nxt env L r D qz qy
    | b => zb_st1 env nxt L (zb_bin b qz qy :: r) D)
  | _ => none
/-- what a quotient lies between -/
def zb_quo (x y : zb_q) : an_V := bif zb_sing y && (zb_le 1 y.2.1 && zb_le 0 x.2.1) then .inr (1, x.2.1 / y.2.1, x.2.2 / y.2.1) else zb_top
def zb_not0 (y : zb_q) : Bool := zb_le 1 y.2.1 || zb_le y.2.2 (-1)
/-- a quotient of a number by name: by name too, with the fact that ties them -/
noncomputable def zb_qn (nxt : Nat) (env : zb_N) (L : zb_L) (r : List an_V) (D : zb_D) (qz qy : zb_q) : zb_Rs := match qz.1 with
  | some (k, .ofNat 0) => bif zb_sing qy && (zb_le 1 qy.2.1 && zb_le 0 qz.2.1) then (match zb_fnd 1 k qy.2.1 env.2 with
    | some t => zb_st1 env nxt L (.inr (0, (t : Int), 0) :: r) D
    | none => zb_st1 (env.1 ++ [(qz.2.1 / qy.2.1, qz.2.2 / qy.2.1)], [(1, env.1.length, k, qy.2.1)] ++ env.2) nxt L (.inr (0, (env.1.length : Int), 0) :: r) D) else zb_st1 env nxt L (zb_quo qz qy :: r) D
  | _ => zb_st1 env nxt L (zb_quo qz qy :: r) D
noncomputable def zb_o10 (nxt : Nat) (env : zb_N) (L : zb_L) (st : List an_V) (D : zb_D) : zb_Rs := match st with
  | y :: z :: r => zb_bnd (zb_pi env z) fun qz => zb_bnd (zb_pi env y) fun qy => bif zb_not0 qy then zb_qn nxt env L r D qz qy else none
  | _ => none
def zb_rem (x y : zb_q) : an_V := bif zb_le 1 y.2.1 && zb_le 0 x.2.1 then .inr (1, 0, zb_min x.2.2 (y.2.2 - 1)) else zb_top
/-- a remainder of a number by name: likewise -/
noncomputable def zb_rn (nxt : Nat) (env : zb_N) (L : zb_L) (r : List an_V) (D : zb_D) (qz qy : zb_q) : zb_Rs := match qz.1 with
  | some (k, .ofNat 0) => bif zb_sing qy && (zb_le 1 qy.2.1 && zb_le 0 qz.2.1) then (match zb_fnd 4 k qy.2.1 env.2 with
    | some t => zb_st1 env nxt L (.inr (0, (t : Int), 0) :: r) D
    | none => zb_st1 (env.1 ++ [(0, zb_min qz.2.2 (qy.2.2 - 1))], [(4, env.1.length, k, qy.2.1)] ++ env.2) nxt L (.inr (0, (env.1.length : Int), 0) :: r) D) else zb_st1 env nxt L (zb_rem qz qy :: r) D
  | _ => zb_st1 env nxt L (zb_rem qz qy :: r) D
noncomputable def zb_o11 (nxt : Nat) (env : zb_N) (L : zb_L) (st : List an_V) (D : zb_D) : zb_Rs := match st with
  | y :: z :: r => zb_bnd (zb_pi env z) fun qz => zb_bnd (zb_pi env y) fun qy => bif zb_not0 qy then zb_rn nxt env L r D qz qy else none
  | _ => none
noncomputable def zb_o12 (fl : Bool) (nxt : Nat) (env : zb_N) (L : zb_L) (st : List an_V) (D : zb_D) : zb_Rs := match st with
  | y :: r => zb_bnd (zb_pi env y) fun q => bif fl then zb_o12c nxt env L r D q else zb_st1 env nxt L (zb_neg q :: r) D
  | _ => none
noncomputable def zb_o13 (nxt : Nat) (env : zb_N) (L : zb_L) (st : List an_V) (D : zb_D) : zb_Rs := match st with
  | .inr (0, k, c) :: r => zb_st1 env nxt L (.inr (3, k, c) :: r) D
  | .inr (1, lo, hi) :: r => zb_st1 env nxt L (.inr (2, lo, hi) :: r) D
  | _ => none
noncomputable def zb_o14 (nxt : Nat) (env : zb_N) (L : zb_L) (st : List an_V) (D : zb_D) : zb_Rs := match st with
  | v :: r => zb_bnd (zb_pl env v) fun q => bif zb_fit q.2.1 q.2.2 then (match q.1 with
      | some (k, c) => zb_st1 env nxt L (.inr (0, (k : Int), c) :: r) D
      | none => zb_st1 env nxt L (.inr (1, q.2.1, q.2.2) :: r) D) else zb_st1 env nxt L (zb_top :: r) D
  | _ => none
noncomputable def zb_o15 (nxt : Nat) (env : zb_N) (L : zb_L) (st : List an_V) (D : zb_D) : zb_Rs := match st with
  | v :: r => bif zb_isI v then zb_st1 env nxt L (.inr (1, -128, 127) :: r) D else none
  | _ => none
noncomputable def zb_o16 (nxt : Nat) (env : zb_N) (L : zb_L) (st : List an_V) (D : zb_D) : zb_Rs := match st with
  | v :: r => bif zb_isI v then zb_st1 env nxt L (.inr (1, -32768, 32767) :: r) D else none
  | _ => none
noncomputable def zb_o17 (nxt : Nat) (env : zb_N) (L : zb_L) (st : List an_V) (D : zb_D) : zb_Rs := match st with
  | y :: z :: r => bif zb_isL y && zb_isL z then zb_st1 env nxt L (zb_topL :: r) D else none
  | _ => none
noncomputable def zb_o18 (nxt : Nat) (env : zb_N) (L : zb_L) (st : List an_V) (D : zb_D) : zb_Rs := match st with
  | y :: z :: r => bif zb_isI y && zb_isL z then zb_st1 env nxt L (zb_topL :: r) D else none
  | _ => none
noncomputable def zb_o19 (nxt : Nat) (env : zb_N) (L : zb_L) (st : List an_V) (D : zb_D) : zb_Rs := match st with
  | y :: z :: r => zb_bnd (zb_pl env z) fun qz => zb_bnd (zb_pl env y) fun qy =>
      some ((zb_ol true (zb_asl env qz qy (-1))).map (fun w => (w.2, nxt, L, .inr (1, -1, -1) :: r, D)) ++ ((zb_ol true (zb_aeq env qz qy)).map (fun w => (w.2, nxt, L, .inr (1, 0, 0) :: r, D)) ++ (zb_ol true (zb_asl env qy qz (-1))).map (fun w => (w.2, nxt, L, .inr (1, 1, 1) :: r, D))))
  | _ => none
noncomputable def zb_o20 (nxt : Nat) (env : zb_N) (L : zb_L) (st : List an_V) (D : zb_D) : zb_Rs := match st with
  | v :: r => bif Nat.beq (an_ct v) 1 then zb_st1 env nxt L (v :: v :: r) D else none
  | _ => none
noncomputable def zb_o21 (nxt : Nat) (env : zb_N) (L : zb_L) (st : List an_V) (D : zb_D) : zb_Rs := match st with
  | v :: w :: r => bif Nat.beq (an_ct v) 1 && Nat.beq (an_ct w) 1 then zb_st1 env nxt L (v :: w :: v :: r) D else none
  | _ => none
noncomputable def zb_o22 (nxt : Nat) (env : zb_N) (L : zb_L) (st : List an_V) (D : zb_D) : zb_Rs := match st with
  | v :: w :: r => bif Nat.beq (an_ct v) 1 && Nat.beq (an_ct w) 1 then zb_st1 env nxt L (v :: w :: v :: w :: r) D else none
  | _ => none
noncomputable def zb_o23 (nxt : Nat) (env : zb_N) (L : zb_L) (st : List an_V) (D : zb_D) : zb_Rs := match st with
  | v :: r => bif Nat.beq (an_ct v) 1 then zb_st1 env nxt L r D else none
  | _ => none
noncomputable def zb_o24 (nxt : Nat) (env : zb_N) (L : zb_L) (st : List an_V) (D : zb_D) : zb_Rs := match st with
  | v :: r => bif Nat.beq (an_ct v) 2 then zb_st1 env nxt L r D else none
  | _ => none
noncomputable def zb_o25 (b c nxt : Nat) (env : zb_N) (L : zb_L) (st : List an_V) (D : zb_D) : zb_Rs := match st with
  | y :: r => zb_bnd (zb_pi env y) fun q => some ((zb_cmp b env q (none, 0, 0)).map fun w => (w.2, (bif w.1 then c else nxt), L, r, D))
  | _ => none
noncomputable def zb_o26 (b c nxt : Nat) (env : zb_N) (L : zb_L) (st : List an_V) (D : zb_D) : zb_Rs := match st with
  | y :: z :: r => zb_bnd (zb_pi env z) fun qz => zb_bnd (zb_pi env y) fun qy => some ((zb_cmp b env qz qy).map fun w => (w.2, (bif w.1 then c else nxt), L, r, D))
  | _ => none
noncomputable def zb_o28 (c : Nat) (sw : List (Int × Nat)) (env : zb_N) (L : zb_L) (st : List an_V) (D : zb_D) : zb_Rs := match st with
  | y :: r => zb_bnd (zb_pi env y) fun q => some ((zb_sw q.1 c sw env q.2.1 q.2.2).map fun w => (w.2, w.1, L, r, D))
  | _ => none
/-- a value without names -/
def zb_ano : an_V → Bool
  | .inl _ => true
  | .inr (0, _, _) => false
  | .inr (3, _, _) => false
  | .inr _ => true
/-- what a field holds -/
noncomputable def zb_rd (D : zb_D) : zb_G → Option an_V
  | (0, s, _) => zb_nth D s
  | (_ + 1, _, v) => some v
noncomputable def zb_o29 (T : zb_T) (b c nxt : Nat) (env : zb_N) (L : zb_L) (st : List an_V) (D : zb_D) : zb_Rs := match st with
  | v :: r => bif zb_isR v then zb_bnd (zb_map (zb_fld T b c) (zb_mem v)) fun gs => zb_bnd (zb_map (zb_rd D) gs) fun vs => zb_bnd (zb_hull vs) fun w => zb_st1 env nxt L (w :: r) D else none
  | _ => none
/-- a value fits a field's type -/
noncomputable def zb_fty (env : zb_N) (ty : FieldType) (v : an_V) : Bool := match ty with
  | .int => zb_isI v
  | .boolean => (match zb_pi env v with
    | some q => zb_le 0 q.2.1 && zb_le q.2.2 1
    | none => false)
  | .object _ => zb_isR v
  | .array _ => zb_isR v
  | _ => false
noncomputable def zb_wr1 (env : zb_N) (v : an_V) : zb_G → Bool
  | (0, _, _) => false
  | (_ + 1, _, a) => zb_sub env v a
noncomputable def zb_o30 (T : zb_T) (wr : Nat → Bool) (b c nxt : Nat) (env : zb_N) (L : zb_L) (st : List an_V) (D : zb_D) : zb_Rs := match st with
  | v :: o :: r => bif zb_isR o && (zb_fty env (rf_fty b c) v && zb_every wr (zb_mem o)) then zb_bnd (zb_map (zb_fld T b c) (zb_mem o)) fun gs => (match gs with
      | [(0, s, _)] => zb_st1 env nxt L r (zb_upd D s v)
      | _ => bif zb_every (zb_wr1 env v) gs then zb_st1 env nxt L r D else none) else none
  | _ => none
noncomputable def zb_o31 (b nxt : Nat) (env : zb_N) (L : zb_L) (st : List an_V) (D : zb_D) : zb_Rs := zb_st1 env nxt L (.inl (.ref (1000000 + b)) :: st) D
/-- a row of that kind: its length, what fits -/
def zb_nc : an_V → Bool
  | .inr (9, _, _) => false
  | _ => true
def zb_row (T : zb_T) (k r : Nat) : Option (Nat × an_V) := match T r with
  | some (.inl (k', n, d)) => bif Nat.beq k k' && zb_nc d then some (n, d) else none
  | _ => none
def zb_ixs (q : zb_q) (n : Nat) : Bool := zb_le 0 q.2.1 && zb_le q.2.2 ((n : Int) - 1)
noncomputable def zb_rows (T : zb_T) (k : Nat) (q : zb_q) (v : an_V) : Option (List an_V) := bif zb_isR v then zb_map (fun r => match zb_row T k r with
  | some (n, d) => bif zb_ixs q n then some d else none
  | none => none) (zb_mem v) else none
/-- one of the class's own tables, the script (its length: number 0; the six from number 7 on: numbers 1 to 6) -/
noncomputable def zb_stat (sl : Bool) (env : zb_N) (q : zb_q) (j : Nat) : Option an_V := match j with
  | 0 => bif zb_ixs q 32 then (bif zb_sing q then some (.inr (1, (rf_bd q.2.1.toNat).toInt, (rf_bd q.2.1.toNat).toInt)) else some (.inr (1, 0, 81))) else none
  | 1 => bif zb_ixs q 8 then (bif zb_sing q then some (.inr (1, (rf_ab q.2.1.toNat).toInt, (rf_ab q.2.1.toNat).toInt)) else some (.inr (1, -1, 4))) else none
  | 2 => bif sl then (match q.1 with
    | some (k, c) => bif Nat.beq k 7 && (zb_le 0 c && zb_le c 5) then some (.inr (0, 1 + c, 0)) else none
    | none => none) else none
  | _ => none
/-- a row whose elements are scalars: its length, the first of them -/
def zb_cell (T : zb_T) (r : Nat) : Option (Nat × Nat) := match T r with
  | some (.inl (0, n, .inr (9, b, _))) => some (n, b.toNat)
  | _ => none
noncomputable def zb_cld (nxt : Nat) (env : zb_N) (L : zb_L) (r : List an_V) (D : zb_D) (q : zb_q) (n b : Nat) : zb_Rs := bif zb_ixs q n then (bif zb_sing q then (match zb_nth D (b + q.2.1.toNat) with
    | some w => zb_st1 env nxt L (w :: r) D
    | none => none) else (match q.1 with
    | some (k, c) => zb_map (fun w => match zb_nth D (b + (w.1 + c).toNat) with
      | some v => some (w.2, nxt, L, v :: r, D)
      | none => none) (zb_each env k (q.2.1 - c) (q.2.2 - q.2.1 + 1).toNat)
    | none => none)) else none
noncomputable def zb_cst (nxt : Nat) (env : zb_N) (L : zb_L) (r : List an_V) (D : zb_D) (q : zb_q) (n b : Nat) (v : an_V) : zb_Rs := bif zb_ixs q n then (bif zb_sing q then zb_st1 env nxt L r (zb_upd D (b + q.2.1.toNat) v) else (match q.1 with
    | some (k, c) => some ((zb_each env k (q.2.1 - c) (q.2.2 - q.2.1 + 1).toNat).map fun w => (w.2, nxt, L, r, zb_upd D (b + (w.1 + c).toNat) v))
    | none => none)) else none
noncomputable def zb_o32 (T : zb_T) (sl : Bool) (nxt : Nat) (env : zb_N) (L : zb_L) (st : List an_V) (D : zb_D) : zb_Rs := match st with
  | i :: o :: r => zb_bnd (zb_pi env i) fun q => (match o with
    | .inl (.ref r0) => bif rf_isS r0 then zb_bnd (zb_stat sl env q (rf_ix r0)) fun w => zb_st1 env nxt L (w :: r) D
        else (match zb_cell T r0 with
          | some (n, b) => zb_cld nxt env L r D q n b
          | none => zb_bnd (zb_rows T 0 q (.inl (.ref r0))) fun vs => zb_bnd (zb_hull vs) fun w => zb_st1 env nxt L (w :: r) D)
    | o => zb_bnd (zb_rows T 0 q o) fun vs => zb_bnd (zb_hull vs) fun w => zb_st1 env nxt L (w :: r) D)
  | _ => none
noncomputable def zb_o33 (T : zb_T) (wr : Nat → Bool) (ik : an_V → Bool) (k nxt : Nat) (env : zb_N) (L : zb_L) (st : List an_V) (D : zb_D) : zb_Rs := match st with
  | v :: i :: o :: r => zb_bnd (zb_pi env i) fun q => zb_bnd (zb_rows T k q o) fun vs => bif ik v && (zb_every (zb_sub env v) vs && zb_every wr (zb_mem o)) then zb_st1 env nxt L r D else none
  | _ => none
noncomputable def zb_o33c (T : zb_T) (wr : Nat → Bool) (nxt : Nat) (env : zb_N) (L : zb_L) (st : List an_V) (D : zb_D) : zb_Rs := match st with
  | v :: i :: .inl (.ref r0) :: r => (match zb_cell T r0 with
    | some (n, b) => zb_bnd (zb_pi env i) fun q => bif zb_isI v && wr r0 then zb_cst nxt env L r D q n b v else none
    | none => zb_o33 T wr zb_isI 0 nxt env L st D)
  | _ => zb_o33 T wr zb_isI 0 nxt env L st D
noncomputable def zb_o34 (T : zb_T) (k nxt : Nat) (env : zb_N) (L : zb_L) (st : List an_V) (D : zb_D) : zb_Rs := match st with
  | i :: o :: r => zb_bnd (zb_pi env i) fun q => zb_bnd (zb_rows T k q o) fun vs => zb_bnd (zb_hull vs) fun w => zb_st1 env nxt L (w :: r) D
  | _ => none
/-- the length of a row, and its kind below 3 -/
def zb_rlen (T : zb_T) (r : Nat) : Option Nat := match T r with
  | some (.inl (k, n, _)) => bif Nat.blt k 3 then some n else none
  | _ => none
noncomputable def zb_o38 (T : zb_T) (sl : Bool) (nxt : Nat) (env : zb_N) (L : zb_L) (st : List an_V) (D : zb_D) : zb_Rs := match st with
  | .inl (.ref r0) :: r => bif rf_isS r0 then (match rf_ix r0 with
      | 2 => bif sl then zb_st1 env nxt L (.inr (0, 0, 0) :: r) D else none
      | _ => none) else (match zb_rlen T r0 with
      | some n => bif zb_fit (n : Int) (n : Int) then zb_st1 env nxt L (.inr (1, (n : Int), (n : Int)) :: r) D else none
      | none => none)
  | o :: r => bif zb_isR o then zb_bnd (zb_map (zb_rlen T) (zb_mem o)) fun ns => (match ns with
      | n :: t => bif zb_every (fun m => Nat.beq m n) t && zb_fit (n : Int) (n : Int) then zb_st1 env nxt L (.inr (1, (n : Int), (n : Int)) :: r) D else none
      | [] => none) else none
  | _ => none
/-- n elements from one row to another -/
noncomputable def zb_cpk (T : zb_T) (wr : Nat → Bool) (fs : List zb_F) (k : Nat) (qn qd qs : zb_q) (o1 o0 : an_V) : Bool := match zb_map (zb_row T k) (zb_mem o0), zb_map (zb_row T k) (zb_mem o1) with
  | some s0, some s1 => zb_every (fun s => zb_sle fs qs qn ((s.1 : Nat) : Int)) s0 && (zb_every (fun d => zb_sle fs qd qn ((d.1 : Nat) : Int)) s1 && (zb_every (fun s => zb_every (fun d => zb_sub ([], []) s.2 d.2) s1) s0 && zb_every wr (zb_mem o1)))
  | _, _ => false
noncomputable def zb_o43 (T : zb_T) (wr : Nat → Bool) (nxt : Nat) (env : zb_N) (L : zb_L) (st : List an_V) (D : zb_D) : zb_Rs := match st with
  | n :: d :: o1 :: s :: o0 :: r => zb_bnd (zb_pi env n) fun qn => zb_bnd (zb_pi env d) fun qd => zb_bnd (zb_pi env s) fun qs =>
      bif zb_le 0 qn.2.1 && (zb_le 0 qd.2.1 && (zb_le 0 qs.2.1 && (Nat.ble (an_cat r) 8 && (zb_isR o0 && (zb_isR o1 && (zb_cpk T wr env.2 0 qn qd qs o1 o0 || zb_cpk T wr env.2 1 qn qd qs o1 o0)))))) then zb_st1 env nxt L r D else none
  | _ => none
noncomputable def zb_o44 (nxt : Nat) (env : zb_N) (L : zb_L) (st : List an_V) (D : zb_D) : zb_Rs := match st with
  | y :: z :: r => zb_bnd (zb_pi env z) fun qz => zb_bnd (zb_pi env y) fun qy => bif Nat.ble (an_cat r) 8 then zb_st1 env nxt L (.inr (1, zb_max qz.2.1 qy.2.1, zb_max qz.2.2 qy.2.2) :: r) D else none
  | _ => none
noncomputable def zb_o45 (nxt : Nat) (env : zb_N) (L : zb_L) (st : List an_V) (D : zb_D) : zb_Rs := match st with
  | y :: z :: r => zb_bnd (zb_pi env z) fun qz => zb_bnd (zb_pi env y) fun qy => bif Nat.ble (an_cat r) 8 then zb_st1 env nxt L (.inr (1, zb_min qz.2.1 qy.2.1, zb_min qz.2.2 qy.2.2) :: r) D else none
  | _ => none
