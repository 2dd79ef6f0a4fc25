/-! a run over boxes: values that are known, or inputs, or lie between two numbers; a branch that is open goes both ways -/
abbrev an_V : Type := Value ⊕ (Nat × Int × Int)
abbrev an_O : Type := (Nat × Nat × an_V × List (Nat × an_V)) ⊕ (Nat × List an_V)
abbrev an_S : Type := List an_O
abbrev an_N : Type := List (Int × Int)
abbrev an_L : Type := List (Nat × an_V)
/-- env, place, locals, stack, store, cells, slots -/
abbrev an_C : Type := an_N × Nat × an_L × List an_V × an_S × Nat × Nat
def an_lo32 : Int := -2147483648
def an_hi32 : Int := 2147483647
def an_lo64 : Int := -9223372036854775808
def an_hi64 : Int := 9223372036854775807
/-- an int: the input that it is (or none), the bounds -/
def an_pi (env : an_N) : an_V → Option (Option Nat × Int × Int)
  | .inl (.int x) => some (none, x.toInt, x.toInt)
  | .inr (0, k, _) => (env[k.toNat]?).map fun q => (some k.toNat, q.1, q.2)
  | .inr (1, lo, hi) => some (none, lo, hi)
  | _ => none
def an_pl (env : an_N) : an_V → Option (Option Nat × Int × Int)
  | .inl (.long x) => some (none, x.toInt, x.toInt)
  | .inr (3, k, _) => (env[k.toNat]?).map fun q => (some k.toNat, q.1, q.2)
  | .inr (2, lo, hi) => some (none, lo, hi)
  | _ => none
/-- the env with narrower bounds; none: nothing is left -/
def an_nar (env : an_N) (k : Option Nat) (lo hi : Int) : Option an_N := bif decide (hi < lo) then none else match k with
  | none => some env
  | some k => some (env.set k (lo, hi))
def an_max (a b : Int) : Int := bif decide (a < b) then b else a
def an_min (a b : Int) : Int := bif decide (a < b) then a else b
def an_LT (env : an_N) (x y : Option Nat × Int × Int) : List an_N := match an_nar env x.1 x.2.1 (an_min x.2.2 (y.2.2 - 1)) with
  | none => []
  | some e1 => (match y.1 with
    | none => [e1]
    | some k => bif decide (x.1 = some k) then [e1] else (match an_nar e1 (some k) (an_max y.2.1 (x.2.1 + 1)) y.2.2 with
      | none => []
      | some e2 => [e2]))
def an_LE (env : an_N) (x y : Option Nat × Int × Int) : List an_N := match an_nar env x.1 x.2.1 (an_min x.2.2 y.2.2) with
  | none => []
  | some e1 => (match y.1 with
    | none => [e1]
    | some k => bif decide (x.1 = some k) then [e1] else (match an_nar e1 (some k) (an_max y.2.1 x.2.1) y.2.2 with
      | none => []
      | some e2 => [e2]))
def an_EQ (env : an_N) (x y : Option Nat × Int × Int) : List an_N := match an_nar env x.1 (an_max x.2.1 y.2.1) (an_min x.2.2 y.2.2) with
  | none => []
  | some e1 => (match y.1 with
    | none => [e1]
    | some k => bif decide (x.1 = some k) then [e1] else (match an_nar e1 (some k) (an_max x.2.1 y.2.1) (an_min x.2.2 y.2.2) with
      | none => []
      | some e2 => [e2]))
/-- the ways of a comparison -/
def an_cmp (b : Nat) (env : an_N) (x y : Option Nat × Int × Int) : List (Bool × an_N) := match b with
  | 0 => (an_EQ env x y).map (true, ·) ++ ((an_LT env x y).map (false, ·) ++ (an_LT env y x).map (false, ·))
  | 1 => (an_EQ env x y).map (false, ·) ++ ((an_LT env x y).map (true, ·) ++ (an_LT env y x).map (true, ·))
  | 2 => (an_LT env x y).map (true, ·) ++ (an_LE env y x).map (false, ·)
  | 3 => (an_LE env y x).map (true, ·) ++ (an_LT env x y).map (false, ·)
  | 4 => (an_LT env y x).map (true, ·) ++ (an_LE env x y).map (false, ·)
  | _ => (an_LE env x y).map (true, ·) ++ (an_LT env y x).map (false, ·)
def an_iv (lo hi : Int) : an_V := bif decide (an_lo32 ≤ lo) && decide (hi ≤ an_hi32) then .inr (1, lo, hi) else .inr (1, an_lo32, an_hi32)
def an_bin (b : Nat) (x y : Option Nat × Int × Int) : an_V := match b with
  | 0 => an_iv (x.2.1 + y.2.1) (x.2.2 + y.2.2)
  | 1 => an_iv (x.2.1 - y.2.2) (x.2.2 - y.2.1)
  | 3 => bif decide (0 ≤ y.2.1) then .inr (1, 0, y.2.2) else .inr (1, an_lo32, an_hi32)
  | _ => .inr (1, an_lo32, an_hi32)
def an_sw (env : an_N) (k : Option Nat) (lo hi : Int) (d : Nat) : List (Int × Nat) → List (Nat × an_N)
  | [] => (match an_nar env k lo hi with
    | none => []
    | some e => [(d, e)])
  | (a, t) :: r => (match an_nar env k (an_max lo a) (an_min hi a) with
    | none => []
    | some e => [(t, e)]) ++ ((bif decide (an_min hi (a - 1) < lo) then [] else an_sw env k lo (an_min hi (a - 1)) d r) ++ (bif decide (hi < an_max lo (a + 1)) then [] else an_sw env k (an_max lo (a + 1)) hi d r))
def an_get (L : an_L) (i : Nat) : Option an_V := (L.find? (fun q => q.1 == i)).map (·.2)
def an_ct : an_V → Nat
  | .inl v => v.category
  | .inr (2, _, _) => 2
  | .inr (3, _, _) => 2
  | _ => 1
/-- a value that takes part as a known number of slots -/
def an_good : an_V → Bool
  | .inl _ => true
  | .inr (k, _, _) => Nat.blt k 4
def an_set (L : an_L) (i : Nat) (v : an_V) : an_L := (i, v) :: L.filter (fun q => !(q.1 == i) && !(q.1 + 1 == i && an_ct q.2 == 2))
def an_cat (st : List an_V) : Nat := (st.map an_ct).sum
def an_isI : an_V → Bool
  | .inl (.int _) => true
  | .inr (0, _, _) => true
  | .inr (1, _, _) => true
  | _ => false
def an_isL : an_V → Bool
  | .inl (.long _) => true
  | .inr (2, _, _) => true
  | .inr (3, _, _) => true
  | _ => false
def an_fit : FieldType → an_V → Bool
  | ty, .inl v => rf_fit ty v
  | .int, .inr (k, _, _) => Nat.blt k 2
  | _, _ => false
def an_at (d : an_V) (ups : List (Nat × an_V)) (j : Nat) : an_V := match ups.find? (fun q => Nat.beq q.1 j) with
  | some q => q.2
  | none => d
def an_eV : an_V → an_V → Bool
  | .inl a, .inl b => decide (a = b)
  | .inr a, .inr b => decide (a = b)
  | _, _ => false
/-- what stands there already isn't written again -/
def an_up (d : an_V) (ups : List (Nat × an_V)) (j : Nat) (v : an_V) : List (Nat × an_V) := bif an_eV (an_at d ups j) v then ups else (j, v) :: ups.filter (fun q => !Nat.beq q.1 j)
def an_wa (σ : an_S) (r0 k n : Nat) (d : an_V) (ups : List (Nat × an_V)) (j : Nat) (v : an_V) : an_S := bif an_eV (an_at d ups j) v then σ else σ.set r0 (.inl (k, n, d, an_up d ups j v))
def an_wf (σ : an_S) (r0 b : Nat) (fs : List an_V) (c : Nat) (v : an_V) : an_S := match fs[c]? with
  | some w => bif an_eV w v then σ else σ.set r0 (.inr (b, fs.set c v))
  | none => σ.set r0 (.inr (b, fs.set c v))
def an_wc (σ : an_S) (r1 k n : Nat) (d : an_V) (u res : List (Nat × an_V)) : an_S := bif u.isEmpty && res.isEmpty then σ else σ.set r1 (.inl (k, n, d, res))
/-- n cells from one array into another -/
def an_cp (d0 : an_V) (u0 : List (Nat × an_V)) (sp dp : Nat) (d1 : an_V) : Nat → List (Nat × an_V) → List (Nat × an_V)
  | 0, u1 => u1
  | n + 1, u1 => an_up d1 (an_cp d0 u0 sp dp d1 n u1) (dp + n) (an_at d0 u0 (sp + n))
def an_SA (L : Nat) (r i : Nat) : Option an_V := match r with
  | 0 => bif Nat.blt i 32 then some (.inl (.int (rf_bd i))) else none
  | 1 => bif Nat.blt i 8 then some (.inl (.int (rf_ab i))) else none
  | _ => none
def an_Sn (L : Nat) (r : Nat) : Option Nat := match r with
  | 0 => some 32
  | 1 => some 8
  | _ => none
/-- all ways: each must come to an end -/
def an_all {α β : Type} (f : α → Option (List β)) : List α → Option (List β)
  | [] => some []
  | x :: r => match f x with
    | none => none
    | some a => (match an_all f r with
      | none => none
      | some b => some (a ++ b))
/-- an int of which one value is left is that value -/
def an_cv (env : an_N) (v : an_V) : an_V := match an_pi env v with
  | some q => bif decide (q.2.1 = q.2.2) then .inl (.int (Int32.ofInt q.2.1)) else v
  | none => v
/-- an input that has few values left, one by one (n of them, from lo on) -/
def an_each (env : an_N) (k : Nat) (lo : Int) : Nat → List (an_N × Int32)
  | 0 => []
  | n + 1 => (env.set k (lo, lo), Int32.ofInt lo) :: an_each env k (lo + 1) n
def an_few (env : an_N) (v : an_V) : Option (List (an_N × Int32)) := match v with
  | .inl (.int i) => some [(env, i)]
  | .inr (0, k, _) => (match env[k.toNat]? with
    | some q => bif decide (q.1 ≤ q.2) && decide (q.2 ≤ q.1 + 20) then some (an_each env k.toNat q.1 (q.2 - q.1 + 1).toNat) else none
    | none => none)
  | _ => none
/-- an int out of a row -/
def an_ld (LL nxt : Nat) (L : an_L) (r : List an_V) (σ : an_S) (r0 : Nat) (w : an_N × Int32) : Option (List (an_N × Nat × an_L × List an_V × an_S)) :=
  bif decide (w.2 < 0) then none else bif rf_isS r0 then (match an_SA LL (rf_ix r0) w.2.toNatClampNeg with
        | some v => some [(w.1, nxt, L, v :: r, σ)]
        | none => none) else (match σ[r0]? with
      | some (.inl (0, n, d, ups)) => bif Nat.blt w.2.toNatClampNeg n then some [(w.1, nxt, L, an_at d ups w.2.toNatClampNeg :: r, σ)] else none
      | _ => none)
def an_p0 (LL : Nat) (a : Int) (b c x nxt : Nat) (sw : List (Int × Nat)) (env : an_N) (L : an_L) (st : List an_V) (σ : an_S) : Option (List (an_N × Nat × an_L × List an_V × an_S)) := some [(env, nxt, L, .inl (.int (Int32.ofInt a)) :: st, σ)]
def an_p1 (LL : Nat) (a : Int) (b c x nxt : Nat) (sw : List (Int × Nat)) (env : an_N) (L : an_L) (st : List an_V) (σ : an_S) : Option (List (an_N × Nat × an_L × List an_V × an_S)) := some [(env, nxt, L, .inl (.long (Int64.ofInt a)) :: st, σ)]
def an_p2 (LL : Nat) (a : Int) (b c x nxt : Nat) (sw : List (Int × Nat)) (env : an_N) (L : an_L) (st : List an_V) (σ : an_S) : Option (List (an_N × Nat × an_L × List an_V × an_S)) := match an_get L b with
    | some v => bif an_isI v then some [(env, nxt, L, an_cv env v :: st, σ)] else none
    | none => none
def an_p3 (LL : Nat) (a : Int) (b c x nxt : Nat) (sw : List (Int × Nat)) (env : an_N) (L : an_L) (st : List an_V) (σ : an_S) : Option (List (an_N × Nat × an_L × List an_V × an_S)) := match an_get L b with
    | some v => bif an_isL v then some [(env, nxt, L, v :: st, σ)] else none
    | none => none
def an_p4 (LL : Nat) (a : Int) (b c x nxt : Nat) (sw : List (Int × Nat)) (env : an_N) (L : an_L) (st : List an_V) (σ : an_S) : Option (List (an_N × Nat × an_L × List an_V × an_S)) := match an_get L b with
    | some (.inl (.ref v)) => some [(env, nxt, L, .inl (.ref v) :: st, σ)]
    | _ => none
def an_p5 (LL : Nat) (a : Int) (b c x nxt : Nat) (sw : List (Int × Nat)) (env : an_N) (L : an_L) (st : List an_V) (σ : an_S) : Option (List (an_N × Nat × an_L × List an_V × an_S)) := match st with
    | v :: r => bif an_isI v then some [(env, nxt, an_set L b v, r, σ)] else none
    | _ => none
def an_p6 (LL : Nat) (a : Int) (b c x nxt : Nat) (sw : List (Int × Nat)) (env : an_N) (L : an_L) (st : List an_V) (σ : an_S) : Option (List (an_N × Nat × an_L × List an_V × an_S)) := match st with
    | .inl (.ref v) :: r => some [(env, nxt, an_set L b (.inl (.ref v)), r, σ)]
    | _ => none
def an_p7 (LL : Nat) (a : Int) (b c x nxt : Nat) (sw : List (Int × Nat)) (env : an_N) (L : an_L) (st : List an_V) (σ : an_S) : Option (List (an_N × Nat × an_L × List an_V × an_S)) := none
def an_p8 (LL : Nat) (a : Int) (b c x nxt : Nat) (sw : List (Int × Nat)) (env : an_N) (L : an_L) (st : List an_V) (σ : an_S) : Option (List (an_N × Nat × an_L × List an_V × an_S)) := match an_get L b with
    | some (.inl (.int v)) => some [(env, nxt, an_set L b (.inl (.int (v + Int32.ofInt a))), st, σ)]
    | _ => none
def an_p9 (LL : Nat) (a : Int) (b c x nxt : Nat) (sw : List (Int × Nat)) (env : an_N) (L : an_L) (st : List an_V) (σ : an_S) : Option (List (an_N × Nat × an_L × List an_V × an_S)) := match st with
    | .inl (.int y) :: .inl (.int z) :: r => some [(env, nxt, L, .inl (.int (rf_bin b z y)) :: r, σ)]
    | y :: z :: r => (match an_pi env z, an_pi env y with
      | some qz, some qy => some [(env, nxt, L, an_bin b qz qy :: r, σ)]
      | _, _ => none)
    | _ => none
def an_p10 (LL : Nat) (a : Int) (b c x nxt : Nat) (sw : List (Int × Nat)) (env : an_N) (L : an_L) (st : List an_V) (σ : an_S) : Option (List (an_N × Nat × an_L × List an_V × an_S)) := match st with
    | .inl (.int y) :: .inl (.int z) :: r => bif decide (y = 0) then none else some [(env, nxt, L, .inl (.int (z / y)) :: r, σ)]
    | .inl (.int y) :: z :: r => bif decide (0 < y.toInt) then (match an_pi env z with
      | some qz => bif decide (0 ≤ qz.2.1) then some [(env, nxt, L, .inr (1, 0, qz.2.2) :: r, σ)] else some [(env, nxt, L, .inr (1, an_lo32, an_hi32) :: r, σ)]
      | none => none) else none
    | _ => none
def an_p11 (LL : Nat) (a : Int) (b c x nxt : Nat) (sw : List (Int × Nat)) (env : an_N) (L : an_L) (st : List an_V) (σ : an_S) : Option (List (an_N × Nat × an_L × List an_V × an_S)) := match st with
    | .inl (.int y) :: .inl (.int z) :: r => bif decide (y = 0) then none else some [(env, nxt, L, .inl (.int (z - z / y * y)) :: r, σ)]
    | .inl (.int y) :: z :: r => bif decide (0 < y.toInt) then (match an_pi env z with
      | some _ => some [(env, nxt, L, .inr (1, an_lo32, an_hi32) :: r, σ)]
      | none => none) else none
    | _ => none
def an_p12 (LL : Nat) (a : Int) (b c x nxt : Nat) (sw : List (Int × Nat)) (env : an_N) (L : an_L) (st : List an_V) (σ : an_S) : Option (List (an_N × Nat × an_L × List an_V × an_S)) := match st with
    | .inl (.int y) :: r => some [(env, nxt, L, .inl (.int (-y)) :: r, σ)]
    | v :: r => bif an_isI v then some [(env, nxt, L, .inr (1, an_lo32, an_hi32) :: r, σ)] else none
    | _ => none
def an_p13 (LL : Nat) (a : Int) (b c x nxt : Nat) (sw : List (Int × Nat)) (env : an_N) (L : an_L) (st : List an_V) (σ : an_S) : Option (List (an_N × Nat × an_L × List an_V × an_S)) := match st with
    | .inl (.int y) :: r => some [(env, nxt, L, .inl (.long y.toInt64) :: r, σ)]
    | .inr (0, k, _) :: r => some [(env, nxt, L, .inr (3, k, 0) :: r, σ)]
    | .inr (1, lo, hi) :: r => some [(env, nxt, L, .inr (2, lo, hi) :: r, σ)]
    | _ => none
def an_p14 (LL : Nat) (a : Int) (b c x nxt : Nat) (sw : List (Int × Nat)) (env : an_N) (L : an_L) (st : List an_V) (σ : an_S) : Option (List (an_N × Nat × an_L × List an_V × an_S)) := match st with
    | .inl (.long y) :: r => some [(env, nxt, L, .inl (.int y.toInt32) :: r, σ)]
    | v :: r => bif an_isL v then some [(env, nxt, L, .inr (1, an_lo32, an_hi32) :: r, σ)] else none
    | _ => none
def an_p15 (LL : Nat) (a : Int) (b c x nxt : Nat) (sw : List (Int × Nat)) (env : an_N) (L : an_L) (st : List an_V) (σ : an_S) : Option (List (an_N × Nat × an_L × List an_V × an_S)) := match st with
    | .inl (.int y) :: r => some [(env, nxt, L, .inl (.int y.toInt8.toInt32) :: r, σ)]
    | v :: r => bif an_isI v then some [(env, nxt, L, .inr (1, an_lo32, an_hi32) :: r, σ)] else none
    | _ => none
def an_p16 (LL : Nat) (a : Int) (b c x nxt : Nat) (sw : List (Int × Nat)) (env : an_N) (L : an_L) (st : List an_V) (σ : an_S) : Option (List (an_N × Nat × an_L × List an_V × an_S)) := match st with
    | .inl (.int y) :: r => some [(env, nxt, L, .inl (.int y.toInt16.toInt32) :: r, σ)]
    | v :: r => bif an_isI v then some [(env, nxt, L, .inr (1, an_lo32, an_hi32) :: r, σ)] else none
    | _ => none
def an_p17 (LL : Nat) (a : Int) (b c x nxt : Nat) (sw : List (Int × Nat)) (env : an_N) (L : an_L) (st : List an_V) (σ : an_S) : Option (List (an_N × Nat × an_L × List an_V × an_S)) := match st with
    | y :: z :: r => bif an_isL y && an_isL z then some [(env, nxt, L, .inr (2, an_lo64, an_hi64) :: r, σ)] else none
    | _ => none
def an_p18 (LL : Nat) (a : Int) (b c x nxt : Nat) (sw : List (Int × Nat)) (env : an_N) (L : an_L) (st : List an_V) (σ : an_S) : Option (List (an_N × Nat × an_L × List an_V × an_S)) := match st with
    | y :: z :: r => bif an_isI y && an_isL z then some [(env, nxt, L, .inr (2, an_lo64, an_hi64) :: r, σ)] else none
    | _ => none
def an_p19 (LL : Nat) (a : Int) (b c x nxt : Nat) (sw : List (Int × Nat)) (env : an_N) (L : an_L) (st : List an_V) (σ : an_S) : Option (List (an_N × Nat × an_L × List an_V × an_S)) := match st with
    | y :: z :: r => (match an_pl env z, an_pl env y with
      | some qz, some qy => some ((an_LT env qy qz).map (fun e => (e, nxt, L, .inl (.int 1) :: r, σ)) ++ ((an_EQ env qz qy).map (fun e => (e, nxt, L, .inl (.int 0) :: r, σ)) ++ (an_LT env qz qy).map (fun e => (e, nxt, L, .inl (.int (-1)) :: r, σ))))
      | _, _ => none)
    | _ => none
def an_p20 (LL : Nat) (a : Int) (b c x nxt : Nat) (sw : List (Int × Nat)) (env : an_N) (L : an_L) (st : List an_V) (σ : an_S) : Option (List (an_N × Nat × an_L × List an_V × an_S)) := match st with
    | v :: r => bif an_ct v == 1 && an_good v then some [(env, nxt, L, v :: v :: r, σ)] else none
    | _ => none
def an_p21 (LL : Nat) (a : Int) (b c x nxt : Nat) (sw : List (Int × Nat)) (env : an_N) (L : an_L) (st : List an_V) (σ : an_S) : Option (List (an_N × Nat × an_L × List an_V × an_S)) := match st with
    | v :: w :: r => bif (an_ct v == 1 && an_good v) && (an_ct w == 1 && an_good w) then some [(env, nxt, L, v :: w :: v :: r, σ)] else none
    | _ => none
def an_p22 (LL : Nat) (a : Int) (b c x nxt : Nat) (sw : List (Int × Nat)) (env : an_N) (L : an_L) (st : List an_V) (σ : an_S) : Option (List (an_N × Nat × an_L × List an_V × an_S)) := match st with
    | v :: w :: r => bif (an_ct v == 1 && an_good v) && (an_ct w == 1 && an_good w) then some [(env, nxt, L, v :: w :: v :: w :: r, σ)] else none
    | _ => none
def an_p23 (LL : Nat) (a : Int) (b c x nxt : Nat) (sw : List (Int × Nat)) (env : an_N) (L : an_L) (st : List an_V) (σ : an_S) : Option (List (an_N × Nat × an_L × List an_V × an_S)) := match st with
    | v :: r => bif an_ct v == 1 && an_good v then some [(env, nxt, L, r, σ)] else none
    | _ => none
def an_p24 (LL : Nat) (a : Int) (b c x nxt : Nat) (sw : List (Int × Nat)) (env : an_N) (L : an_L) (st : List an_V) (σ : an_S) : Option (List (an_N × Nat × an_L × List an_V × an_S)) := match st with
    | v :: r => bif an_ct v == 2 && an_good v then some [(env, nxt, L, r, σ)] else none
    | _ => none
def an_p25 (LL : Nat) (a : Int) (b c x nxt : Nat) (sw : List (Int × Nat)) (env : an_N) (L : an_L) (st : List an_V) (σ : an_S) : Option (List (an_N × Nat × an_L × List an_V × an_S)) := match st with
    | y :: r => (match an_pi env y with
      | some q => some ((an_cmp b env q (none, 0, 0)).map fun w => (w.2, (bif w.1 then c else nxt), L, r, σ))
      | none => none)
    | _ => none
def an_p26 (LL : Nat) (a : Int) (b c x nxt : Nat) (sw : List (Int × Nat)) (env : an_N) (L : an_L) (st : List an_V) (σ : an_S) : Option (List (an_N × Nat × an_L × List an_V × an_S)) := match st with
    | y :: z :: r => (match an_pi env z, an_pi env y with
      | some qz, some qy => some ((an_cmp b env qz qy).map fun w => (w.2, (bif w.1 then c else nxt), L, r, σ))
      | _, _ => none)
    | _ => none
def an_p27 (LL : Nat) (a : Int) (b c x nxt : Nat) (sw : List (Int × Nat)) (env : an_N) (L : an_L) (st : List an_V) (σ : an_S) : Option (List (an_N × Nat × an_L × List an_V × an_S)) := some [(env, c, L, st, σ)]
def an_p28 (LL : Nat) (a : Int) (b c x nxt : Nat) (sw : List (Int × Nat)) (env : an_N) (L : an_L) (st : List an_V) (σ : an_S) : Option (List (an_N × Nat × an_L × List an_V × an_S)) := match st with
    | .inl (.int y) :: r => some [(env, rf_sw sw c y.toInt, L, r, σ)]
    | y :: r => (match an_pi env y with
      | some q => some ((an_sw env q.1 q.2.1 q.2.2 c sw).map fun w => (w.2, w.1, L, r, σ))
      | none => none)
    | _ => none
def an_p29 (LL : Nat) (a : Int) (b c x nxt : Nat) (sw : List (Int × Nat)) (env : an_N) (L : an_L) (st : List an_V) (σ : an_S) : Option (List (an_N × Nat × an_L × List an_V × an_S)) := match st with
    | .inl (.ref r0) :: r => match σ[r0]? with
      | some (.inr (ci, fs)) => bif Nat.beq ci b then (match fs[c]? with
        | some v => some [(env, nxt, L, v :: r, σ)]
        | none => none) else none
      | _ => none
    | _ => none
def an_p30 (LL : Nat) (a : Int) (b c x nxt : Nat) (sw : List (Int × Nat)) (env : an_N) (L : an_L) (st : List an_V) (σ : an_S) : Option (List (an_N × Nat × an_L × List an_V × an_S)) := match st with
    | v :: .inl (.ref r0) :: r => match σ[r0]? with
      | some (.inr (ci, fs)) => bif Nat.beq ci b && an_fit (rf_fty b c) v && Nat.blt c fs.length then some [(env, nxt, L, r, an_wf σ r0 b fs c v)] else none
      | _ => none
    | _ => none
def an_p31 (LL : Nat) (a : Int) (b c x nxt : Nat) (sw : List (Int × Nat)) (env : an_N) (L : an_L) (st : List an_V) (σ : an_S) : Option (List (an_N × Nat × an_L × List an_V × an_S)) := some [(env, nxt, L, .inl (.ref (1000000 + b)) :: st, σ)]
def an_p32 (LL : Nat) (a : Int) (b c x nxt : Nat) (sw : List (Int × Nat)) (env : an_N) (L : an_L) (st : List an_V) (σ : an_S) : Option (List (an_N × Nat × an_L × List an_V × an_S)) := match st with
    | iv :: .inl (.ref r0) :: r => (match an_few env iv with
      | none => none
      | some is => an_all (an_ld LL nxt L r σ r0) is)
    | _ => none
def an_p33 (LL : Nat) (a : Int) (b c x nxt : Nat) (sw : List (Int × Nat)) (env : an_N) (L : an_L) (st : List an_V) (σ : an_S) : Option (List (an_N × Nat × an_L × List an_V × an_S)) := match st with
    | v :: iv :: .inl (.ref r0) :: r => (match an_few env iv, σ[r0]? with
      | some is, some (.inl (0, n, d, ups)) => an_all (fun (w : an_N × Int32) => bif rf_ixs w.2 n && an_isI v then some [(w.1, nxt, L, r, an_wa σ r0 0 n d ups w.2.toNatClampNeg v)] else none) is
      | _, _ => none)
    | _ => none
def an_p34 (LL : Nat) (a : Int) (b c x nxt : Nat) (sw : List (Int × Nat)) (env : an_N) (L : an_L) (st : List an_V) (σ : an_S) : Option (List (an_N × Nat × an_L × List an_V × an_S)) := match st with
    | .inl (.int i) :: .inl (.ref r0) :: r => match σ[r0]? with
      | some (.inl (1, n, d, ups)) => bif rf_ixs i n then some [(env, nxt, L, an_at d ups i.toNatClampNeg :: r, σ)] else none
      | _ => none
    | _ => none
def an_p35 (LL : Nat) (a : Int) (b c x nxt : Nat) (sw : List (Int × Nat)) (env : an_N) (L : an_L) (st : List an_V) (σ : an_S) : Option (List (an_N × Nat × an_L × List an_V × an_S)) := match st with
    | v :: .inl (.int i) :: .inl (.ref r0) :: r => match σ[r0]? with
      | some (.inl (1, n, d, ups)) => bif rf_ixs i n && an_isL v then some [(env, nxt, L, r, an_wa σ r0 1 n d ups i.toNatClampNeg v)] else none
      | _ => none
    | _ => none
def an_p36 (LL : Nat) (a : Int) (b c x nxt : Nat) (sw : List (Int × Nat)) (env : an_N) (L : an_L) (st : List an_V) (σ : an_S) : Option (List (an_N × Nat × an_L × List an_V × an_S)) := match st with
    | .inl (.int i) :: .inl (.ref r0) :: r => match σ[r0]? with
      | some (.inl (2, n, d, ups)) => bif rf_ixs i n then (match an_at d ups i.toNatClampNeg with
        | .inl (.ref q) => some [(env, nxt, L, .inl (.ref q) :: r, σ)]
        | _ => none) else none
      | _ => none
    | _ => none
def an_p37 (LL : Nat) (a : Int) (b c x nxt : Nat) (sw : List (Int × Nat)) (env : an_N) (L : an_L) (st : List an_V) (σ : an_S) : Option (List (an_N × Nat × an_L × List an_V × an_S)) := match st with
    | .inl (.ref v) :: .inl (.int i) :: .inl (.ref r0) :: r => match σ[r0]?, σ[v]? with
      | some (.inl (2, n, d, ups)), some (.inr (5, _)) => bif rf_ixs i n then some [(env, nxt, L, r, an_wa σ r0 2 n d ups i.toNatClampNeg (.inl (.ref v)))] else none
      | _, _ => none
    | _ => none
def an_p38 (LL : Nat) (a : Int) (b c x nxt : Nat) (sw : List (Int × Nat)) (env : an_N) (L : an_L) (st : List an_V) (σ : an_S) : Option (List (an_N × Nat × an_L × List an_V × an_S)) := match st with
    | .inl (.ref r0) :: r => bif rf_isS r0 then (match an_Sn LL (rf_ix r0) with
        | some n => some [(env, nxt, L, .inl (.int (Int32.ofNat n)) :: r, σ)]
        | none => none) else (match σ[r0]? with
      | some (.inl (k, n, _, _)) => bif Nat.blt k 3 then some [(env, nxt, L, .inl (.int (Int32.ofNat n)) :: r, σ)] else none
      | _ => none)
    | _ => none
def an_p39 (LL : Nat) (a : Int) (b c x nxt : Nat) (sw : List (Int × Nat)) (env : an_N) (L : an_L) (st : List an_V) (σ : an_S) : Option (List (an_N × Nat × an_L × List an_V × an_S)) := none
def an_p40 (LL : Nat) (a : Int) (b c x nxt : Nat) (sw : List (Int × Nat)) (env : an_N) (L : an_L) (st : List an_V) (σ : an_S) : Option (List (an_N × Nat × an_L × List an_V × an_S)) := none
def an_p41 (LL : Nat) (a : Int) (b c x nxt : Nat) (sw : List (Int × Nat)) (env : an_N) (L : an_L) (st : List an_V) (σ : an_S) : Option (List (an_N × Nat × an_L × List an_V × an_S)) := none
def an_p42 (LL : Nat) (a : Int) (b c x nxt : Nat) (sw : List (Int × Nat)) (env : an_N) (L : an_L) (st : List an_V) (σ : an_S) : Option (List (an_N × Nat × an_L × List an_V × an_S)) := match st with
    | .inl (.ref _) :: r => bif Nat.ble (an_cat r) 8 && r.all an_good then some [(env, nxt, L, r, σ)] else none
    | _ => none
def an_p43 (LL : Nat) (a : Int) (b c x nxt : Nat) (sw : List (Int × Nat)) (env : an_N) (L : an_L) (st : List an_V) (σ : an_S) : Option (List (an_N × Nat × an_L × List an_V × an_S)) := match st with
    | .inl (.int n) :: .inl (.int dp) :: .inl (.ref r1) :: .inl (.int sp) :: .inl (.ref r0) :: r =>
      bif decide (¬ n < 0) && decide (¬ dp < 0) && decide (¬ sp < 0) && (Nat.ble (an_cat r) 8 && r.all an_good) then (match σ[r0]?, σ[r1]? with
        | some (.inl (0, n0, d0, u0)), some (.inl (0, n1, d1, u1)) => bif Nat.ble (sp.toNatClampNeg + n.toNatClampNeg) n0 && Nat.ble (dp.toNatClampNeg + n.toNatClampNeg) n1 then some [(env, nxt, L, r, an_wc σ r1 0 n1 d1 u1 (an_cp d0 u0 sp.toNatClampNeg dp.toNatClampNeg d1 n.toNatClampNeg u1))] else none
        | some (.inl (1, n0, d0, u0)), some (.inl (1, n1, d1, u1)) => bif Nat.ble (sp.toNatClampNeg + n.toNatClampNeg) n0 && Nat.ble (dp.toNatClampNeg + n.toNatClampNeg) n1 then some [(env, nxt, L, r, an_wc σ r1 1 n1 d1 u1 (an_cp d0 u0 sp.toNatClampNeg dp.toNatClampNeg d1 n.toNatClampNeg u1))] else none
        | _, _ => none) else none
    | _ => none
def an_p44 (LL : Nat) (a : Int) (b c x nxt : Nat) (sw : List (Int × Nat)) (env : an_N) (L : an_L) (st : List an_V) (σ : an_S) : Option (List (an_N × Nat × an_L × List an_V × an_S)) := match st with
    | .inl (.int y) :: .inl (.int z) :: r => bif Nat.ble (an_cat r) 8 && r.all an_good then some [(env, nxt, L, .inl (.int (if z < y then y else z)) :: r, σ)] else none
    | _ => none
def an_p45 (LL : Nat) (a : Int) (b c x nxt : Nat) (sw : List (Int × Nat)) (env : an_N) (L : an_L) (st : List an_V) (σ : an_S) : Option (List (an_N × Nat × an_L × List an_V × an_S)) := match st with
    | .inl (.int y) :: .inl (.int z) :: r => bif Nat.ble (an_cat r) 8 && r.all an_good then some [(env, nxt, L, .inl (.int (if y < z then y else z)) :: r, σ)] else none
    | _ => none
def an_q0 (op : Nat) (LL : Nat) (a : Int) (b c x nxt : Nat) (sw : List (Int × Nat)) (env : an_N) (L : an_L) (st : List an_V) (σ : an_S) : Option (List (an_N × Nat × an_L × List an_V × an_S)) := bif Nat.blt op 3 then (bif Nat.blt op 1 then (an_p0 LL a b c x nxt sw env L st σ) else (bif Nat.blt op 2 then (an_p1 LL a b c x nxt sw env L st σ) else (an_p2 LL a b c x nxt sw env L st σ))) else (bif Nat.blt op 4 then (an_p3 LL a b c x nxt sw env L st σ) else (bif Nat.blt op 5 then (an_p4 LL a b c x nxt sw env L st σ) else (an_p5 LL a b c x nxt sw env L st σ)))
def an_q1 (op : Nat) (LL : Nat) (a : Int) (b c x nxt : Nat) (sw : List (Int × Nat)) (env : an_N) (L : an_L) (st : List an_V) (σ : an_S) : Option (List (an_N × Nat × an_L × List an_V × an_S)) := bif Nat.blt op 9 then (bif Nat.blt op 7 then (an_p6 LL a b c x nxt sw env L st σ) else (bif Nat.blt op 8 then (an_p7 LL a b c x nxt sw env L st σ) else (an_p8 LL a b c x nxt sw env L st σ))) else (bif Nat.blt op 10 then (an_p9 LL a b c x nxt sw env L st σ) else (bif Nat.blt op 11 then (an_p10 LL a b c x nxt sw env L st σ) else (an_p11 LL a b c x nxt sw env L st σ)))
def an_q2 (op : Nat) (LL : Nat) (a : Int) (b c x nxt : Nat) (sw : List (Int × Nat)) (env : an_N) (L : an_L) (st : List an_V) (σ : an_S) : Option (List (an_N × Nat × an_L × List an_V × an_S)) := bif Nat.blt op 15 then (bif Nat.blt op 13 then (an_p12 LL a b c x nxt sw env L st σ) else (bif Nat.blt op 14 then (an_p13 LL a b c x nxt sw env L st σ) else (an_p14 LL a b c x nxt sw env L st σ))) else (bif Nat.blt op 16 then (an_p15 LL a b c x nxt sw env L st σ) else (bif Nat.blt op 17 then (an_p16 LL a b c x nxt sw env L st σ) else (an_p17 LL a b c x nxt sw env L st σ)))
def an_q3 (op : Nat) (LL : Nat) (a : Int) (b c x nxt : Nat) (sw : List (Int × Nat)) (env : an_N) (L : an_L) (st : List an_V) (σ : an_S) : Option (List (an_N × Nat × an_L × List an_V × an_S)) := bif Nat.blt op 21 then (bif Nat.blt op 19 then (an_p18 LL a b c x nxt sw env L st σ) else (bif Nat.blt op 20 then (an_p19 LL a b c x nxt sw env L st σ) else (an_p20 LL a b c x nxt sw env L st σ))) else (bif Nat.blt op 22 then (an_p21 LL a b c x nxt sw env L st σ) else (bif Nat.blt op 23 then (an_p22 LL a b c x nxt sw env L st σ) else (an_p23 LL a b c x nxt sw env L st σ)))
def an_q4 (op : Nat) (LL : Nat) (a : Int) (b c x nxt : Nat) (sw : List (Int × Nat)) (env : an_N) (L : an_L) (st : List an_V) (σ : an_S) : Option (List (an_N × Nat × an_L × List an_V × an_S)) := bif Nat.blt op 27 then (bif Nat.blt op 25 then (an_p24 LL a b c x nxt sw env L st σ) else (bif Nat.blt op 26 then (an_p25 LL a b c x nxt sw env L st σ) else (an_p26 LL a b c x nxt sw env L st σ))) else (bif Nat.blt op 28 then (an_p27 LL a b c x nxt sw env L st σ) else (bif Nat.blt op 29 then (an_p28 LL a b c x nxt sw env L st σ) else (an_p29 LL a b c x nxt sw env L st σ)))
def an_q5 (op : Nat) (LL : Nat) (a : Int) (b c x nxt : Nat) (sw : List (Int × Nat)) (env : an_N) (L : an_L) (st : List an_V) (σ : an_S) : Option (List (an_N × Nat × an_L × List an_V × an_S)) := bif Nat.blt op 33 then (bif Nat.blt op 31 then (an_p30 LL a b c x nxt sw env L st σ) else (bif Nat.blt op 32 then (an_p31 LL a b c x nxt sw env L st σ) else (an_p32 LL a b c x nxt sw env L st σ))) else (bif Nat.blt op 34 then (an_p33 LL a b c x nxt sw env L st σ) else (bif Nat.blt op 35 then (an_p34 LL a b c x nxt sw env L st σ) else (an_p35 LL a b c x nxt sw env L st σ)))
def an_q6 (op : Nat) (LL : Nat) (a : Int) (b c x nxt : Nat) (sw : List (Int × Nat)) (env : an_N) (L : an_L) (st : List an_V) (σ : an_S) : Option (List (an_N × Nat × an_L × List an_V × an_S)) := bif Nat.blt op 38 then (bif Nat.blt op 37 then (an_p36 LL a b c x nxt sw env L st σ) else (an_p37 LL a b c x nxt sw env L st σ)) else (bif Nat.blt op 39 then (an_p38 LL a b c x nxt sw env L st σ) else (bif Nat.blt op 40 then (an_p39 LL a b c x nxt sw env L st σ) else (an_p40 LL a b c x nxt sw env L st σ)))
def an_q7 (op : Nat) (LL : Nat) (a : Int) (b c x nxt : Nat) (sw : List (Int × Nat)) (env : an_N) (L : an_L) (st : List an_V) (σ : an_S) : Option (List (an_N × Nat × an_L × List an_V × an_S)) := bif Nat.blt op 43 then (bif Nat.blt op 42 then (an_p41 LL a b c x nxt sw env L st σ) else (an_p42 LL a b c x nxt sw env L st σ)) else (bif Nat.blt op 44 then (an_p43 LL a b c x nxt sw env L st σ) else (bif Nat.blt op 45 then (an_p44 LL a b c x nxt sw env L st σ) else (an_p45 LL a b c x nxt sw env L st σ)))
/-- one instruction; the ways on -/
def an_stp (LL : Nat) (E : rf_E) (env : an_N) (L : an_L) (st : List an_V) (σ : an_S) : Option (List (an_N × Nat × an_L × List an_V × an_S)) :=
  match E with
  | (op, a, b, c, x, nxt, sw) => bif Nat.blt op 46 then (bif Nat.blt op 24 then (bif Nat.blt op 12 then (bif Nat.blt op 6 then (an_q0 op LL a b c x nxt sw env L st σ) else (an_q1 op LL a b c x nxt sw env L st σ)) else (bif Nat.blt op 18 then (an_q2 op LL a b c x nxt sw env L st σ) else (an_q3 op LL a b c x nxt sw env L st σ))) else (bif Nat.blt op 36 then (bif Nat.blt op 30 then (an_q4 op LL a b c x nxt sw env L st σ) else (an_q5 op LL a b c x nxt sw env L st σ)) else (bif Nat.blt op 41 then (an_q6 op LL a b c x nxt sw env L st σ) else (an_q7 op LL a b c x nxt sw env L st σ)))) else none
def an_alc (E : rf_E) (st : List an_V) : Option (List an_V × an_O × Nat) :=
  match E with
  | (op, a, b, c, x, nxt, sw) =>
  match op with
  | 39 => some (st, .inr (b, (List.range (rf_num b)).map (fun k => .inl (defaultValue (rf_fty b k)))), rf_num b)
  | 40 => match st with
    | .inl (.int n) :: r => bif decide (¬ n < 0) && Nat.ble n.toNatClampNeg 1000 then (match b with
      | 0 => some (r, .inl (0, n.toNatClampNeg, .inl (.int 0), []), n.toNatClampNeg)
      | _ => some (r, .inl (1, n.toNatClampNeg, .inl (.long 0), []), n.toNatClampNeg)) else none
    | _ => none
  | 41 => match st with
    | .inl (.int n) :: r => bif decide (¬ n < 0) && Nat.ble n.toNatClampNeg 1000 then some (r, .inl (2, n.toNatClampNeg, .inl .null, []), n.toNatClampNeg) else none
    | _ => none
  | _ => none
/-- references that are known -/
def an_wv (n : Nat) : an_V → Bool
  | .inl v => rf_wfv n v
  | .inr _ => true
def an_wr (n : Nat) : an_V → Bool
  | .inl (.ref i) => Nat.blt i n
  | .inl .null => true
  | _ => false
def an_wo (n : Nat) : an_O → Bool
  | .inl (2, _, d, ups) => an_wr n d && ups.all (fun q => an_wr n q.2)
  | .inl _ => true
  | .inr (_, fs) => fs.all (an_wv n)
def an_ws (σ : an_S) : Bool := σ.all (an_wo σ.length)
def an_wl (n : Nat) (L : an_L) (st : List an_V) : Bool := L.all (fun q => an_wv n q.2) && st.all (an_wv n)
def an_recv (kind ci : Nat) (As : List an_V) (σ : an_S) : Bool := match kind with
  | 0 => true
  | 1 => (match As with
    | .inl (.ref r) :: _ => (match σ[r]? with
      | some (.inr (cj, _)) => Nat.beq cj ci
      | _ => false)
    | _ => false)
  | _ => (match As with
    | .inl (.ref _) :: _ => true
    | _ => false)
def an_lgs (As : List an_V) : Nat := (As.map an_ct).sum
/-- the locals with which a method begins -/
def an_arg : Nat → List an_V → an_L
  | _, [] => []
  | i, v :: vs => (i, v) :: an_arg (i + an_ct v) vs
abbrev an_R : Type := List (an_N × Option an_V × an_S)
def an_rok (op : Nat) (ret : Option FieldType) (st : List an_V) : Option (Option an_V) := match op, st with
  | 47, [] => some none
  | 48, [v] => bif an_isI v then (match ret with
    | some .int => some (some v)
    | some .boolean => (match v with
      | .inl (.int z) => bif decide (narrow .boolean (.int z) = .int z) then some (some v) else none
      | _ => none)
    | _ => none) else none
  | 49, [v] => bif an_isL v then some (some v) else none
  | 50, [.inl (.ref z)] => some (some (.inl (.ref z)))
  | _, _ => none
/-- a body, from a place; at a stop the place itself is an end (the flag says which) -/
def an_body (LL : Nat) (ms : List rf_M) (K : Nat → an_N → List an_V → an_S → Option an_R) (mi : rf_M) (stop : Nat → Bool) : Nat → an_C → Option (List (Bool × an_C))
  | 0, _ => none
  | n + 1, (env, pc, L, st, σ, u, v) =>
    bif stop pc then some [(false, env, pc, L, st, σ, u, v)] else
    match mi.2.2 pc with
    | none => none
    | some E =>
      bif Nat.beq E.1 46 then
        (match ms[E.2.2.1]? with
        | none => none
        | some mj =>
          bif Nat.ble E.2.2.2.1 st.length && Nat.ble (an_cat (st.drop E.2.2.2.1)) 8 && st.all an_good && an_recv mj.2.1.1 mj.2.1.2.2.2.2.1 (st.take E.2.2.2.1).reverse σ && Nat.ble (u + mj.2.1.2.2.1) mi.2.1.2.2.1 && Nat.ble (v + mj.2.1.2.2.2.1) mi.2.1.2.2.2.1 then
            (match K E.2.2.1 env (st.take E.2.2.2.1).reverse σ with
            | none => none
            | some rs => an_all (fun r => bif Nat.beq r.2.2.length σ.length || an_wl σ.length L (st.drop E.2.2.2.1) then an_body LL ms K mi stop n (r.1, E.2.2.2.2.2.1, L, r.2.1.toList ++ st.drop E.2.2.2.1, r.2.2, u + mj.2.1.2.2.1, v + mj.2.1.2.2.2.1) else none) rs)
          else none)
      else bif Nat.ble 39 E.1 && Nat.ble E.1 41 then
        (match an_alc E st with
        | none => none
        | some (r, o, w) => bif Nat.blt σ.length 1000000 && an_ws σ && an_wl σ.length L r && Nat.ble (u + 1) mi.2.1.2.2.1 && Nat.ble (v + w) mi.2.1.2.2.2.1 then an_body LL ms K mi stop n (env, E.2.2.2.2.2.1, L, .inl (.ref σ.length) :: r, σ ++ [o], u + 1, v + w) else none)
      else bif Nat.ble 47 E.1 then
        (bif Nat.ble u mi.2.1.2.2.1 && Nat.ble v mi.2.1.2.2.2.1 then (match an_rok E.1 mi.1.2.2.2.1 st with
          | none => none
          | some _ => some [(true, env, pc, L, st, σ, u, v)]) else none)
      else
        (match an_stp LL E env L st σ with
        | none => none
        | some ws => an_all (fun w => an_body LL ms K mi stop n (w.1, w.2.1, w.2.2.1, w.2.2.2.1, w.2.2.2.2, u, v)) ws)
def an_run (LL : Nat) (ms : List rf_M) (F : Nat) : Nat → Nat → an_N → List an_V → an_S → Option an_R
  | 0, _, _, _, _ => none
  | d + 1, k, env, As, σ => match ms[k]? with
    | none => none
    | some mi => bif Nat.ble (an_lgs As) mi.1.2.2.1 && As.all an_good then
        (match an_body LL ms (an_run LL ms F d) mi (fun _ => false) F (env, 0, an_arg 0 As, [], σ, 0, 0) with
        | none => none
        | some cs => bif cs.all (fun c => c.1) then some (cs.map fun c => (c.2.1, c.2.2.2.2.1.head?, c.2.2.2.2.2.1)) else none) else none
