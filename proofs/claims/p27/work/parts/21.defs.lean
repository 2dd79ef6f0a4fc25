/-! boxes with loops: numbers by name and bounds, facts between them, a file of scalars, rows of which the bounds alone are known -/
noncomputable def zb_nth {α : Type} (l : List α) : Nat → Option α := List.rec (motive := fun _ => Nat → Option α) (fun _ => none) (fun a _ ih k => bif Nat.beq k 0 then some a else ih (Nat.pred k)) l
noncomputable def zb_upd {α : Type} (l : List α) : Nat → α → List α := List.rec (motive := fun _ => Nat → α → List α) (fun _ _ => []) (fun a t ih k x => bif Nat.beq k 0 then x :: t else a :: ih (Nat.pred k) x) l
theorem zb_nth_eq {α : Type} : ∀ (l : List α) (k : Nat), zb_nth l k = l[k]?
  | [], _ => rfl
  | _ :: _, 0 => rfl
  | _ :: t, k + 1 => by
    rw [List.getElem?_cons_succ, ← zb_nth_eq t k]
    rfl
theorem zb_upd_eq {α : Type} : ∀ (l : List α) (k : Nat) (x : α), zb_upd l k x = l.set k x
  | [], _, _ => rfl
  | _ :: _, 0, _ => rfl
  | a :: t, k + 1, x => by
    rw [List.set_cons_succ, ← zb_upd_eq t k x]
    rfl
def zb_le (a b : Int) : Bool := match a, b with
  | .ofNat m, .ofNat n => Nat.ble m n
  | .negSucc m, .negSucc n => Nat.ble n m
  | .negSucc _, .ofNat _ => true
  | .ofNat _, .negSucc _ => false
theorem zb_le_iff {a b : Int} : zb_le a b = true ↔ a ≤ b := by
  cases a with
  | ofNat m => cases b with
    | ofNat n => rw [show zb_le (Int.ofNat m) (Int.ofNat n) = Nat.ble m n from rfl, Nat.ble_eq]; exact Int.ofNat_le.symm
    | negSucc n => exact ⟨fun h => (by cases h), fun h => absurd h (by have := Int.negSucc_lt_zero n; have := Int.natCast_nonneg m; simp only [Int.ofNat_eq_natCast]; omega)⟩
  | negSucc m => cases b with
    | ofNat n => exact ⟨fun _ => (by have := Int.negSucc_lt_zero m; have := Int.natCast_nonneg n; simp only [Int.ofNat_eq_natCast]; omega), fun _ => rfl⟩
    | negSucc n => rw [show zb_le (Int.negSucc m) (Int.negSucc n) = Nat.ble n m from rfl, Nat.ble_eq, Int.negSucc_eq, Int.negSucc_eq]; omega
theorem zb_le_of {a b : Int} (h : zb_le a b = true) : a ≤ b := zb_le_iff.mp h
theorem zb_le_to {a b : Int} (h : a ≤ b) : zb_le a b = true := zb_le_iff.mpr h
theorem zb_le_not {a b : Int} (h : ¬ zb_le a b = true) : b < a := by
  have : ¬ a ≤ b := fun q => h (zb_le_to q)
  omega
def zb_max (a b : Int) : Int := bif zb_le a b then b else a
def zb_min (a b : Int) : Int := bif zb_le a b then a else b
theorem zb_max_le {a b z : Int} (h1 : a ≤ z) (h2 : b ≤ z) : zb_max a b ≤ z := by
  unfold zb_max
  cases zb_le a b <;> assumption
theorem zb_le_min {a b z : Int} (h1 : z ≤ a) (h2 : z ≤ b) : z ≤ zb_min a b := by
  unfold zb_min
  cases zb_le a b <;> assumption
theorem zb_le_maxl (a b : Int) : a ≤ zb_max a b := by
  unfold zb_max
  cases h : zb_le a b with
  | true => exact zb_le_of h
  | false => exact Int.le_refl _
theorem zb_le_maxr (a b : Int) : b ≤ zb_max a b := by
  unfold zb_max
  cases h : zb_le a b with
  | true => exact Int.le_refl _
  | false => have q : b < a := zb_le_not (a := a) (b := b) (by rw [h]; exact Bool.false_ne_true); exact Int.le_of_lt q
theorem zb_minl_le (a b : Int) : zb_min a b ≤ a := by
  unfold zb_min
  cases h : zb_le a b with
  | true => exact Int.le_refl _
  | false => have q : b < a := zb_le_not (a := a) (b := b) (by rw [h]; exact Bool.false_ne_true); exact Int.le_of_lt q
theorem zb_minr_le (a b : Int) : zb_min a b ≤ b := by
  unfold zb_min
  cases h : zb_le a b with
  | true => exact zb_le_of h
  | false => exact Int.le_refl _
abbrev zb_F : Type := Nat × Nat × Nat × Int
abbrev zb_N : Type := List (Int × Int) × List zb_F
abbrev zb_D : Type := List an_V
abbrev zb_L : Type := List (Option an_V)
/-- env, place, locals, stack, scalars -/
abbrev zb_C : Type := zb_N × Nat × zb_L × List an_V × zb_D
/-- a field: a scalar by number (0), or what always fits it (1) -/
abbrev zb_G : Type := Nat × Nat × an_V
/-- what stands in the store: rows (kind, length, what fits an element), objects (class, fields) -/
abbrev zb_T : Type := Nat → Option ((Nat × Nat × an_V) ⊕ (Nat × List zb_G))
abbrev zb_q : Type := Option (Nat × Int) × Int × Int
def zb_lo32 : Int := Int.negSucc 2147483647
def zb_hi32 : Int := Int.ofNat 2147483647
def zb_lo64 : Int := Int.negSucc 9223372036854775807
def zb_hi64 : Int := Int.ofNat 9223372036854775807
def zb_top : an_V := .inr (1, zb_lo32, zb_hi32)
def zb_topL : an_V := .inr (2, zb_lo64, zb_hi64)
noncomputable def zb_pi (env : zb_N) : an_V → Option zb_q
  | .inr (0, k, c) => match zb_nth env.1 k.toNat with
    | some b => some (some (k.toNat, c), b.1 + c, b.2 + c)
    | none => none
  | .inr (1, lo, hi) => some (none, lo, hi)
  | _ => none
noncomputable def zb_pl (env : zb_N) : an_V → Option zb_q
  | .inr (3, k, c) => match zb_nth env.1 k.toNat with
    | some b => some (some (k.toNat, c), b.1 + c, b.2 + c)
    | none => none
  | .inr (2, lo, hi) => some (none, lo, hi)
  | _ => none
/-! narrower bounds -/
noncomputable def zb_hi (env : zb_N) (k : Nat) (h : Int) : Option zb_N := match zb_nth env.1 k with
  | some b => bif zb_le b.1 h then (bif zb_le b.2 h then some env else some (zb_upd env.1 k (b.1, h), env.2)) else none
  | none => some env
noncomputable def zb_lo (env : zb_N) (k : Nat) (l : Int) : Option zb_N := match zb_nth env.1 k with
  | some b => bif zb_le l b.2 then (bif zb_le l b.1 then some env else some (zb_upd env.1 k (l, b.2), env.2)) else none
  | none => some env
def zb_bnd {α β : Type} (o : Option α) (f : α → Option β) : Option β := match o with
  | some a => f a
  | none => none
noncomputable def zb_any {α : Type} (f : α → Bool) (l : List α) : Bool := List.rec (motive := fun _ => Bool) false (fun a _ ih => bif f a then true else ih) l
/-- a ≤ b + c, where neither bounds nor facts say so -/
noncomputable def zb_addF (a b : Nat) (c : Int) (env : zb_N) : zb_N := match zb_nth env.1 a, zb_nth env.1 b with
  | some A, some B => bif zb_le A.2 (B.1 + c) || zb_any (fun f => Nat.beq f.1 0 && (Nat.beq f.2.1 a && (Nat.beq f.2.2.1 b && zb_le f.2.2.2 c))) env.2 then env else (env.1, (0, a, b, c) :: env.2)
  | _, _ => env
/-- what a fact says of bounds -/
noncomputable def zb_pf (env : zb_N) (f : zb_F) : Option zb_N := match f with
  | (0, a, b, c) => (match zb_nth env.1 a, zb_nth env.1 b with
    | some A, some B => zb_bnd (zb_hi env a (B.2 + c)) fun e => zb_lo e b (A.1 - c)
    | _, _ => some env)
  | (1, a, b, c) => (match zb_nth env.1 a, zb_nth env.1 b with
    | some A, some B => zb_bnd (zb_hi env b (A.2 * c + (c - 1))) fun e => zb_bnd (zb_lo e b (A.1 * c)) fun e => zb_bnd (zb_hi e a (B.2 / c)) fun e => zb_lo e a (B.1 / c)
    | _, _ => some env)
  | (2, a, b, c) => (match zb_nth env.1 a, zb_nth env.1 b with
    | some A, some B => zb_bnd (zb_hi env a (c - B.1)) fun e => zb_hi e b (c - A.1)
    | _, _ => some env)
  | (6, t, k, c) => (match zb_nth env.1 t, zb_nth env.1 k, zb_nth env.1 c.toNat with
    | some T, some K, some J => bif zb_le zb_lo32 K.1 && (zb_le K.2 zb_hi32 && (zb_le zb_lo32 J.1 && (zb_le J.2 zb_hi32 && (zb_le zb_lo32 (K.1 - J.2) && zb_le (K.2 - J.1) zb_hi32)))) then
        zb_bnd (zb_hi env c.toNat (K.2 - T.1)) fun e => zb_bnd (zb_lo e k (J.1 + T.1)) fun e => zb_bnd (zb_hi e k (J.2 + T.2)) fun e => zb_bnd (zb_lo e c.toNat (K.1 - T.2)) fun e => some (zb_addF c.toNat k (-T.1) (zb_addF k c.toNat T.2 e)) else some env
    | _, _, _ => some env)
  | _ => some env
noncomputable def zb_prop (fs : List zb_F) : zb_N → Option zb_N := List.rec (motive := fun _ => zb_N → Option zb_N) (fun env => some env) (fun f _ ih env => zb_bnd (zb_pf env f) ih) fs
noncomputable def zb_prop2 (env : zb_N) : Option zb_N := zb_bnd (zb_prop env.2 env) fun e => zb_prop e.2 e
/-- of the facts that speak of k or j, twice -/
def zb_tch (k j : Nat) (f : zb_F) : Bool := Nat.beq f.2.1 k || (Nat.beq f.2.2.1 k || (Nat.beq f.2.1 j || Nat.beq f.2.2.1 j))
noncomputable def zb_prt (k j : Nat) (fs : List zb_F) : zb_N → Option zb_N := List.rec (motive := fun _ => zb_N → Option zb_N) (fun env => some env) (fun f _ ih env => bif zb_tch k j f then zb_bnd (zb_pf env f) ih else ih env) fs
noncomputable def zb_prt2 (k j : Nat) (env : zb_N) : Option zb_N := zb_bnd (zb_prt k j env.2 env) fun e => zb_prt k j e.2 e
/-- it is taken that x is no more than y + d -/
noncomputable def zb_asl (env : zb_N) (x y : zb_q) (d : Int) : Option zb_N := match x.1, y.1 with
  | some (k, c), some (j, c') => bif Nat.beq k j then (bif zb_le c (c' + d) then some env else none) else
      bif zb_any (fun f => Nat.beq f.1 0 && (Nat.beq f.2.1 j && (Nat.beq f.2.2.1 k && zb_le (f.2.2.2 + (c' + d - c)) (-1)))) env.2 then none else
      zb_bnd (zb_hi env k (y.2.2 + d - c)) fun e => zb_bnd (zb_lo e j (x.2.1 - d - c')) fun e => zb_prt2 k j (e.1, (0, k, j, c' + d - c) :: e.2)
  | some (k, c), none => zb_bnd (zb_hi env k (y.2.2 + d - c)) (zb_prt2 k k)
  | none, some (j, c') => zb_bnd (zb_lo env j (x.2.1 - d - c')) (zb_prt2 j j)
  | none, none => bif zb_le x.2.1 (y.2.2 + d) then some env else none
noncomputable def zb_aeq (env : zb_N) (x y : zb_q) : Option zb_N := zb_bnd (zb_asl env x y 0) fun e => zb_asl e y x 0
def zb_ol (b : Bool) (o : Option zb_N) : List (Bool × zb_N) := match o with
  | some e => [(b, e)]
  | none => []
noncomputable def zb_cmp (b : Nat) (env : zb_N) (x y : zb_q) : List (Bool × zb_N) := match b with
  | 0 => zb_ol true (zb_aeq env x y) ++ (zb_ol false (zb_asl env x y (-1)) ++ zb_ol false (zb_asl env y x (-1)))
  | 1 => zb_ol false (zb_aeq env x y) ++ (zb_ol true (zb_asl env x y (-1)) ++ zb_ol true (zb_asl env y x (-1)))
  | 2 => zb_ol true (zb_asl env x y (-1)) ++ zb_ol false (zb_asl env y x 0)
  | 3 => zb_ol true (zb_asl env y x 0) ++ zb_ol false (zb_asl env x y (-1))
  | 4 => zb_ol true (zb_asl env y x (-1)) ++ zb_ol false (zb_asl env x y 0)
  | _ => zb_ol true (zb_asl env x y 0) ++ zb_ol false (zb_asl env y x (-1))
/-- the ways of a switch, the number between lo and hi -/
noncomputable def zb_sw (nm : Option (Nat × Int)) (d : Nat) : List (Int × Nat) → zb_N → Int → Int → List (Nat × zb_N)
  | [], env, lo, hi => bif zb_le lo hi then (match zb_bnd (zb_asl env (nm, lo, hi) (none, hi, hi) 0) fun e => zb_asl e (none, lo, lo) (nm, lo, hi) 0 with
    | some e => [(d, e)]
    | none => []) else []
  | (a, t) :: r, env, lo, hi => bif zb_le lo a && zb_le a hi then (match zb_bnd (zb_asl env (nm, lo, hi) (none, a, a) 0) fun e => zb_asl e (none, a, a) (nm, lo, hi) 0 with
    | some e => [(t, e)]
    | none => []) ++ (zb_sw nm d r env lo (a - 1) ++ zb_sw nm d r env (a + 1) hi) else zb_sw nm d r env lo hi
/-- k is no more than a and that -/
noncomputable def zb_sm1 (fs : List zb_F) (k a : Nat) : Option Int := bif Nat.beq k a then some 0 else List.rec (motive := fun _ => Option Int) none (fun f _ ih => bif Nat.beq f.1 0 && (Nat.beq f.2.1 k && Nat.beq f.2.2.1 a) then some f.2.2.2 else ih) fs
def zb_omin (a b : Option Int) : Option Int := match a, b with
  | some x, some y => some (zb_min x y)
  | some x, none => some x
  | none, b => b
def zb_oadd (c : Int) (a b : Option Int) : Option Int := match a, b with
  | some x, some y => some (c + x + y)
  | _, _ => none
/-- k and j together are no more than that -/
noncomputable def zb_sm2 (all : List zb_F) (k j : Nat) (fs : List zb_F) : Option Int := List.rec (motive := fun _ => Option Int) none (fun f _ ih => bif Nat.beq f.1 2 then zb_omin (zb_oadd f.2.2.2 (zb_sm1 all k f.2.1) (zb_sm1 all j f.2.2.1)) (zb_omin (zb_oadd f.2.2.2 (zb_sm1 all k f.2.2.1) (zb_sm1 all j f.2.1)) ih) else ih) fs
/-- x and y together are no more than c -/
noncomputable def zb_sle (fs : List zb_F) (x y : zb_q) (c : Int) : Bool := zb_le (x.2.2 + y.2.2) c || (match x.1, y.1 with
  | some (k, a), some (j, b) => (match zb_sm2 fs k j fs with
    | some s => zb_le (s + a + b) c
    | none => false)
  | _, _ => false)
/-! numbers out of numbers -/
def zb_fit (lo hi : Int) : Bool := zb_le zb_lo32 lo && zb_le hi zb_hi32
def zb_iv (lo hi : Int) : an_V := bif zb_fit lo hi then .inr (1, lo, hi) else zb_top
def zb_addc (x : zb_q) (d : Int) : an_V := bif zb_fit (x.2.1 + d) (x.2.2 + d) then (match x.1 with
  | some (k, c) => .inr (0, (k : Int), c + d)
  | none => .inr (1, x.2.1 + d, x.2.2 + d)) else zb_top
def zb_sing (x : zb_q) : Bool := zb_le x.2.2 x.2.1
/-- the least of some masks that bounds it -/
def zb_mask (h : Int) : Int := bif zb_le h 1 then 1 else bif zb_le h 7 then 7 else bif zb_le h 127 then 127 else bif zb_le h 255 then 255 else zb_hi32
def zb_bin (b : Nat) (x y : zb_q) : an_V := match b with
  | 0 => bif zb_sing y then zb_addc x y.2.1 else bif zb_sing x then zb_addc y x.2.1 else zb_iv (x.2.1 + y.2.1) (x.2.2 + y.2.2)
  | 1 => bif zb_sing y then zb_addc x (-y.2.1) else zb_iv (x.2.1 - y.2.2) (x.2.2 - y.2.1)
  | 2 => bif zb_le 0 x.2.1 && zb_le 0 y.2.1 then zb_iv (x.2.1 * y.2.1) (x.2.2 * y.2.2) else zb_top
  | 3 => bif zb_le 0 y.2.1 then .inr (1, 0, y.2.2) else bif zb_le 0 x.2.1 then .inr (1, 0, x.2.2) else zb_top
  | 4 => bif zb_le 0 x.2.1 && zb_le 0 y.2.1 then .inr (1, 0, zb_mask (zb_max x.2.2 y.2.2)) else zb_top
  | 6 => bif zb_le 1 x.2.1 && (zb_le x.2.2 1 && (zb_le 0 y.2.1 && zb_le y.2.2 7)) then .inr (1, 1, 128) else zb_top
  | 7 => bif zb_le 0 x.2.1 then .inr (1, 0, x.2.2) else zb_top
  | 8 => bif zb_le 1 y.2.1 && zb_le y.2.2 31 then .inr (1, 0, zb_hi32) else zb_top
  | _ => zb_top
noncomputable def zb_neg (x : zb_q) : an_V := bif zb_le (-2147483647) x.2.1 then .inr (1, -x.2.2, -x.2.1) else zb_top
/-! references -/
def zb_isR : an_V → Bool
  | .inl (.ref _) => true
  | .inr (4, _, _) => true
  | .inr (5, _, _) => true
  | _ => false
def zb_mem : an_V → List Nat
  | .inl (.ref r) => [r]
  | .inr (4, b, n) => (List.range n.toNat).map fun t => b.toNat + 2 * t
  | .inr (5, b, n) => (List.range n.toNat).map fun t => b.toNat + t
  | _ => []
noncomputable def zb_has (l : List Nat) (r : Nat) : Bool := List.rec (motive := fun _ => Bool) false (fun a _ ih => bif Nat.beq a r then true else ih) l
noncomputable def zb_every {α : Type} (f : α → Bool) (l : List α) : Bool := List.rec (motive := fun _ => Bool) true (fun a _ ih => bif f a then ih else false) l
/-- the first is among the second -/
noncomputable def zb_sub (env : zb_N) (v a : an_V) : Bool := match a with
  | .inr (1, lo, hi) => (match zb_pi env v with
    | some q => zb_le lo q.2.1 && zb_le q.2.2 hi
    | none => false)
  | .inr (2, lo, hi) => (match zb_pl env v with
    | some q => zb_le lo q.2.1 && zb_le q.2.2 hi
    | none => false)
  | .inl (.ref r) => (match v with
    | .inl (.ref r') => Nat.beq r r'
    | _ => false)
  | .inr (4, b, n) => zb_isR v && zb_every (fun r => zb_has (zb_mem (.inr (4, b, n))) r) (zb_mem v)
  | .inr (5, b, n) => zb_isR v && zb_every (fun r => zb_has (zb_mem (.inr (5, b, n))) r) (zb_mem v)
  | _ => false
/-- one for all of several -/
def zb_cand (vs : List an_V) : an_V := match vs with
  | .inl (.ref x) :: _ :: _ => .inr (4, (x : Int), (vs.length : Int))
  | v :: _ => v
  | [] => zb_top
noncomputable def zb_hull (vs : List an_V) : Option an_V := match vs with
  | [] => none
  | [v] => some v
  | _ => bif zb_every (fun v => zb_sub ([], []) v (zb_cand vs)) vs then some (zb_cand vs) else none
def zb_isI : an_V → Bool
  | .inr (0, _, _) => true
  | .inr (1, _, _) => true
  | _ => false
def zb_isL : an_V → Bool
  | .inr (2, _, _) => true
  | .inr (3, _, _) => true
  | _ => false
def zb_good : an_V → Bool
  | .inl v => true
  | .inr (k, _, _) => Nat.blt k 6
noncomputable def zb_map {α β : Type} (f : α → Option β) (l : List α) : Option (List β) := List.rec (motive := fun _ => Option (List β)) (some []) (fun a _ ih => match f a with
  | some b => (match ih with
    | some bs => some (b :: bs)
    | none => none)
  | none => none) l
noncomputable def zb_fld (T : zb_T) (b c : Nat) (r : Nat) : Option zb_G := match T r with
  | some (.inr (ci, ds)) => bif Nat.beq ci b then zb_nth ds c else none
  | _ => none
