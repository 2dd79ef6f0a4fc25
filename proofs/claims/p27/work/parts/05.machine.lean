/-! the abstract machine -/
def rf_fit : FieldType → Value → Bool
  | .int, .int _ => true
  | .boolean, .int x => decide (x = 0 ∨ x = 1)
  | .object _, .ref _ => true
  | .array _, .ref _ => true
  | _, _ => false
def rf_mv (ad : Nat → Nat) : Value → Value
  | .ref i => .ref (ad i)
  | v => v
def rf_mo (ad : Nat → Nat) (aC : Nat → ClassId) : va_E → va_E
  | .inl (k, n, .inr (.inr (.inr (.inr f)))) => .inl (aC k, n, .inr (.inr (.inr (.inr fun j => (f j).map ad))))
  | .inl (k, n, .inr (.inr (.inr (.inl f)))) => .inl (aC k, n, .inr (.inr (.inr (.inl f))))
  | .inl (k, n, .inr (.inr (.inl f))) => .inl (aC k, n, .inr (.inr (.inl f)))
  | .inl (k, n, .inr (.inl f)) => .inl (aC k, n, .inr (.inl f))
  | .inl (k, n, .inl f) => .inl (aC k, n, .inl f)
  | .inr (ci, fs) => .inr (ci, fs.map (rf_mv ad))
def rf_ws (ad : Nat → Nat) (aC : Nat → ClassId) (σ : rf_S) : va_W := σ.mapIdx fun i o => (ad i, rf_mo ad aC o)
def rf_mL (ad : Nat → Nat) (L : rf_L) : rf_L := L.map fun q => (q.1, rf_mv ad q.2)
def rf_tys (aC : Nat → ClassId) : List (ClassId × FieldType) := [(aC 0, .int), (aC 1, .long), (aC 2, .object "LeftByLast$Moment")]
def rf_get (L : rf_L) (i : Nat) : Option Value := (L.find? (fun q => q.1 == i)).map (·.2)
def rf_set (L : rf_L) (i : Nat) (v : Value) : rf_L := (i, v) :: L.filter (fun q => !(q.1 == i) && !(q.1 + 1 == i && q.2.category == 2))
def rf_cat (st : List Value) : Nat := (st.map fun v => v.category).sum
def rf_cmp (b : Nat) (x y : Int32) : Bool := match b with
  | 0 => decide (x = y)
  | 1 => !decide (x = y)
  | 2 => decide (x < y)
  | 3 => decide (y ≤ x)
  | 4 => decide (y < x)
  | _ => decide (x ≤ y)
def rf_bin (b : Nat) (x y : Int32) : Int32 := match b with
  | 0 => x + y
  | 1 => x - y
  | 2 => x * y
  | 3 => x &&& y
  | 4 => x ||| y
  | 5 => x ^^^ y
  | 6 => x <<< (y &&& 31)
  | 7 => x >>> (y &&& 31)
  | _ => (x.toUInt32 >>> (y.toUInt32 &&& Int32.toUInt32 31)).toInt32
def rf_ixs (i : Int32) (n : Nat) : Bool := decide (¬ i < 0) && decide (i.toNatClampNeg < n)
def rf_sw (sw : List (Int × Nat)) (d : Nat) (x : Int) : Nat := match sw with
  | [] => d
  | (k, t) :: r => bif decide (x = k) then t else rf_sw r d x
/-- a reference that a store of n objects knows -/
def rf_wfv (n : Nat) : Value → Bool
  | .ref i => Nat.blt i n || Nat.ble 1000000 i
  | _ => true
def rf_wfl (n : Nat) (L : rf_L) (st : List Value) : Bool := L.all (fun q => rf_wfv n q.2) && st.all (rf_wfv n)
def rf_wfo (n : Nat) : va_E → Prop
  | .inl (_, _, .inr (.inr (.inr (.inr f)))) => ∀ j i, f j = some i → i < n
  | .inl _ => True
  | .inr (_, fs) => fs.all (rf_wfv n) = true
def rf_wfs (σ : rf_S) : Prop := ∀ o ∈ σ, rf_wfo σ.length o
/-- its number: no subtraction that a kernel would count out -/
def rf_ix (r : Nat) : Nat := bif Nat.beq r 1000000 then 0 else bif Nat.beq r 1000001 then 1 else bif Nat.beq r 1000002 then 2 else r - 1000000
theorem rf_ix_eq {r : Nat} (h : 1000000 ≤ r) : 1000000 + rf_ix r = r := by
  unfold rf_ix
  cases h0 : Nat.beq r 1000000 with
  | true => have := Nat.eq_of_beq_eq_true h0; rw [cond_true]; omega
  | false =>
    rw [cond_false]
    cases h1 : Nat.beq r 1000001 with
    | true => have := Nat.eq_of_beq_eq_true h1; rw [cond_true]; omega
    | false =>
      rw [cond_false]
      cases h2 : Nat.beq r 1000002 with
      | true => have := Nat.eq_of_beq_eq_true h2; rw [cond_true]; omega
      | false => rw [cond_false]; omega
/-- a row that stood before -/
def rf_isS (r : Nat) : Bool := Nat.ble 1000000 r
/-- one instruction that neither calls, makes nor leaves -/
def rf_stp (SA : rf_A) (E : rf_E) (L : rf_L) (st : List Value) (σ : rf_S) : Option (Nat × rf_L × List Value × rf_S) :=
  match E with
  | (op, a, b, c, x, nxt, sw) =>
  match op with
  | 0 => some (nxt, L, .int (Int32.ofInt a) :: st, σ)
  | 1 => some (nxt, L, .long (Int64.ofInt a) :: st, σ)
  | 2 => match rf_get L b with
    | some (.int v) => some (nxt, L, .int v :: st, σ)
    | _ => none
  | 3 => match rf_get L b with
    | some (.long v) => some (nxt, L, .long v :: st, σ)
    | _ => none
  | 4 => match rf_get L b with
    | some (.ref v) => some (nxt, L, .ref v :: st, σ)
    | _ => none
  | 5 => match st with
    | .int v :: r => some (nxt, rf_set L b (.int v), r, σ)
    | _ => none
  | 6 => match st with
    | .ref v :: r => some (nxt, rf_set L b (.ref v), r, σ)
    | _ => none
  | 8 => match rf_get L b with
    | some (.int v) => some (nxt, rf_set L b (.int (v + Int32.ofInt a)), st, σ)
    | _ => none
  | 9 => match st with
    | .int y :: .int z :: r => some (nxt, L, .int (rf_bin b z y) :: r, σ)
    | _ => none
  | 10 => match st with
    | .int y :: .int z :: r => bif decide (y = 0) then none else some (nxt, L, .int (z / y) :: r, σ)
    | _ => none
  | 11 => match st with
    | .int y :: .int z :: r => bif decide (y = 0) then none else some (nxt, L, .int (z - z / y * y) :: r, σ)
    | _ => none
  | 12 => match st with
    | .int y :: r => some (nxt, L, .int (-y) :: r, σ)
    | _ => none
  | 13 => match st with
    | .int y :: r => some (nxt, L, .long y.toInt64 :: r, σ)
    | _ => none
  | 14 => match st with
    | .long y :: r => some (nxt, L, .int y.toInt32 :: r, σ)
    | _ => none
  | 15 => match st with
    | .int y :: r => some (nxt, L, .int y.toInt8.toInt32 :: r, σ)
    | _ => none
  | 16 => match st with
    | .int y :: r => some (nxt, L, .int y.toInt16.toInt32 :: r, σ)
    | _ => none
  | 17 => match st with
    | .long y :: .long z :: r => some (nxt, L, .long (match b with | 0 => z &&& y | _ => z ||| y) :: r, σ)
    | _ => none
  | 18 => match st with
    | .int y :: .long z :: r => some (nxt, L, .long (z <<< (y.toInt64 &&& 63)) :: r, σ)
    | _ => none
  | 19 => match st with
    | .long y :: .long z :: r => some (nxt, L, .int (lg_cmp z y) :: r, σ)
    | _ => none
  | 20 => match st with
    | v :: r => bif v.category == 1 then some (nxt, L, v :: v :: r, σ) else none
    | _ => none
  | 21 => match st with
    | v :: w :: r => bif v.category == 1 && w.category == 1 then some (nxt, L, v :: w :: v :: r, σ) else none
    | _ => none
  | 22 => match st with
    | v :: w :: r => bif v.category == 1 && w.category == 1 then some (nxt, L, v :: w :: v :: w :: r, σ) else none
    | _ => none
  | 23 => match st with
    | v :: r => bif v.category == 1 then some (nxt, L, r, σ) else none
    | _ => none
  | 24 => match st with
    | v :: r => bif v.category == 2 then some (nxt, L, r, σ) else none
    | _ => none
  | 25 => match st with
    | .int y :: r => some ((bif rf_cmp b y 0 then c else nxt), L, r, σ)
    | _ => none
  | 26 => match st with
    | .int y :: .int z :: r => some ((bif rf_cmp b z y then c else nxt), L, r, σ)
    | _ => none
  | 27 => some (c, L, st, σ)
  | 28 => match st with
    | .int y :: r => some (rf_sw sw c y.toInt, L, r, σ)
    | _ => none
  | 29 => match st with
    | .ref r0 :: r => match σ[r0]? with
      | some (.inr (ci, fs)) => bif Nat.beq ci b then (match fs[c]? with
        | some v => some (nxt, L, v :: r, σ)
        | none => none) else none
      | _ => none
    | _ => none
  | 30 => match st with
    | v :: .ref r0 :: r => match σ[r0]? with
      | some (.inr (ci, fs)) => bif Nat.beq ci b && rf_fit (rf_fty b c) v && Nat.blt c fs.length then some (nxt, L, r, σ.set r0 (.inr (b, fs.set c v))) else none
      | _ => none
    | _ => none
  | 31 => some (nxt, L, .ref (1000000 + b) :: st, σ)
  | 32 => match st with
    | .int i :: .ref r0 :: r => bif rf_isS r0 then (match SA (rf_ix r0) with
        | some q => bif rf_ixs i q.1 then some (nxt, L, .int (q.2 i.toNatClampNeg) :: r, σ) else none
        | none => none) else (match σ[r0]? with
      | some (.inl (0, n, .inl f)) => bif rf_ixs i n then some (nxt, L, .int (f i.toNatClampNeg) :: r, σ) else none
      | _ => none)
    | _ => none
  | 33 => match st with
    | .int v :: .int i :: .ref r0 :: r => match σ[r0]? with
      | some (.inl (0, n, .inl f)) => bif rf_ixs i n then some (nxt, L, r, σ.set r0 (.inl (0, n, .inl (upd f i.toNatClampNeg v)))) else none
      | _ => none
    | _ => none
  | 34 => match st with
    | .int i :: .ref r0 :: r => match σ[r0]? with
      | some (.inl (1, n, .inr (.inl f))) => bif rf_ixs i n then some (nxt, L, .long (f i.toNatClampNeg) :: r, σ) else none
      | _ => none
    | _ => none
  | 35 => match st with
    | .long v :: .int i :: .ref r0 :: r => match σ[r0]? with
      | some (.inl (1, n, .inr (.inl f))) => bif rf_ixs i n then some (nxt, L, r, σ.set r0 (.inl (1, n, .inr (.inl (vp_updL f i.toNatClampNeg v))))) else none
      | _ => none
    | _ => none
  | 36 => match st with
    | .int i :: .ref r0 :: r => match σ[r0]? with
      | some (.inl (2, n, .inr (.inr (.inr (.inr f))))) => bif rf_ixs i n then (match f i.toNatClampNeg with
        | some q => some (nxt, L, .ref q :: r, σ)
        | none => none) else none
      | _ => none
    | _ => none
  | 37 => match st with
    | .ref v :: .int i :: .ref r0 :: r => match σ[r0]?, σ[v]? with
      | some (.inl (2, n, .inr (.inr (.inr (.inr f))))), some (.inr (5, _)) => bif rf_ixs i n then some (nxt, L, r, σ.set r0 (.inl (2, n, .inr (.inr (.inr (.inr (va_up f i.toNatClampNeg (some v)))))))) else none
      | _, _ => none
    | _ => none
  | 38 => match st with
    | .ref r0 :: r => bif rf_isS r0 then (match SA (rf_ix r0) with
        | some q => some (nxt, L, .int (Int32.ofNat q.1) :: r, σ)
        | none => none) else (match σ[r0]? with
      | some (.inl (k, n, _)) => bif Nat.blt k 3 then some (nxt, L, .int (Int32.ofNat n) :: r, σ) else none
      | _ => none)
    | _ => none
  | 42 => match st with
    | .ref _ :: r => bif Nat.ble (rf_cat r) 8 then some (nxt, L, r, σ) else none
    | _ => none
  | 43 => match st with
    | .int n :: .int dp :: .ref r1 :: .int sp :: .ref r0 :: r =>
      bif decide (¬ n < 0) && decide (¬ dp < 0) && decide (¬ sp < 0) && Nat.ble (rf_cat r) 8 then (match σ[r0]?, σ[r1]? with
        | some (.inl (0, n0, .inl f)), some (.inl (0, n1, .inl g)) => bif Nat.ble (sp.toNatClampNeg + n.toNatClampNeg) n0 && Nat.ble (dp.toNatClampNeg + n.toNatClampNeg) n1 then some (nxt, L, r, σ.set r1 (.inl (0, n1, .inl (va_cpy f g sp.toNatClampNeg dp.toNatClampNeg n.toNatClampNeg)))) else none
        | some (.inl (1, n0, .inr (.inl f))), some (.inl (1, n1, .inr (.inl g))) => bif Nat.ble (sp.toNatClampNeg + n.toNatClampNeg) n0 && Nat.ble (dp.toNatClampNeg + n.toNatClampNeg) n1 then some (nxt, L, r, σ.set r1 (.inl (1, n1, .inr (.inl (va_cpy f g sp.toNatClampNeg dp.toNatClampNeg n.toNatClampNeg))))) else none
        | _, _ => none) else none
    | _ => none
  | 44 => match st with
    | .int y :: .int z :: r => bif Nat.ble (rf_cat r) 8 then some (nxt, L, .int (if z < y then y else z) :: r, σ) else none
    | _ => none
  | 45 => match st with
    | .int y :: .int z :: r => bif Nat.ble (rf_cat r) 8 then some (nxt, L, .int (if y < z then y else z) :: r, σ) else none
    | _ => none
  | _ => none
/-- an instruction that makes an object: what is left of the stack, the object, its slots -/
def rf_alc (E : rf_E) (st : List Value) : Option (List Value × va_E × Nat) :=
  match E with
  | (op, a, b, c, x, nxt, sw) =>
  match op with
  | 39 => some (st, .inr (b, (List.range (rf_num b)).map (fun k => defaultValue (rf_fty b k))), rf_num b)
  | 40 => match st with
    | .int n :: r => bif decide (¬ n < 0) && Nat.ble n.toNatClampNeg 1000 then (match b with
      | 0 => some (r, .inl (0, n.toNatClampNeg, .inl (fun _ => 0)), n.toNatClampNeg)
      | _ => some (r, .inl (1, n.toNatClampNeg, .inr (.inl (fun _ => 0))), n.toNatClampNeg)) else none
    | _ => none
  | 41 => match st with
    | .int n :: r => bif decide (¬ n < 0) && Nat.ble n.toNatClampNeg 1000 then some (r, .inl (2, n.toNatClampNeg, .inr (.inr (.inr (.inr (fun _ => none))))), n.toNatClampNeg) else none
    | _ => none
  | _ => none
/-- the callee's receiver is of its class -/
def rf_recv (kind ci : Nat) (As : List Value) (σ : rf_S) : Bool := match kind with
  | 0 => true
  | 1 => (match As with
    | .ref r :: _ => (match σ[r]? with
      | some (.inr (cj, _)) => Nat.beq cj ci
      | _ => false)
    | _ => false)
  | _ => (match As with
    | .ref _ :: _ => true
    | _ => false)
def rf_wp (SA : rf_A) (ms : List rf_M) (C : Nat → List Value → rf_S → rf_P → Prop) (mi : rf_M) : Nat → Nat → rf_L → List Value → rf_S → Nat → Nat → rf_P → Prop
  | 0, _, _, _, _, _, _, _ => False
  | n + 1, pc, L, st, σ, u, v, post =>
    match mi.2.2 pc with
    | none => False
    | some E =>
      if E.1 = 46 then
        (match ms[E.2.2.1]? with
        | none => False
        | some mj =>
          E.2.2.2.1 ≤ st.length ∧ rf_cat (st.drop E.2.2.2.1) ≤ 8 ∧ rf_recv mj.2.1.1 mj.2.1.2.2.2.2.1 (st.take E.2.2.2.1).reverse σ = true ∧ u + mj.2.1.2.2.1 ≤ mi.2.1.2.2.1 ∧ v + mj.2.1.2.2.2.1 ≤ mi.2.1.2.2.2.1 ∧
          C E.2.2.1 (st.take E.2.2.2.1).reverse σ (fun rv σ1 => (σ1.length = σ.length ∨ rf_wfl σ.length L (st.drop E.2.2.2.1) = true) ∧ rf_wp SA ms C mi n E.2.2.2.2.2.1 L (rv.toList ++ st.drop E.2.2.2.1) σ1 (u + mj.2.1.2.2.1) (v + mj.2.1.2.2.2.1) post))
      else if 39 ≤ E.1 ∧ E.1 ≤ 41 then
        (match rf_alc E st with
        | none => False
        | some (r, o, w) => σ.length < 1000000 ∧ rf_wfs σ ∧ rf_wfl σ.length L r = true ∧ u + 1 ≤ mi.2.1.2.2.1 ∧ v + w ≤ mi.2.1.2.2.2.1 ∧
          rf_wp SA ms C mi n E.2.2.2.2.2.1 L (.ref σ.length :: r) (σ ++ [o]) (u + 1) (v + w) post)
      else if 47 ≤ E.1 then
        u ≤ mi.2.1.2.2.1 ∧ v ≤ mi.2.1.2.2.2.1 ∧ (match E.1, st with
        | 47, [] => post none σ
        | 48, [.int z] => (narrow (mi.1.2.2.2.1.getD .int) (.int z) = .int z) ∧ post (some (.int z)) σ
        | 49, [.long z] => post (some (.long z)) σ
        | 50, [.ref z] => post (some (.ref z)) σ
        | _, _ => False)
      else
        (match rf_stp SA E L st σ with
        | none => False
        | some (pc', L', st', σ') => rf_wp SA ms C mi n pc' L' st' σ' u v post)
def rf_run (SA : rf_A) (ms : List rf_M) : Nat → Nat → List Value → rf_S → rf_P → Prop
  | 0, _, _, _, _ => False
  | d + 1, k, As, σ, post => ∃ mi, ms[k]? = some mi ∧ (lg_sl As).length ≤ mi.1.2.2.1 ∧ ∃ n, rf_wp SA ms (rf_run SA ms d) mi n 0 (lv_args 0 As) [] σ 0 0 post
