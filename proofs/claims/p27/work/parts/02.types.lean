/-! the abstract machine: values, a store of numbered objects, one instruction a step; calls by a relation -/
abbrev rf_E : Type := Nat × Int × Nat × Nat × Nat × Nat × List (Int × Nat)
abbrev rf_M : Type := (MethodName × ByteArray × Nat × Option FieldType × String) × (Nat × Nat × Nat × Nat × Nat × List Nat) × (Nat → Option rf_E)
abbrev rf_L : Type := List (Nat × Value)
abbrev rf_S : Type := List va_E
abbrev rf_A : Type := Nat → Option (Nat × (Nat → Int32))
abbrev rf_P : Type := Option Value → rf_S → Prop
def rf_fld (ci k : Nat) : String × String × String × Bool := match vwCl[ci]? with
  | some q => q.2.1 k
  | none => ("", "", "", false)
def rf_fty (ci k : Nat) : FieldType := match ci with
  | 0 => tyX0 k
  | 1 => tyX1 k
  | 2 => tyX2 k
  | 3 => tyX3 k
  | 4 => tyX4 k
  | 5 => tyX5 k
  | 6 => tyX6 k
  | 7 => tyX7 k
  | 8 => tyX8 k
  | 9 => tyX9 k
  | _ => tyX10 k
def rf_num (ci : Nat) : Nat := match vwCl[ci]? with
  | some q => q.2.2
  | none => 0
/-! the checks: an entry is what the bytes hold, and its link stands in the tables -/
def rf_tb : List Jvm.Cond := lw_tbl.filter goodWord
def rf_dec (cc : ByteArray) (pc : Nat) (i : Instr) (n nxt : Nat) : Bool := decide (decode cc pc = .ok (i, n)) && Nat.beq nxt (pc + n)
def rf_lk (i : Nat) (w : Cond) : Bool := decide (lw_tbl[i]? = some w)
def rf_c4 (b : Nat) : Fin 4 := Fin.ofNat 4 b
def rf_cop (b : Nat) : Jvm.ClassFile.Cond := match b with
  | 0 => .eq
  | 1 => .ne
  | 2 => .lt
  | 3 => .ge
  | 4 => .gt
  | _ => .le
def rf_pl (d : String) : Option Nat := (parseMethodDescriptor d).map (fun q => q.parameters.length)
def rf_okc (c : String) : Bool := decide (c ≠ "java/lang/invoke/MethodHandle") && decide (c ≠ "java/lang/invoke/VarHandle")
/-- the pairs of a table switch, out of its offsets -/
def rf_tsw (pc : Nat) : Int → List Int → List (Int × Nat) → Bool
  | _, [], [] => true
  | lo, o :: os, (k, t) :: r => decide (k = lo) && decide ((pc : Int) + o = (t : Int)) && rf_tsw pc (lo + 1) os r
  | _, _, _ => false
def rf_lsw (pc : Nat) : List (Int × Int) → List (Int × Nat) → Bool
  | [], [] => true
  | (k, o) :: r, (k', t) :: r' => decide (k = k') && decide ((pc : Int) + o = (t : Int)) && rf_lsw pc r r'
  | _, _ => false
def rf_chk (ms : List rf_M) (own : String) (cc : ByteArray) (nm : String) (nL : Nat) (ret : Option FieldType) (pc : Nat) (E : rf_E) : Bool :=
  match E with
  | (op, a, b, c, x, nxt, sw) =>
  match op with
  | 0 => (match c with
    | 0 => rf_dec cc pc (.iconst a) 1 nxt
    | 1 => rf_dec cc pc (.bipush a) 2 nxt && decide ((Int8.ofInt a).toInt32 = Int32.ofInt a)
    | 2 => rf_dec cc pc (.sipush a) 3 nxt && decide ((Int16.ofInt a).toInt32 = Int32.ofInt a)
    | 3 => rf_dec cc pc (.ldc b) 2 nxt && rf_lk x (.constant own b (Int32.ofInt a))
    | _ => rf_dec cc pc (.ldc_w b) 3 nxt && rf_lk x (.constant own b (Int32.ofInt a)))
  | 1 => (match c with
    | 0 => rf_dec cc pc (.lconst (Fin.ofNat 2 b)) 1 nxt && decide (Int64.ofNat ((Fin.ofNat 2 b : Fin 2) : Nat) = Int64.ofInt a)
    | _ => rf_dec cc pc (.ldc2_w b) 3 nxt && rf_lk x (.constantLong own b (Int64.ofInt a)))
  | 2 => (match c with
    | 0 => rf_dec cc pc (.iload_n (rf_c4 b)) 1 nxt && Nat.blt b 4
    | _ => rf_dec cc pc (.iload b) 2 nxt)
  | 3 => (match c with
    | 0 => rf_dec cc pc (.lload_n (rf_c4 b)) 1 nxt && Nat.blt b 4
    | _ => rf_dec cc pc (.lload b) 2 nxt)
  | 4 => (match c with
    | 0 => rf_dec cc pc (.aload_n (rf_c4 b)) 1 nxt && Nat.blt b 4
    | _ => rf_dec cc pc (.aload b) 2 nxt)
  | 5 => (match c with
    | 0 => rf_dec cc pc (.istore_n (rf_c4 b)) 1 nxt && Nat.blt b 4
    | _ => rf_dec cc pc (.istore b) 2 nxt) && Nat.blt b nL
  | 6 => (match c with
    | 0 => rf_dec cc pc (.astore_n (rf_c4 b)) 1 nxt && Nat.blt b 4
    | _ => rf_dec cc pc (.astore b) 2 nxt) && Nat.blt b nL
  | 8 => rf_dec cc pc (.iinc b a) 3 nxt && Nat.blt b nL
  | 9 => (match b with
    | 0 => rf_dec cc pc .iadd 1 nxt
    | 1 => rf_dec cc pc .isub 1 nxt
    | 2 => rf_dec cc pc .imul 1 nxt
    | 3 => rf_dec cc pc .iand 1 nxt
    | 4 => rf_dec cc pc .ior 1 nxt
    | 5 => rf_dec cc pc .ixor 1 nxt
    | 6 => rf_dec cc pc .ishl 1 nxt
    | 7 => rf_dec cc pc .ishr 1 nxt
    | _ => rf_dec cc pc .iushr 1 nxt)
  | 10 => rf_dec cc pc .idiv 1 nxt
  | 11 => rf_dec cc pc .irem 1 nxt
  | 12 => rf_dec cc pc .ineg 1 nxt
  | 13 => rf_dec cc pc .i2l 1 nxt
  | 14 => rf_dec cc pc .l2i 1 nxt
  | 15 => rf_dec cc pc .i2b 1 nxt
  | 16 => rf_dec cc pc .i2s 1 nxt
  | 17 => (match b with
    | 0 => rf_dec cc pc .land 1 nxt
    | _ => rf_dec cc pc .lor 1 nxt)
  | 18 => rf_dec cc pc .lshl 1 nxt
  | 19 => rf_dec cc pc .lcmp 1 nxt
  | 20 => rf_dec cc pc .dup 1 nxt
  | 21 => rf_dec cc pc .dup_x1 1 nxt
  | 22 => rf_dec cc pc .dup2 1 nxt
  | 23 => rf_dec cc pc .pop 1 nxt
  | 24 => rf_dec cc pc .pop2 1 nxt
  | 25 => rf_dec cc pc (.ifCond (rf_cop b) a) 3 nxt && decide ((pc : Int) + a = (c : Int))
  | 26 => rf_dec cc pc (.if_icmp (rf_cop b) a) 3 nxt && decide ((pc : Int) + a = (c : Int))
  | 27 => rf_dec cc pc (.goto a) 3 nxt && decide ((pc : Int) + a = (c : Int))
  | 28 => (match decode cc pc with
    | .ok (.lookupswitch d ps, _) => decide ((pc : Int) + d = (c : Int)) && rf_lsw pc ps.toList sw && (ps.toList.zip (ps.toList.drop 1)).all (fun (a, next) => a.1 < next.1)
    | .ok (.tableswitch d lo hi offs, _) => decide ((pc : Int) + d = (c : Int)) && decide (hi = lo + (offs.size : Int) - 1) && rf_tsw pc lo offs.toList sw
    | _ => false)
  | 29 => rf_dec cc pc (.getfield a.toNat) 3 nxt && rf_lk x (.fieldLink own a.toNat (rf_fld b c).1 (rf_fld b c).2.1 (rf_fld b c).2.2.1) && Nat.blt c (rf_num b) && Nat.blt b 11
  | 30 => rf_dec cc pc (.putfield a.toNat) 3 nxt && rf_lk x (.fieldLink own a.toNat (rf_fld b c).1 (rf_fld b c).2.1 (rf_fld b c).2.2.1) && Nat.blt c (rf_num b) && Nat.blt b 11 && (!(rf_fld b c).2.2.2 || (decide (nm = "<init>") && decide ((rf_fld b c).1 = own)))
  | 31 => (match b with
    | 0 => rf_dec cc pc (.getstatic a.toNat) 3 nxt && rf_lk x (.fieldLink own a.toNat "LeftByLast$Acts" "BODY" "[I")
    | 1 => rf_dec cc pc (.getstatic a.toNat) 3 nxt && rf_lk x (.fieldLink own a.toNat "LeftByLast$Acts" "ABOVE" "[I")
    | _ => false)
  | 32 => rf_dec cc pc .iaload 1 nxt
  | 33 => rf_dec cc pc .iastore 1 nxt
  | 34 => rf_dec cc pc .laload 1 nxt
  | 35 => rf_dec cc pc .lastore 1 nxt
  | 36 => rf_dec cc pc .aaload 1 nxt
  | 37 => rf_dec cc pc .aastore 1 nxt
  | 38 => rf_dec cc pc .arraylength 1 nxt
  | 39 => rf_dec cc pc (.new a.toNat) 3 nxt && Nat.blt b 11 && (match vwCl[b]? with
    | some q => rf_lk x (.classLink own a.toNat q.1)
    | none => false)
  | 40 => (match b with
    | 0 => rf_dec cc pc (.newarray .int) 2 nxt
    | _ => rf_dec cc pc (.newarray .long) 2 nxt)
  | 41 => rf_dec cc pc (.anewarray a.toNat) 3 nxt && rf_lk x (.classLink own a.toNat "LeftByLast$Moment")
  | 42 => rf_dec cc pc (.invokespecial a.toNat) 3 nxt && rf_lk x (.methodLink own a.toNat objectInit)
  | 43 => rf_dec cc pc (.invokestatic a.toNat) 3 nxt && rf_lk x (.methodLink own a.toNat arraycopyName)
  | 44 => rf_dec cc pc (.invokestatic a.toNat) 3 nxt && rf_lk x (.methodLink own a.toNat Lib.Math.max.name)
  | 45 => rf_dec cc pc (.invokestatic a.toNat) 3 nxt && rf_lk x (.methodLink own a.toNat Lib.Math.min.name)
  | 46 => (match ms[b]? with
    | none => false
    | some mj => (match mj.2.1.1 with
      | 0 => rf_dec cc pc (.invokestatic a.toNat) 3 nxt && decide (rf_pl mj.1.1.desc = some c)
      | 1 => rf_dec cc pc (.invokevirtual a.toNat) 3 nxt && decide (rf_pl mj.1.1.desc = some (c - 1)) && Nat.blt 0 c
      | _ => rf_dec cc pc (.invokespecial a.toNat) 3 nxt && decide (rf_pl mj.1.1.desc = some (c - 1)) && Nat.blt 0 c && decide (mj.1.1.name = "<init>") && decide (mj.1.2.2.2.1 = none)) && (match sw with
        | [] => rf_lk x (.methodLink own a.toNat mj.1.1)
        | _ => rf_lk x (.methodLinkNest own a.toNat mj.1.1 "LeftByLast")))
  | 47 => rf_dec cc pc .return_ 1 nxt && decide (ret = none)
  | 48 => rf_dec cc pc .ireturn 1 nxt && decide (ret = some .int ∨ ret = some .boolean)
  | 49 => rf_dec cc pc .lreturn 1 nxt && decide (ret = some .long)
  | 50 => rf_dec cc pc .areturn 1 nxt && (match ret with
    | some (.object _) => true
    | _ => false)
  | _ => false
def rf_chkT (ms : List rf_M) (mi : rf_M) (n : Nat) : Bool := (List.range n).all fun pc => match mi.2.2 pc with
  | none => true
  | some E => rf_chk ms mi.1.2.2.2.2 mi.1.2.1 mi.1.1.name mi.1.2.2.1 mi.1.2.2.2.1 pc E
/-- a stretch of a long method -/
def rf_chkR (ms : List rf_M) (mi : rf_M) (a n : Nat) : Bool := (List.range n).all fun i => match mi.2.2 (a + i) with
  | none => true
  | some E => rf_chk ms mi.1.2.2.2.2 mi.1.2.1 mi.1.1.name mi.1.2.2.1 mi.1.2.2.2.1 (a + i) E
def rf_chkW (mi : rf_M) : Bool := match mi.2.1.2.2.2.2.2 with
  | [i0, i1, i2, i3] => rf_lk i0 (.code mi.1.1 mi.1.2.1 mi.1.2.2.1 mi.1.2.2.2.1) && rf_lk i1 (.initialized mi.1.1.cls) && rf_okc mi.1.1.cls && plainName mi.1.1.cls && decide (mi.1.1.cls = mi.1.2.2.2.2) && Nat.ble mi.1.2.2.1 40 && (match mi.2.1.1 with
    | 0 => rf_lk i2 (.static mi.1.1)
    | 1 => rf_lk i2 (.instanceMethod mi.1.1) && rf_lk i3 (.selects mi.1.1.cls mi.1.1 mi.1.1) && decide ((vwCl[mi.2.1.2.2.2.2.1]?).map (·.1) = some mi.1.1.cls)
    | _ => rf_lk i2 (.instanceMethod mi.1.1))
  | _ => false
/-- a table, and nothing beyond n -/
def rf_gd (n : Nat) (t : Nat → Option rf_E) : Nat → Option rf_E := fun pc => bif Nat.blt pc n then t pc else none
theorem rf_gd_lt {n : Nat} {t : Nat → Option rf_E} {pc : Nat} {E : rf_E} (h : rf_gd n t pc = some E) : pc < n := by
  unfold rf_gd at h
  cases hb : Nat.blt pc n with
  | false => rw [hb] at h; cases h
  | true => exact Nat.le_of_ble_eq_true hb
theorem rf_chkR_at {ms : List rf_M} {mi : rf_M} {a n pc : Nat} {E : rf_E} (h : rf_chkR ms mi a n = true) (hE : mi.2.2 pc = some E) (h1 : a ≤ pc) (h2 : pc < a + n) : rf_chk ms mi.1.2.2.2.2 mi.1.2.1 mi.1.1.name mi.1.2.2.1 mi.1.2.2.2.1 pc E = true := by
  have h3 := List.all_eq_true.mp h (pc - a) (List.mem_range.mpr (by omega))
  rw [show a + (pc - a) = pc by omega, hE] at h3
  exact h3
