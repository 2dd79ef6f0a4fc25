/-! a configuration lies in a written one; what is known of a method is used at its calls -/
/-- written: numbers, locals, stack, scalars, and where each number of its own is found: a local (0), a scalar (1), on the stack (2) -/
abbrev zb_A : Type := zb_N × zb_L × List an_V × zb_D × List (Nat × Nat)
noncomputable def zb_sv (L : zb_L) (st : List an_V) (D : zb_D) (s : Nat × Nat) : Option an_V := match s.1 with
  | 0 => zb_get L s.2
  | 1 => zb_nth D s.2
  | _ => zb_nth st s.2
noncomputable def zb_dl (n0 : Nat) (ds : List an_V) (j : Nat) : Option an_V := bif Nat.blt j n0 then some (.inr (0, (j : Int), 0)) else zb_nth ds (j - n0)
def zb_ieq (a b : Int) : Bool := zb_le a b && zb_le b a
theorem zb_ieq_of {a b : Int} (h : zb_ieq a b = true) : a = b := by
  have h := an_and h
  have := zb_le_of h.1
  have := zb_le_of h.2
  omega
/-- v is d + c -/
noncomputable def zb_ex (env : zb_N) (d v : an_V) (c : Int) : Bool := match zb_pi env d, zb_pi env v with
  | some p, some q => (match p.1, q.1 with
    | some (k, x), some (j, y) => Nat.beq k j && zb_ieq y (x + c)
    | _, _ => false) || (zb_sing p && (zb_sing q && zb_ieq q.2.1 (p.2.1 + c)))
  | _, _ => false
/-- the same number of the entry -/
def zb_sid (n0 : Nat) (j c : Int) : an_V → Bool
  | .inr (0, k, d) => Nat.beq k.toNat j.toNat && (Nat.blt j.toNat n0 && zb_ieq c d)
  | _ => false
/-- the value v at the place l lies in a -/
noncomputable def zb_fv (env : zb_N) (n0 NA : Nat) (ds : List an_V) (srcs : List (Nat × Nat)) (l : Nat × Nat) (v a : an_V) : Bool := match a with
  | .inr (0, j, c) => zb_sid n0 j c v || Nat.blt j.toNat NA && (bif Nat.ble n0 j.toNat && (zb_ieq c 0 && (match zb_nth srcs (j.toNat - n0) with
      | some s => Nat.beq s.1 l.1 && Nat.beq s.2 l.2
      | none => false)) then zb_isI v else (match zb_dl n0 ds j.toNat with
      | some d => zb_ex env d v c
      | none => false))
  | .inr (3, _, _) => false
  | a => zb_sub env v a
noncomputable def zb_fz (env : zb_N) (n0 NA : Nat) (ds : List an_V) (srcs : List (Nat × Nat)) (k : Nat) (vs : List an_V) : Nat → List an_V → Bool :=
  List.rec (motive := fun _ => Nat → List an_V → Bool) (fun _ as => match as with
    | [] => true
    | _ => false) (fun v _ ih i as => match as with
    | a :: t => bif zb_fv env n0 NA ds srcs (k, i) v a then ih (i + 1) t else false
    | [] => false) vs
noncomputable def zb_fL1 (env : zb_N) (n0 NA : Nat) (ds : List an_V) (srcs : List (Nat × Nat)) (L : zb_L) (i : Nat) : Option an_V → Bool
  | none => true
  | some a => (match zb_get L i with
    | some v => zb_fv env n0 NA ds srcs (0, i) v a
    | none => false)
noncomputable def zb_fL (env : zb_N) (n0 NA : Nat) (ds : List an_V) (srcs : List (Nat × Nat)) (L : zb_L) (AL : zb_L) : Nat → Bool :=
  List.rec (motive := fun _ => Nat → Bool) (fun _ => true) (fun a _ ih i => bif zb_fL1 env n0 NA ds srcs L i a then ih (i + 1) else false) AL
def zb_fz1 (n0 NA i : Nat) (v a : an_V) (sr : List (Nat × Nat)) : Bool := match a, sr with
  | .inr (0, j, c), s :: _ => Nat.beq n0 0 && (Nat.beq j.toNat i && (zb_ieq c 0 && (Nat.beq s.1 1 && (Nat.beq s.2 i && (Nat.blt i NA && zb_isI v)))))
  | _, _ => false
/-- of the scalars: as zb_fz, the places in step -/
noncomputable def zb_fzs (env : zb_N) (n0 NA : Nat) (ds : List an_V) (srcs : List (Nat × Nat)) (vs : List an_V) : Nat → List an_V → List (Nat × Nat) → Bool :=
  List.rec (motive := fun _ => Nat → List an_V → List (Nat × Nat) → Bool) (fun _ as _ => match as with
    | [] => true
    | _ => false) (fun v _ ih i as sr => match as with
    | a :: t => bif zb_fz1 n0 NA i v a sr || zb_fv env n0 NA ds srcs (1, i) v a then ih (i + 1) t sr.tail else false
    | [] => false) vs
def zb_fe (b : Int × Int) (E : List (Int × Int)) : Bool := match E with
  | e :: _ => zb_le b.1 e.1 && zb_le e.2 b.2
  | [] => false
def zb_fd1 (i : Nat) (b : Int × Int) (d : an_V) (E : List (Int × Int)) : Bool := match d, E with
  | .inr (0, k, c), e :: _ => Nat.beq k.toNat i && (zb_le b.1 (e.1 + c) && zb_le (e.2 + c) b.2)
  | _, _ => false
noncomputable def zb_fd2 (env : zb_N) (b : Int × Int) (d : an_V) : Bool := match zb_pi env d with
  | some q => zb_le b.1 q.2.1 && zb_le q.2.2 b.2
  | none => false
noncomputable def zb_fd (env : zb_N) (i : Nat) (b : Int × Int) (E : List (Int × Int)) (dt : List an_V) : Bool := match dt with
  | d :: _ => zb_fd1 i b d E || zb_fd2 env b d
  | [] => false
/-- the bounds of the numbers, from i on; E: the bounds at hand from i on; dt: the values from i on -/
noncomputable def zb_fbz (env : zb_N) (n0 : Nat) (bs : List (Int × Int)) : Nat → List (Int × Int) → List an_V → Bool :=
  List.rec (motive := fun _ => Nat → List (Int × Int) → List an_V → Bool) (fun _ _ _ => true) (fun b _ ih i E dt => bif Nat.blt i n0 then (bif zb_fe b E then ih (i + 1) E.tail dt else false) else (bif zb_fd env i b E dt then ih (i + 1) E.tail dt.tail else false)) bs
def zb_oc {α : Type} (o : Option α) (r : Option (List α)) : Option (List α) := match o, r with
  | some v, some vs => some (v :: vs)
  | _, _ => none
theorem zb_oc_some {α : Type} {o : Option α} {r : Option (List α)} {l : List α} (h : zb_oc o r = some l) : ∃ v vs, o = some v ∧ r = some vs ∧ l = v :: vs := by
  unfold zb_oc at h
  split at h
  · cases h; exact ⟨_, _, rfl, rfl, rfl⟩
  · cases h
theorem zb_map_oc {α β : Type} (f : α → Option β) (a : α) (l : List α) : zb_map f (a :: l) = zb_oc (f a) (zb_map f l) := by
  show (match f a with
    | some b => (match zb_map f l with
      | some bs => some (b :: bs)
      | none => none)
    | none => none) = zb_oc (f a) (zb_map f l)
  cases f a with
  | none => cases zb_map f l <;> rfl
  | some b => cases zb_map f l <;> rfl
noncomputable def zb_sv1 (L : zb_L) (st : List an_V) (D : zb_D) (s : Nat × Nat) (i : Nat) (tl : List an_V) : Option an_V := bif Nat.beq s.1 1 && Nat.beq s.2 i then tl.head? else zb_sv L st D s
/-- the values of the numbers, places of scalars in step -/
noncomputable def zb_svz (L : zb_L) (st : List an_V) (D : zb_D) (srcs : List (Nat × Nat)) : Nat → List an_V → Option (List an_V) :=
  List.rec (motive := fun _ => Nat → List an_V → Option (List an_V)) (fun _ _ => some []) (fun s _ ih i tl => zb_oc (zb_sv1 L st D s i tl) (ih (i + 1) tl.tail)) srcs
theorem zb_svz_eq {L : zb_L} {st : List an_V} {D : zb_D} : ∀ (srcs : List (Nat × Nat)) (i : Nat) (tl : List an_V), tl = D.drop i → zb_svz L st D srcs i tl = zb_map (zb_sv L st D) srcs
  | [], _, _, _ => rfl
  | s :: r, i, tl, h => by
    have ih := zb_svz_eq (L := L) (st := st) r (i + 1) tl.tail (by rw [h, List.tail_drop])
    have e : zb_sv1 L st D s i tl = zb_sv L st D s := by
      unfold zb_sv1
      cases hc : (Nat.beq s.1 1 && Nat.beq s.2 i) with
      | false => rfl
      | true =>
        have h1 := an_and hc
        have e1 : s.1 = 1 := Nat.eq_of_beq_eq_true h1.1
        have e2 : s.2 = i := Nat.eq_of_beq_eq_true h1.2
        show tl.head? = zb_sv L st D s
        unfold zb_sv
        rw [e1]
        show tl.head? = zb_nth D s.2
        rw [zb_nth_eq, e2, h, List.head?_drop]
    rw [zb_map_oc]
    show zb_oc (zb_sv1 L st D s i tl) (zb_svz L st D r (i + 1) tl.tail) = _
    rw [e, ih]
/-- k + c ≤ j + d by a fact, or by two -/
noncomputable def zb_by (fs : List zb_F) (k : Nat) (c : Int) (j : Nat) (d : Int) : Bool :=
  zb_any (fun f => Nat.beq f.1 0 && (Nat.beq f.2.1 k && ((Nat.beq f.2.2.1 j && zb_le (f.2.2.2 + c) d) || zb_any (fun g => Nat.beq g.1 0 && (Nat.beq g.2.1 f.2.2.1 && (Nat.beq g.2.2.1 j && zb_le (f.2.2.2 + g.2.2.2 + c) d))) fs))) fs
/-- p ≤ q + c -/
noncomputable def zb_ent (fs : List zb_F) (p q : zb_q) (c : Int) : Bool := zb_le p.2.2 (q.2.1 + c) || (match p.1, q.1 with
  | some (k, x), some (j, y) => (Nat.beq k j && zb_le x (y + c)) || zb_by fs k x j (y + c)
  | _, _ => false)
/-! a row that holds each number below c: out of what the facts say of rows -/
def zb_smn (q : zb_q) (k : Nat) : Bool := match q.1 with
  | some (j, d) => Nat.beq j k && zb_ieq d 0
  | none => false
noncomputable def zb_jmap (env : zb_N) (a b : Nat) (c : zb_q) (l : List zb_q) : Bool :=
  zb_every (fun i => (match zb_nth env.1 a with
    | some B => zb_le B.2 (Int.ofNat i)
    | none => false) || zb_any (fun j => match zb_nth l j with
      | some q => zb_smn q (b + i) && (zb_le (Int.ofNat (j + 1)) c.2.1 || (Nat.ble j i && zb_smn c a))
      | none => false) [0, 1, 2, 3, 4, 5, 6]) [0, 1, 2, 3, 4, 5, 6]
/-- what the facts say of rows that lie in this one -/
noncomputable def zb_jfs (env : zb_N) (c : zb_q) (l : List zb_q) (fs : List zb_F) : List zb_F := List.rec (motive := fun _ => List zb_F) [] (fun f _ ih => bif Nat.beq f.1 3 && zb_jmap env f.2.1 f.2.2.1 c l then f :: ih else ih) fs
noncomputable def zb_jk (env : zb_N) (c : zb_q) (l : List zb_q) (fs : List zb_F) (k : Nat) : Bool :=
  zb_any (fun f => zb_smn c f.2.1 || (match zb_nth env.1 f.2.1 with
      | some B => zb_le (Int.ofNat (k + 1)) B.1
      | none => false)) fs || zb_any (fun j => match zb_nth l j with
    | some q => zb_le (Int.ofNat k) q.2.1 && (zb_le q.2.2 (Int.ofNat k) && zb_le (Int.ofNat (j + 1)) c.2.1)
    | none => false) [0, 1, 2, 3, 4, 5, 6]
noncomputable def zb_jq (env : zb_N) (c : zb_q) (l : List zb_q) : Bool := zb_any (fun f => Nat.beq f.1 3 && (zb_smn c f.2.1 && zb_jmap env f.2.1 f.2.2.1 c l)) env.2
noncomputable def zb_js (env : zb_N) (c : zb_q) (l : List zb_q) : Bool := zb_jq env c l || (zb_le c.2.2 7 && zb_every (fun k => zb_le c.2.2 (Int.ofNat k) || zb_jk env c l (zb_jfs env c l env.2) k) [0, 1, 2, 3, 4, 5, 6])
noncomputable def zb_jw (env : zb_N) (a : an_V) (ls : List an_V) (f : zb_q → List zb_q → Bool) : Bool := match zb_pi env a, zb_map (zb_pi env) ls with
  | some c, some l => f c l
  | _, _ => false
noncomputable def zb_jok (env : zb_N) (a : an_V) (ls : List an_V) : Bool := zb_jw env a ls (zb_jq env) || (match zb_prop2 env with
  | some e => zb_jw e a ls (zb_js e)
  | none => true)
noncomputable def zb_ffJ (env : zb_N) (n0 NA : Nat) (ds : List an_V) (a : an_V) (b : Nat) : Bool := Nat.blt (b + 6) NA && (match zb_map (zb_dl n0 ds) [b, b + 1, b + 2, b + 3, b + 4, b + 5, b + 6] with
  | some ls => zb_jok env a ls
  | none => false)
noncomputable def zb_ff (env : zb_N) (n0 NA : Nat) (ds : List an_V) (f : zb_F) : Bool := Nat.blt f.2.1 NA && (Nat.blt f.2.2.1 NA && (match zb_dl n0 ds f.2.1, zb_dl n0 ds f.2.2.1 with
  | some a, some b => (match zb_pi env a, zb_pi env b with
    | some p, some q => (match f.1 with
      | 0 => zb_ent env.2 p q f.2.2.2
      | 1 => false
      | 2 => zb_sle env.2 p q f.2.2.2
      | 3 => zb_ffJ env n0 NA ds a f.2.2.1
      | _ => false)
    | _, _ => false)
  | _, _ => false))
noncomputable def zb_fitd (n0 : Nat) (c : zb_C) (A : zb_A) (ds : List an_V) : Bool :=
  Nat.beq A.1.1.length (n0 + ds.length) && (zb_fL c.1 n0 A.1.1.length ds A.2.2.2.2 c.2.2.1 A.2.1 0 && (zb_fbz c.1 n0 A.1.1 0 c.1.1 ds && (zb_every (zb_ff c.1 n0 A.1.1.length ds) A.1.2 && (zb_fz c.1 n0 A.1.1.length ds A.2.2.2.2 2 c.2.2.2.1 0 A.2.2.1 && zb_fzs c.1 n0 A.1.1.length ds A.2.2.2.2 c.2.2.2.2 0 A.2.2.2.1 A.2.2.2.2))))
noncomputable def zb_fitA (n0 : Nat) (c : zb_C) (A : zb_A) : Option (List an_V) := zb_bnd (zb_svz c.2.2.1 c.2.2.2.1 c.2.2.2.2 A.2.2.2.2 0 c.2.2.2.2) fun ds => bif zb_fitd n0 c A ds then some ds else none
section
variable {T : zb_T} {len : Nat} {wr : Nat → Bool} {loc : Nat → Nat × Nat}
/-- what stands at a place -/
def zb_cw (loc : Nat → Nat × Nat) (L' : rf_L) (st' : List Value) (σ : rf_S) (s : Nat × Nat) : Option Value := match s.1 with
  | 0 => rf_get L' s.2
  | 1 => (match σ[(loc s.2).1]? with
    | some (.inr (_, fs)) => fs[(loc s.2).2]?
    | some (.inl (_, _, .inl f)) => some (.int (f (loc s.2).2))
    | _ => none)
  | _ => st'[s.2]?
def zb_int : Option Value → Int
  | some (.int x) => x.toInt
  | _ => 0
/-- the numbers of the written one -/
def zb_rA (loc : Nat → Nat × Nat) (n0 : Nat) (ρ : Nat → Int) (srcs : List (Nat × Nat)) (L' : rf_L) (st' : List Value) (σ : rf_S) : Nat → Int := fun j => if j < n0 then ρ j else zb_int ((srcs[j - n0]?).bind (zb_cw loc L' st' σ))
/-- each scalar has its place -/
def zb_lc2 (T : zb_T) (loc : Nat → Nat × Nat) (ns : Nat) : Prop := ∀ s, s < ns → (∃ ci ds v, T (loc s).1 = some (.inr (ci, ds)) ∧ ds[(loc s).2]? = some (0, s, v)) ∨ ∃ n b x, T (loc s).1 = some (.inl (0, n, .inr (9, b, x))) ∧ (loc s).2 < n ∧ b.toNat + (loc s).2 = s
theorem zb_gl_nth {N : Nat} {ρ : Nat → Int} : ∀ {as : List an_V} {vs : List Value} {i : Nat} {a : an_V}, zb_gl N ρ as vs → as[i]? = some a → ∃ v, vs[i]? = some v ∧ zb_g N ρ a v
  | [], _, i, a, _, h => by simp at h
  | a0 :: as, [], _, _, h, _ => h.elim
  | a0 :: as, v :: vs, 0, a, h, hi => by
    simp only [List.getElem?_cons_zero, Option.some.injEq] at hi
    subst hi
    exact ⟨v, rfl, h.1⟩
  | a0 :: as, v :: vs, i + 1, a, h, hi => by
    simp only [List.getElem?_cons_succ] at hi
    obtain ⟨w, h1, h2⟩ := zb_gl_nth h.2 hi
    exact ⟨w, by simpa using h1, h2⟩
variable {N : Nat} {ρ : Nat → Int} {env : zb_N} {L : zb_L} {L' : rf_L} {st : List an_V} {st' : List Value} {D : zb_D} {σ : rf_S}
theorem zb_scal {ns : Nat} (hlc : zb_lc2 T loc ns) (hD : D.length = ns) (hσ : zb_ss T len D N ρ σ) {s : Nat} {a : an_V} (h : D[s]? = some a) : ∃ w, zb_cw loc L' st' σ (1, s) = some w ∧ zb_g N ρ a w := by
  have hs : s < ns := by rw [← hD]; exact (List.getElem?_eq_some_iff.mp h).1
  rcases hlc s hs with ⟨ci, ds, v, h1, h2⟩ | ⟨n, b, x, h1, h2, h3⟩
  · obtain ⟨fs, f1, f2⟩ := zb_ss_obj hσ h1
    obtain ⟨w, w1, w2⟩ := f2.2 _ _ h2
    obtain ⟨a', a1, a2⟩ := w2
    rw [h] at a1
    cases a1
    refine ⟨w, ?_, a2⟩
    show (match σ[(loc s).1]? with
      | some (.inr (_, fs)) => fs[(loc s).2]?
      | some (.inl (_, _, .inl f)) => some (.int (f (loc s).2))
      | _ => none) = some w
    rw [f1]
    exact w1
  · obtain ⟨o, o1, o2⟩ := hσ.2 _ _ h1
    have o2 : zb_rw D N ρ 0 n (.inr (9, b, x)) o := o2
    unfold zb_rw at o2
    obtain ⟨-, f, rfl, o3⟩ := o2
    obtain ⟨a', a1, a2⟩ := o3 _ h2
    rw [h3, h] at a1
    cases a1
    refine ⟨_, ?_, a2⟩
    show (match σ[(loc s).1]? with
      | some (.inr (_, fs)) => fs[(loc s).2]?
      | some (.inl (_, _, .inl f)) => some (.int (f (loc s).2))
      | _ => none) = some (.int (f (loc s).2))
    rw [o1]
theorem zb_sv_ok {ns : Nat} (hlc : zb_lc2 T loc ns) (hD : D.length = ns) (hL : zb_gL N ρ L L') (hst : zb_gl N ρ st st') (hσ : zb_ss T len D N ρ σ) {s : Nat × Nat} {v : an_V} (h : zb_sv L st D s = some v) : ∃ w, zb_cw loc L' st' σ s = some w ∧ zb_g N ρ v w := by
  obtain ⟨k, i⟩ := s
  match k, h with
  | 0, h => exact hL i v h
  | 1, h =>
    have h : zb_nth D i = some v := h
    rw [zb_nth_eq] at h
    exact zb_scal hlc hD hσ h
  | k + 2, h =>
    have h : zb_nth st i = some v := h
    rw [zb_nth_eq] at h
    exact zb_gl_nth hst h
theorem zb_map_nth {α β : Type} {f : α → Option β} : ∀ {l : List α} {bs : List β} {i : Nat} {a : α}, zb_map f l = some bs → l[i]? = some a → ∃ b, bs[i]? = some b ∧ f a = some b
  | [], _, i, a, _, h => by simp at h
  | c :: l, bs, i, a, h, hi => by
    have h : (match f c with
      | some b => (match zb_map f l with
        | some bs => some (b :: bs)
        | none => none)
      | none => none) = some bs := h
    split at h
    case h_2 => cases h
    case h_1 b hb =>
    split at h
    case h_2 => cases h
    case h_1 ds hd =>
    cases h
    match i, hi with
    | 0, hi =>
      simp only [List.getElem?_cons_zero, Option.some.injEq] at hi
      subst hi
      exact ⟨b, rfl, hb⟩
    | i + 1, hi =>
      simp only [List.getElem?_cons_succ] at hi
      obtain ⟨d, d1, d2⟩ := zb_map_nth hd hi
      exact ⟨d, by simpa using d1, d2⟩
/-- all that the tests need: the numbers of the written one are what its places hold -/
def zb_dok (loc : Nat → Nat × Nat) (n0 : Nat) (ds : List an_V) (srcs : List (Nat × Nat)) (N : Nat) (ρ : Nat → Int) (L' : rf_L) (st' : List Value) (σ : rf_S) : Prop := n0 ≤ N ∧ ds.length = srcs.length ∧ ∀ (i : Nat) (s : Nat × Nat) (d : an_V), srcs[i]? = some s → ds[i]? = some d → ∃ w, zb_cw loc L' st' σ s = some w ∧ zb_g N ρ d w
theorem zb_rA_lt {n0 j : Nat} {srcs : List (Nat × Nat)} (h : j < n0) : zb_rA loc n0 ρ srcs L' st' σ j = ρ j := by
  unfold zb_rA
  rw [if_pos h]
theorem zb_dl_ok {n0 j : Nat} {ds : List an_V} {srcs : List (Nat × Nat)} {d : an_V} {q : zb_q} (he : zb_en N ρ env) (hd : zb_dok loc n0 ds srcs N ρ L' st' σ) (h : zb_dl n0 ds j = some d) (hq : zb_pi env d = some q) : zb_qk N ρ q (zb_rA loc n0 ρ srcs L' st' σ j) := by
  unfold zb_dl at h
  cases hj : Nat.blt j n0 with
  | true =>
    rw [hj] at h
    cases h
    have hj : j < n0 := Nat.le_of_ble_eq_true hj
    rw [zb_rA_lt hj]
    have e0 : zb_pi env (.inr (0, (j : Int), 0)) = (match zb_nth env.1 (j : Int).toNat with
      | some b => some (some ((j : Int).toNat, 0), b.1 + 0, b.2 + 0)
      | none => none) := rfl
    rw [e0, zb_nth_eq, Int.toNat_natCast] at hq
    split at hq
    case h_2 => cases hq
    case h_1 b hb =>
    cases hq
    have h3 := he.2.1 _ _ hb
    refine ⟨by show b.1 + 0 ≤ _; omega, by show _ ≤ b.2 + 0; omega, fun k c hk => ?_⟩
    cases hk
    have := hd.1
    exact ⟨by omega, by omega⟩
  | false =>
    rw [hj, cond_false, zb_nth_eq] at h
    have hj : ¬ j < n0 := fun q => by rw [show Nat.blt j n0 = true from Nat.ble_eq_true_of_le q] at hj; cases hj
    have hlt : j - n0 < srcs.length := by rw [← hd.2.1]; exact (List.getElem?_eq_some_iff.mp h).1
    have hs : srcs[j - n0]? = some srcs[j - n0] := List.getElem?_eq_getElem hlt
    obtain ⟨w, w1, w2⟩ := hd.2.2 _ _ _ hs h
    obtain ⟨x, rfl, g⟩ := zb_pi_ok he hq w2
    have e : zb_rA loc n0 ρ srcs L' st' σ j = x.toInt := by
      unfold zb_rA
      rw [if_neg hj, hs]
      show zb_int (zb_cw loc L' st' σ srcs[j - n0]) = _
      rw [w1]
      rfl
    rw [e]
    exact g
theorem zb_ex_ok {d v : an_V} {c z : Int} {w : Value} (he : zb_en N ρ env) (h : zb_ex env d v c = true) (hd : ∀ q, zb_pi env d = some q → zb_qk N ρ q z) (hv : zb_g N ρ v w) : ∃ x : Int32, w = .int x ∧ x.toInt = z + c := by
  unfold zb_ex at h
  split at h
  case h_2 => cases h
  case h_1 p q hp hq =>
  obtain ⟨x, rfl, g⟩ := zb_pi_ok he hq hv
  have gd := hd p hp
  refine ⟨x, rfl, ?_⟩
  rw [Bool.or_eq_true] at h
  rcases h with h | h
  · split at h
    case h_2 => cases h
    case h_1 k a j b hk hj =>
    have h := an_and h
    have e1 := Nat.eq_of_beq_eq_true h.1
    have e2 := zb_ieq_of h.2
    obtain ⟨-, g1⟩ := g.2.2 j b hj
    obtain ⟨-, g2⟩ := gd.2.2 k a hk
    subst e1
    omega
  · have h := an_and h
    have h2 := an_and h.2
    have s1 := zb_sing_ok h.1 gd
    have s2 := zb_sing_ok h2.1 g
    have e := zb_ieq_of h2.2
    omega
theorem zb_fv_ok {n0 NA : Nat} {ds : List an_V} {srcs : List (Nat × Nat)} {l : Nat × Nat} {v a : an_V} {w : Value} (h0 : n0 ≤ NA) (he : zb_en N ρ env) (hd : zb_dok loc n0 ds srcs N ρ L' st' σ) (h : zb_fv env n0 NA ds srcs l v a = true) (hl : zb_cw loc L' st' σ l = some w) (hv : zb_g N ρ v w) : zb_g NA (zb_rA loc n0 ρ srcs L' st' σ) a w := by
  unfold zb_fv at h
  split at h
  case h_1 j c =>
    rw [Bool.or_eq_true] at h
    rcases h with h | h
    · unfold zb_sid at h
      split at h
      case h_2 => cases h
      case h_1 k d =>
      have h1 := an_and h
      have h2 := an_and h1.2
      have e1 : k.toNat = j.toNat := Nat.eq_of_beq_eq_true h1.1
      have e2 : j.toNat < n0 := Nat.le_of_ble_eq_true h2.1
      have e3 := zb_ieq_of h2.2
      obtain ⟨g1, x, rfl, g2⟩ := hv
      exact ⟨by omega, x, rfl, by rw [zb_rA_lt e2, ← e1, e3]; exact g2⟩
    have h := an_and h
    have hj : j.toNat < NA := Nat.le_of_ble_eq_true h.1
    have h2 := h.2
    cases hb : (Nat.ble n0 j.toNat && (zb_ieq c 0 && (match zb_nth srcs (j.toNat - n0) with
      | some s => Nat.beq s.1 l.1 && Nat.beq s.2 l.2
      | none => false))) with
    | true =>
      rw [hb] at h2
      obtain ⟨x, rfl⟩ := zb_g_I hv h2
      have hb1 := an_and hb
      have hb2 := an_and hb1.2
      have e1 : n0 ≤ j.toNat := Nat.le_of_ble_eq_true hb1.1
      have e2 := zb_ieq_of hb2.1
      have hb3 := hb2.2
      rw [zb_nth_eq] at hb3
      split at hb3
      case h_2 => cases hb3
      case h_1 s hs =>
      have hb3 := an_and hb3
      have es : s = l := Prod.ext (Nat.eq_of_beq_eq_true hb3.1) (Nat.eq_of_beq_eq_true hb3.2)
      subst es
      refine ⟨hj, x, rfl, ?_⟩
      unfold zb_rA
      rw [if_neg (by omega), hs]
      show x.toInt = zb_int (zb_cw loc L' st' σ s) + c
      rw [hl, e2]
      show x.toInt = x.toInt + 0
      omega
    | false =>
      rw [hb] at h2
      have h2 : (match zb_dl n0 ds j.toNat with
        | some d => zb_ex env d v c
        | none => false) = true := h2
      split at h2
      case h_2 => cases h2
      case h_1 d hdl =>
      obtain ⟨x, rfl, e⟩ := zb_ex_ok he h2 (fun q hq => zb_dl_ok he hd hdl hq) hv
      exact ⟨hj, x, rfl, e⟩
  case h_2 => cases h
  case h_3 => exact zb_sub_ok he h hv
theorem zb_fz_ok {n0 NA : Nat} {ds : List an_V} {srcs : List (Nat × Nat)} {k : Nat} (h0 : n0 ≤ NA) (he : zb_en N ρ env) (hd : zb_dok loc n0 ds srcs N ρ L' st' σ) : ∀ {vs as : List an_V} (i0 : Nat), zb_fz env n0 NA ds srcs k vs i0 as = true → as.length = vs.length ∧ ∀ i v a w, vs[i]? = some v → as[i]? = some a → zb_cw loc L' st' σ (k, i0 + i) = some w → zb_g N ρ v w → zb_g NA (zb_rA loc n0 ρ srcs L' st' σ) a w
  | [], [], i0, _ => ⟨rfl, fun i v a w h => by simp at h⟩
  | [], _ :: _, i0, h => by cases h
  | _ :: _, [], i0, h => by cases h
  | v0 :: vs, a0 :: as, i0, h => by
    have h : (bif zb_fv env n0 NA ds srcs (k, i0) v0 a0 then zb_fz env n0 NA ds srcs k vs (i0 + 1) as else false) = true := h
    cases hb : zb_fv env n0 NA ds srcs (k, i0) v0 a0 with
    | false => rw [hb] at h; cases h
    | true =>
      rw [hb] at h
      obtain ⟨h1, h2⟩ := zb_fz_ok h0 he hd (i0 + 1) h
      refine ⟨by simp [h1], fun i v a w hv ha hw hg => ?_⟩
      match i, hv, ha, hw with
      | 0, hv, ha, hw =>
        simp only [List.getElem?_cons_zero, Option.some.injEq] at hv ha
        subst hv
        subst ha
        exact zb_fv_ok h0 he hd hb hw hg
      | i + 1, hv, ha, hw =>
        simp only [List.getElem?_cons_succ] at hv ha
        exact h2 i v a w hv ha (by rw [show i0 + 1 + i = i0 + (i + 1) by omega]; exact hw) hg
theorem zb_fL_ok {n0 NA : Nat} {ds : List an_V} {srcs : List (Nat × Nat)} (h0 : n0 ≤ NA) (he : zb_en N ρ env) (hd : zb_dok loc n0 ds srcs N ρ L' st' σ) (hL : zb_gL N ρ L L') : ∀ {AL : zb_L} (i0 : Nat), zb_fL env n0 NA ds srcs L AL i0 = true → ∀ i a, AL[i]? = some (some a) → ∃ w, rf_get L' (i0 + i) = some w ∧ zb_g NA (zb_rA loc n0 ρ srcs L' st' σ) a w
  | [], i0, _ => fun i a h => by simp at h
  | o :: AL, i0, h => by
    have h : (bif zb_fL1 env n0 NA ds srcs L i0 o then zb_fL env n0 NA ds srcs L AL (i0 + 1) else false) = true := h
    intro i a ha
    match i, ha with
    | 0, ha =>
      simp only [List.getElem?_cons_zero, Option.some.injEq] at ha
      subst ha
      cases hb : zb_fL1 env n0 NA ds srcs L i0 (some a) with
      | false => rw [hb] at h; cases h
      | true =>
        unfold zb_fL1 at hb
        dsimp only at hb
        split at hb
        case h_2 => cases hb
        case h_1 v hg =>
        obtain ⟨w, w1, w2⟩ := hL i0 v hg
        exact ⟨w, w1, zb_fv_ok h0 he hd hb w1 w2⟩
    | i + 1, ha =>
      simp only [List.getElem?_cons_succ] at ha
      cases hb : zb_fL1 env n0 NA ds srcs L i0 o with
      | false => rw [hb] at h; cases h
      | true =>
        rw [hb] at h
        obtain ⟨w, w1, w2⟩ := zb_fL_ok h0 he hd hL (i0 + 1) h i a ha
        exact ⟨w, by rw [show i0 + (i + 1) = i0 + 1 + i by omega]; exact w1, w2⟩
theorem zb_fz1_ok {n0 NA i : Nat} {v a : an_V} {sr : List (Nat × Nat)} (h : zb_fz1 n0 NA i v a sr = true) : ∃ j c s t, a = .inr (0, j, c) ∧ sr = s :: t ∧ (Nat.beq n0 0 && (Nat.beq j.toNat i && (zb_ieq c 0 && (Nat.beq s.1 1 && (Nat.beq s.2 i && (Nat.blt i NA && zb_isI v)))))) = true := by
  unfold zb_fz1 at h
  split at h
  · exact ⟨_, _, _, _, rfl, rfl, h⟩
  · cases h
theorem zb_fzs_ok {n0 NA : Nat} {ds : List an_V} {srcs : List (Nat × Nat)} (h0 : n0 ≤ NA) (he : zb_en N ρ env) (hd : zb_dok loc n0 ds srcs N ρ L' st' σ) : ∀ {vs as : List an_V} (i0 : Nat) (sr : List (Nat × Nat)), sr = srcs.drop i0 → zb_fzs env n0 NA ds srcs vs i0 as sr = true → as.length = vs.length ∧ ∀ i v a w, vs[i]? = some v → as[i]? = some a → zb_cw loc L' st' σ (1, i0 + i) = some w → zb_g N ρ v w → zb_g NA (zb_rA loc n0 ρ srcs L' st' σ) a w
  | [], [], i0, _, _, _ => ⟨rfl, fun i v a w h => by simp at h⟩
  | [], _ :: _, i0, _, _, h => by cases h
  | _ :: _, [], i0, _, _, h => by cases h
  | v0 :: vs, a0 :: as, i0, sr, hsr, h => by
    have h : (bif zb_fz1 n0 NA i0 v0 a0 sr || zb_fv env n0 NA ds srcs (1, i0) v0 a0 then zb_fzs env n0 NA ds srcs vs (i0 + 1) as sr.tail else false) = true := h
    rw [cond_eq_ite] at h
    split at h
    case isFalse => cases h
    case isTrue hb =>
      obtain ⟨h1, h2⟩ := zb_fzs_ok h0 he hd (i0 + 1) sr.tail (by rw [hsr, List.tail_drop]) h
      refine ⟨by simp [h1], fun i v a w hv ha hw hg => ?_⟩
      match i, hv, ha, hw with
      | 0, hv, ha, hw =>
        simp only [List.getElem?_cons_zero, Option.some.injEq] at hv ha
        subst hv
        subst ha
        rw [Bool.or_eq_true] at hb
        rcases hb with hb | hb
        · obtain ⟨j, c, s, sr', ea, esr, hb9⟩ := zb_fz1_ok hb
          subst ea
          have k1 := an_and hb9
          have k2 := an_and k1.2
          have k3 := an_and k2.2
          have k4 := an_and k3.2
          have k5 := an_and k4.2
          have k6 := an_and k5.2
          have e0 : n0 = 0 := Nat.eq_of_beq_eq_true k1.1
          have e1 : j.toNat = i0 := Nat.eq_of_beq_eq_true k2.1
          have e2 := zb_ieq_of k3.1
          have es : s = (1, i0) := Prod.ext (Nat.eq_of_beq_eq_true k4.1) (Nat.eq_of_beq_eq_true k5.1)
          have e3 : i0 < NA := Nat.le_of_ble_eq_true k6.1
          obtain ⟨x, rfl⟩ := zb_g_I hg k6.2
          have hs : srcs[i0]? = some (1, i0) := by
            rw [← es, ← List.head?_drop, ← hsr, esr]
            rfl
          refine ⟨by omega, x, rfl, ?_⟩
          unfold zb_rA
          rw [e0, if_neg (Nat.not_lt_zero _), Nat.sub_zero, e1, hs]
          show x.toInt = zb_int (zb_cw loc L' st' σ (1, i0)) + c
          rw [Nat.add_zero] at hw
          rw [hw, e2]
          show x.toInt = x.toInt + 0
          omega
        · exact zb_fv_ok h0 he hd hb hw hg
      | i + 1, hv, ha, hw =>
        simp only [List.getElem?_cons_succ] at hv ha
        exact h2 i v a w hv ha (by rw [show i0 + 1 + i = i0 + (i + 1) by omega]; exact hw) hg
theorem zb_fbz_ok {n0 : Nat} {ds : List an_V} {srcs : List (Nat × Nat)} (he : zb_en N ρ env) (hd : zb_dok loc n0 ds srcs N ρ L' st' σ) : ∀ {bs : List (Int × Int)} (i0 : Nat) (E : List (Int × Int)) (dt : List an_V), E = env.1.drop i0 → dt = ds.drop (i0 - n0) → zb_fbz env n0 bs i0 E dt = true → ∀ i b, bs[i]? = some b → b.1 ≤ zb_rA loc n0 ρ srcs L' st' σ (i0 + i) ∧ zb_rA loc n0 ρ srcs L' st' σ (i0 + i) ≤ b.2
  | [], i0, _, _, _, _, _ => fun i b h => by simp at h
  | b0 :: bs, i0, E, dt, hE, hdt, h => by
    have h : (bif Nat.blt i0 n0 then (bif zb_fe b0 E then zb_fbz env n0 bs (i0 + 1) E.tail dt else false) else (bif zb_fd env i0 b0 E dt then zb_fbz env n0 bs (i0 + 1) E.tail dt.tail else false)) = true := h
    have hE1 : E.tail = env.1.drop (i0 + 1) := by rw [hE, List.tail_drop]
    have hEh : ∀ e t, E = e :: t → env.1[i0]? = some e := fun e t q => by
      rw [← List.head?_drop, ← hE, q]
      rfl
    have step : ∀ dt', dt' = ds.drop (i0 + 1 - n0) → zb_fbz env n0 bs (i0 + 1) E.tail dt' = true → (b0.1 ≤ zb_rA loc n0 ρ srcs L' st' σ i0 ∧ zb_rA loc n0 ρ srcs L' st' σ i0 ≤ b0.2) → ∀ i b, (b0 :: bs)[i]? = some b → b.1 ≤ zb_rA loc n0 ρ srcs L' st' σ (i0 + i) ∧ zb_rA loc n0 ρ srcs L' st' σ (i0 + i) ≤ b.2 := by
      intro dt' h1 h2 h3 i b hb
      match i, hb with
      | 0, hb =>
        simp only [List.getElem?_cons_zero, Option.some.injEq] at hb
        subst hb
        exact h3
      | i + 1, hb =>
        simp only [List.getElem?_cons_succ] at hb
        rw [show i0 + (i + 1) = i0 + 1 + i by omega]
        exact zb_fbz_ok he hd (i0 + 1) E.tail dt' hE1 h1 h2 i b hb
    cases hc : Nat.blt i0 n0 with
    | true =>
      rw [hc, cond_true] at h
      have hi : i0 < n0 := Nat.le_of_ble_eq_true hc
      rw [cond_eq_ite] at h
      split at h
      case isFalse => cases h
      case isTrue hb =>
      have hb2 : ∃ e t, E = e :: t ∧ (zb_le b0.1 e.1 && zb_le e.2 b0.2) = true := by
        unfold zb_fe at hb
        split at hb
        · exact ⟨_, _, rfl, hb⟩
        · cases hb
      obtain ⟨e, t, eE, hb3⟩ := hb2
      have hb3 := an_and hb3
      have g := he.2.1 _ _ (hEh e t eE)
      have p1 := zb_le_of hb3.1
      have p2 := zb_le_of hb3.2
      refine step dt (by rw [hdt, show i0 - n0 = i0 + 1 - n0 by omega]) h ?_
      rw [zb_rA_lt hi]
      omega
    | false =>
      rw [hc, cond_false] at h
      have hi : ¬ i0 < n0 := fun q => by rw [show Nat.blt i0 n0 = true from Nat.ble_eq_true_of_le q] at hc; cases hc
      rw [cond_eq_ite] at h
      split at h
      case isFalse => cases h
      case isTrue hb =>
      have hb2 : ∃ d t, dt = d :: t ∧ (zb_fd1 i0 b0 d E || zb_fd2 env b0 d) = true := by
        unfold zb_fd at hb
        split at hb
        · exact ⟨_, _, rfl, hb⟩
        · cases hb
      obtain ⟨d, t, ed, hb3⟩ := hb2
      have hdl : zb_dl n0 ds i0 = some d := by
        unfold zb_dl
        rw [hc, cond_false, zb_nth_eq, ← List.head?_drop, ← hdt, ed]
        rfl
      refine step dt.tail (by rw [show i0 + 1 - n0 = (i0 - n0) + 1 by omega, ← List.tail_drop, ← hdt]) h ?_
      rw [Bool.or_eq_true] at hb3
      rcases hb3 with hb3 | hb3
      · have hb4 : ∃ k c e E', d = .inr (0, k, c) ∧ E = e :: E' ∧ (Nat.beq k.toNat i0 && (zb_le b0.1 (e.1 + c) && zb_le (e.2 + c) b0.2)) = true := by
          unfold zb_fd1 at hb3
          split at hb3
          · exact ⟨_, _, _, _, rfl, rfl, hb3⟩
          · cases hb3
        obtain ⟨k, c, e, E', e1, e2, hb5⟩ := hb4
        subst e1
        have k1 := an_and hb5
        have k2 := an_and k1.2
        have e3 : k.toNat = i0 := Nat.eq_of_beq_eq_true k1.1
        have p1 := zb_le_of k2.1
        have p2 := zb_le_of k2.2
        have hq : zb_pi env (.inr (0, k, c)) = some (some (k.toNat, c), e.1 + c, e.2 + c) := by
          show (match zb_nth env.1 k.toNat with
            | some b => some (some (k.toNat, c), b.1 + c, b.2 + c)
            | none => none) = _
          rw [zb_nth_eq, e3, hEh e E' e2]
        have g := zb_dl_ok he hd hdl hq
        have g1 := g.1
        have g2 := g.2.1
        dsimp only at g1 g2
        omega
      · unfold zb_fd2 at hb3
        split at hb3
        case h_2 => cases hb3
        case h_1 q hq =>
        have g := zb_dl_ok he hd hdl hq
        have k1 := an_and hb3
        have p1 := zb_le_of k1.1
        have p2 := zb_le_of k1.2
        have g1 := g.1
        have g2 := g.2.1
        omega
theorem zb_by_ok {k j : Nat} {c d : Int} (he : zb_en N ρ env) (h : zb_by env.2 k c j d = true) : ρ k + c ≤ ρ j + d := by
  obtain ⟨f, f1, f2⟩ := zb_any_ok h
  have g1 := an_and f2
  have g2 := an_and g1.2
  obtain ⟨a, b, b', x⟩ := f
  have e1 : a = 0 := Nat.eq_of_beq_eq_true g1.1
  have e2 : b = k := Nat.eq_of_beq_eq_true g2.1
  subst e1
  subst e2
  obtain ⟨-, -, h1⟩ := he.2.2 _ f1
  have g3 := g2.2
  rw [Bool.or_eq_true] at g3
  rcases g3 with g3 | g3
  · have g3 := an_and g3
    have e3 : b' = j := Nat.eq_of_beq_eq_true g3.1
    have e4 := zb_le_of g3.2
    subst e3
    dsimp only at e4
    omega
  · obtain ⟨g, m1, m2⟩ := zb_any_ok g3
    have m3 := an_and m2
    have m4 := an_and m3.2
    have m5 := an_and m4.2
    obtain ⟨a2, c2, c3, y⟩ := g
    have i1 : a2 = 0 := Nat.eq_of_beq_eq_true m3.1
    have i2 : c2 = b' := Nat.eq_of_beq_eq_true m4.1
    have i3 : c3 = j := Nat.eq_of_beq_eq_true m5.1
    have i4 := zb_le_of m5.2
    subst i1
    subst i2
    subst i3
    obtain ⟨-, -, h2⟩ := he.2.2 _ m1
    dsimp only at i4
    omega
theorem zb_ent_ok {p q : zb_q} {c z w : Int} (he : zb_en N ρ env) (h : zb_ent env.2 p q c = true) (hp : zb_qk N ρ p z) (hq : zb_qk N ρ q w) : z ≤ w + c := by
  unfold zb_ent at h
  rw [Bool.or_eq_true] at h
  rcases h with h | h
  · have := zb_le_of h
    have := hp.2.1
    have := hq.1
    omega
  · split at h
    case h_2 => cases h
    case h_1 k x j y hk hj =>
    obtain ⟨-, g1⟩ := hp.2.2 k x hk
    obtain ⟨-, g2⟩ := hq.2.2 j y hj
    rw [Bool.or_eq_true] at h
    rcases h with h | h
    · have h := an_and h
      have e1 := Nat.eq_of_beq_eq_true h.1
      have e2 := zb_le_of h.2
      subst e1
      omega
    · have := zb_by_ok he h
      omega
theorem zb_smn_ok {q : zb_q} {k : Nat} {z : Int} (h : zb_smn q k = true) (hq : zb_qk N ρ q z) : z = ρ k := by
  unfold zb_smn at h
  split at h
  case h_2 => cases h
  case h_1 j d hj =>
  have h := an_and h
  have e1 := Nat.eq_of_beq_eq_true h.1
  have e2 := zb_ieq_of h.2
  have g := (hq.2.2 j d hj).2
  rw [e1] at g
  omega
theorem zb_mem7 {i : Nat} (h : i < 7) : i ∈ [0, 1, 2, 3, 4, 5, 6] := by
  have : i = 0 ∨ i = 1 ∨ i = 2 ∨ i = 3 ∨ i = 4 ∨ i = 5 ∨ i = 6 := by omega
  rcases this with rfl | rfl | rfl | rfl | rfl | rfl | rfl <;> decide
theorem zb_lt7 {i : Nat} (h : i ∈ [0, 1, 2, 3, 4, 5, 6]) : i < 7 := by
  simp only [List.mem_cons, List.not_mem_nil, or_false] at h
  omega
def zb_jl (N : Nat) (ρ : Nat → Int) (l : List zb_q) (vl : Nat → Int) : Prop := ∀ (j : Nat) (q : zb_q), l[j]? = some q → zb_qk N ρ q (vl j)
theorem zb_jmap_ok {a b : Nat} {c : zb_q} {l : List zb_q} {vc : Int} {vl : Nat → Int} {k : Int} (he : zb_en N ρ env) (hc : zb_qk N ρ c vc) (hl : zb_jl N ρ l vl) (hJ : zb_Jv (ρ a) (fun i => ρ (b + i))) (h : zb_jmap env a b c l = true) (k0 : 0 ≤ k) (k1 : k < ρ a) : ∃ j : Nat, j < 7 ∧ (j : Int) < vc ∧ vl j = k := by
  obtain ⟨i, i1, i2, i3⟩ := hJ k k0 k1
  have i3 : ρ (b + i) = k := i3
  have h := zb_every_ok h i (zb_mem7 i1)
  rw [Bool.or_eq_true] at h
  rcases h with h | h
  · split at h
    case h_2 => cases h
    case h_1 B hB =>
    rw [zb_nth_eq] at hB
    have g := (he.2.1 _ _ hB).2
    have h := zb_le_of h
    have e : Int.ofNat i = (i : Int) := rfl
    omega
  · obtain ⟨j, j1, j2⟩ := zb_any_ok h
    split at j2
    case h_2 => cases j2
    case h_1 q hq =>
    rw [zb_nth_eq] at hq
    have j2 := an_and j2
    have g := zb_smn_ok j2.1 (hl j q hq)
    refine ⟨j, zb_lt7 j1, ?_, by omega⟩
    have j3 := j2.2
    rw [Bool.or_eq_true] at j3
    rcases j3 with j3 | j3
    · have j3 := zb_le_of j3
      have e : Int.ofNat (j + 1) = (j : Int) + 1 := rfl
      have := hc.1
      omega
    · have j3 := an_and j3
      have e1 := Nat.le_of_ble_eq_true j3.1
      have e2 := zb_smn_ok j3.2 hc
      omega
theorem zb_jq_ok {c : zb_q} {l : List zb_q} {vc : Int} {vl : Nat → Int} (he : zb_en N ρ env) (hc : zb_qk N ρ c vc) (hl : zb_jl N ρ l vl) (h : zb_jq env c l = true) : zb_Jv vc vl := by
  intro k k0 k1
  obtain ⟨f, f1, f2⟩ := zb_any_ok h
  have f3 := an_and f2
  have f4 := an_and f3.2
  obtain ⟨x, a, b, d⟩ := f
  have e3 : x = 3 := Nat.eq_of_beq_eq_true f3.1
  subst e3
  obtain ⟨-, -, hJ⟩ := he.2.2 _ f1
  have e := zb_smn_ok f4.1 hc
  have e : vc = ρ a := e
  exact zb_jmap_ok he hc hl hJ f4.2 k0 (by omega)
theorem zb_jfs_mem {c : zb_q} {l : List zb_q} {f : zb_F} : ∀ {fs : List zb_F}, f ∈ zb_jfs env c l fs → f ∈ fs ∧ f.1 = 3 ∧ zb_jmap env f.2.1 f.2.2.1 c l = true
  | [], h => absurd h List.not_mem_nil
  | g :: fs, h => by
    have h : f ∈ (bif Nat.beq g.1 3 && zb_jmap env g.2.1 g.2.2.1 c l then g :: zb_jfs env c l fs else zb_jfs env c l fs) := h
    cases hb : (Nat.beq g.1 3 && zb_jmap env g.2.1 g.2.2.1 c l) with
    | false =>
      rw [hb, cond_false] at h
      obtain ⟨h1, h2⟩ := zb_jfs_mem h
      exact ⟨List.mem_cons_of_mem _ h1, h2⟩
    | true =>
      rw [hb, cond_true] at h
      rcases List.mem_cons.mp h with h | h
      · subst h
        have hb := an_and hb
        exact ⟨List.mem_cons_self, Nat.eq_of_beq_eq_true hb.1, hb.2⟩
      · obtain ⟨h1, h2⟩ := zb_jfs_mem h
        exact ⟨List.mem_cons_of_mem _ h1, h2⟩
theorem zb_js_ok {c : zb_q} {l : List zb_q} {vc : Int} {vl : Nat → Int} (he : zb_en N ρ env) (hc : zb_qk N ρ c vc) (hl : zb_jl N ρ l vl) (h : zb_js env c l = true) : zb_Jv vc vl := by
  unfold zb_js at h
  rw [Bool.or_eq_true] at h
  rcases h with h | h
  · exact zb_jq_ok he hc hl h
  intro k k0 k1
  have h := an_and h
  have c7 := zb_le_of h.1
  have c8 := hc.2.1
  obtain ⟨n, rfl⟩ := Int.eq_ofNat_of_zero_le k0
  have hk := zb_every_ok h.2 n (zb_mem7 (by omega))
  have en : Int.ofNat n = (n : Int) := rfl
  rw [Bool.or_eq_true] at hk
  rcases hk with hk | hk
  · have hk := zb_le_of hk
    omega
  unfold zb_jk at hk
  rw [Bool.or_eq_true] at hk
  rcases hk with hk | hk
  · obtain ⟨f, f1, f5⟩ := zb_any_ok hk
    obtain ⟨f2, f3, f4⟩ := zb_jfs_mem f1
    obtain ⟨x, a, b, d⟩ := f
    have e3 : x = 3 := f3
    subst e3
    obtain ⟨-, -, hJ⟩ := he.2.2 _ f2
    refine zb_jmap_ok he hc hl hJ f4 k0 ?_
    rw [Bool.or_eq_true] at f5
    rcases f5 with f5 | f5
    · have e : vc = ρ a := zb_smn_ok f5 hc
      omega
    · split at f5
      case h_2 => cases f5
      case h_1 B hB =>
      rw [zb_nth_eq] at hB
      have g : B.1 ≤ ρ a := (he.2.1 _ _ hB).1
      have f5 := zb_le_of f5
      have e : Int.ofNat (n + 1) = (n : Int) + 1 := rfl
      omega
  · obtain ⟨j, j1, j2⟩ := zb_any_ok hk
    split at j2
    case h_2 => cases j2
    case h_1 q hq =>
    rw [zb_nth_eq] at hq
    have g := hl j q hq
    have j2 := an_and j2
    have j3 := an_and j2.2
    have m1 := zb_le_of j2.1
    have m2 := zb_le_of j3.1
    have m3 := zb_le_of j3.2
    have e : Int.ofNat (j + 1) = (j : Int) + 1 := rfl
    have g1 := g.1
    have g2 := g.2.1
    have g3 := hc.1
    exact ⟨j, zb_lt7 j1, by omega, by omega⟩
theorem zb_jw_ok {a : an_V} {ls : List an_V} {vc : Int} {vl : Nat → Int} {f : zb_q → List zb_q → Bool} (he : zb_en N ρ env) (hf : ∀ c l, zb_qk N ρ c vc → zb_jl N ρ l vl → f c l = true → zb_Jv vc vl) (hA : ∀ q, zb_pi env a = some q → zb_qk N ρ q vc) (hB : ∀ j d q, ls[j]? = some d → zb_pi env d = some q → zb_qk N ρ q (vl j)) (h : zb_jw env a ls f = true) : zb_Jv vc vl := by
  unfold zb_jw at h
  split at h
  case h_2 => cases h
  case h_1 c l hc hl =>
  refine hf c l (hA c hc) (fun j q hq => ?_) h
  have hlen := zb_map_len hl
  have hj : j < ls.length := by
    rw [← hlen]
    exact (List.getElem?_eq_some_iff.mp hq).1
  obtain ⟨q', q1, q2⟩ := zb_map_nth hl (List.getElem?_eq_getElem hj)
  rw [hq] at q1
  cases q1
  exact hB j _ q (List.getElem?_eq_getElem hj) q2
theorem zb_jok_ok {a : an_V} {ls : List an_V} {vc : Int} {vl : Nat → Int} (he : zb_en N ρ env) (hA : ∀ e q, zb_en N ρ e → zb_pi e a = some q → zb_qk N ρ q vc) (hB : ∀ e j d q, zb_en N ρ e → ls[j]? = some d → zb_pi e d = some q → zb_qk N ρ q (vl j)) (h : zb_jok env a ls = true) : zb_Jv vc vl := by
  unfold zb_jok at h
  rw [Bool.or_eq_true] at h
  rcases h with h | h
  · exact zb_jw_ok he (fun c l hc hl hh => zb_jq_ok he hc hl hh) (fun q hq => hA env q he hq) (fun j d q hd hq => hB env j d q he hd hq) h
  · obtain ⟨e, e1, e2⟩ := zb_prop2_ok he
    rw [e1] at h
    exact zb_jw_ok e2 (fun c l hc hl hh => zb_js_ok e2 hc hl hh) (fun q hq => hA e q e2 hq) (fun j d q hd hq => hB e j d q e2 hd hq) h
theorem zb_ff_ok {n0 NA : Nat} {ds : List an_V} {srcs : List (Nat × Nat)} {f : zb_F} (he : zb_en N ρ env) (hd : zb_dok loc n0 ds srcs N ρ L' st' σ) (h : zb_ff env n0 NA ds f = true) : zb_fk NA (zb_rA loc n0 ρ srcs L' st' σ) f := by
  obtain ⟨k, a, b, c⟩ := f
  have h1 := an_and h
  have h2 := an_and h1.2
  have ha : a < NA := Nat.le_of_ble_eq_true h1.1
  have hb : b < NA := Nat.le_of_ble_eq_true h2.1
  have h4 := h2.2
  dsimp only at h4
  split at h4
  case h_2 => cases h4
  case h_1 da db hda hdb =>
  split at h4
  case h_2 => cases h4
  case h_1 p q hp hq =>
  have ga := zb_dl_ok he hd hda hp
  have gb := zb_dl_ok he hd hdb hq
  match k, h4 with
  | 0, h4 => exact ⟨ha, hb, zb_ent_ok he h4 ga gb⟩
  | 1, h4 => cases h4
  | 2, h4 => exact ⟨ha, hb, zb_sle_ok he h4 ga gb⟩
  | k + 4, h4 => cases h4
  | 3, h4 =>
    have h4 : zb_ffJ env n0 NA ds da b = true := h4
    unfold zb_ffJ at h4
    have h5 := an_and h4
    have h6 : b + 6 < NA := Nat.le_of_ble_eq_true h5.1
    have h7 := h5.2
    split at h7
    case h_2 => cases h7
    case h_1 ls hls =>
    refine ⟨ha, h6, zb_jok_ok he (fun e q he' hq => zb_dl_ok he' hd hda hq) (fun e j d q he' hd' hq => ?_) h7⟩
    have hj : j < 7 := by
      have := (List.getElem?_eq_some_iff.mp hd').1
      rw [zb_map_len hls] at this
      exact this
    have e7 : ([b, b + 1, b + 2, b + 3, b + 4, b + 5, b + 6] : List Nat)[j]? = some (b + j) := by
      have : j = 0 ∨ j = 1 ∨ j = 2 ∨ j = 3 ∨ j = 4 ∨ j = 5 ∨ j = 6 := by omega
      rcases this with rfl | rfl | rfl | rfl | rfl | rfl | rfl <;> rfl
    obtain ⟨d', d1, d2⟩ := zb_map_nth hls e7
    rw [hd'] at d1
    cases d1
    exact zb_dl_ok he' hd d2 hq
/-- what a written one means -/
def zb_am (T : zb_T) (len : Nat) (A : zb_A) (N : Nat) (ρ : Nat → Int) (L' : rf_L) (st' : List Value) (σ : rf_S) : Prop := zb_en N ρ A.1 ∧ zb_gL N ρ A.2.1 L' ∧ zb_gl N ρ A.2.2.1 st' ∧ zb_ss T len A.2.2.2.1 N ρ σ
theorem zb_fzs_len {n0 NA : Nat} {ds : List an_V} {srcs : List (Nat × Nat)} : ∀ {vs as : List an_V} (i0 : Nat) (sr : List (Nat × Nat)), zb_fzs env n0 NA ds srcs vs i0 as sr = true → as.length = vs.length
  | [], [], i0, _, _ => rfl
  | [], _ :: _, i0, _, h => by cases h
  | _ :: _, [], i0, _, h => by cases h
  | v0 :: vs, a0 :: as, i0, sr, h => by
    have h : (bif zb_fz1 n0 NA i0 v0 a0 sr || zb_fv env n0 NA ds srcs (1, i0) v0 a0 then zb_fzs env n0 NA ds srcs vs (i0 + 1) as sr.tail else false) = true := h
    rw [cond_eq_ite] at h
    split at h
    case isFalse => cases h
    case isTrue hb =>
      have h1 := zb_fzs_len (i0 + 1) sr.tail h
      simp [h1]
theorem zb_fitA_ok {ns n0 : Nat} {c : zb_C} {A : zb_A} {ds : List an_V} (hloc : zb_loc T loc) (hlc : zb_lc2 T loc ns) (hDA : A.2.2.2.1.length = ns) (h0 : n0 ≤ N) (he : zb_en N ρ c.1) (hL : zb_gL N ρ c.2.2.1 L') (hst : zb_gl N ρ c.2.2.2.1 st') (hσ : zb_ss T len c.2.2.2.2 N ρ σ) (h : zb_fitA n0 c A = some ds) : zb_dok loc n0 ds A.2.2.2.2 N ρ L' st' σ ∧ zb_am T len A A.1.1.length (zb_rA loc n0 ρ A.2.2.2.2 L' st' σ) L' st' σ ∧ A.1.1.length = n0 + ds.length := by
  obtain ⟨env, pc, L, st, D⟩ := c
  obtain ⟨AE, AL, As, AD, srcs⟩ := A
  dsimp only at hDA he hL hst hσ
  obtain ⟨ds', d1, d2⟩ := zb_bnd_some h
  obtain ⟨d3, d4⟩ := zb_cond d2
  cases d4
  dsimp only at d1
  rw [zb_svz_eq srcs 0 D rfl] at d1
  have hD : D.length = ns := by
    unfold zb_fitd at d3
    dsimp only at d3
    rw [← hDA]
    exact (zb_fzs_len 0 _ (an_and (an_and (an_and (an_and (an_and d3).2).2).2).2).2).symm
  have hd : zb_dok loc n0 ds srcs N ρ L' st' σ := by
    refine ⟨h0, zb_map_len d1, fun i s d hs hdi => ?_⟩
    obtain ⟨b, b1, b2⟩ := zb_map_nth d1 hs
    rw [hdi] at b1
    cases b1
    exact zb_sv_ok hlc hD hL hst hσ b2
  unfold zb_fitd at d3
  dsimp only at d3
  have k1 := an_and d3
  have k2 := an_and k1.2
  have k3 := an_and k2.2
  have k4 := an_and k3.2
  have k5 := an_and k4.2
  have hlenA : AE.1.length = n0 + ds.length := Nat.eq_of_beq_eq_true k1.1
  have h0A : n0 ≤ AE.1.length := by omega
  have fz1 := zb_fz_ok h0A he hd 0 k5.1
  have fz2 := zb_fzs_ok h0A he hd 0 srcs rfl k5.2
  refine ⟨hd, ⟨⟨rfl, fun k b hb => ?_, fun f hf => zb_ff_ok he hd (zb_every_ok k4.1 f hf)⟩, fun i v hv => ?_, ?_, hσ.1, fun r t ht => ?_⟩, hlenA⟩
  · have := zb_fbz_ok he hd 0 env.1 ds rfl (by rw [Nat.zero_sub]; rfl) k3.1 k b hb
    rw [Nat.zero_add] at this
    exact this
  · unfold zb_get at hv
    rw [zb_nth_eq] at hv
    have hv2 : AL[i]? = some (some v) := by
      cases hx : AL[i]? with
      | none => dsimp only at hv; rw [hx] at hv; cases hv
      | some o => dsimp only at hv; rw [hx] at hv; dsimp only at hv; rw [hv]
    obtain ⟨w, w1, w2⟩ := zb_fL_ok h0A he hd hL 0 k2.1 i v hv2
    rw [Nat.zero_add] at w1
    exact ⟨w, w1, w2⟩
  · show zb_gl _ _ As st'
    have key : ∀ (ss : List Value) (vs as : List an_V) (i0 : Nat), zb_gl N ρ vs ss → as.length = vs.length → (∀ (i : Nat) (v a : an_V) (w : Value), vs[i]? = some v → as[i]? = some a → ss[i]? = some w → zb_g N ρ v w → zb_g AE.1.length (zb_rA loc n0 ρ srcs L' st' σ) a w) → zb_gl AE.1.length (zb_rA loc n0 ρ srcs L' st' σ) as ss := by
      intro ss
      induction ss with
      | nil =>
        intro vs as i0 hg hl hf
        cases vs with
        | nil => cases as with
          | nil => exact trivial
          | cons _ _ => cases hl
        | cons _ _ => exact hg.elim
      | cons x ss ih =>
        intro vs as i0 hg hl hf
        cases vs with
        | nil => exact hg.elim
        | cons v vs =>
          cases as with
          | nil => cases hl
          | cons a as =>
            refine ⟨hf 0 v a x rfl rfl rfl hg.1, ih vs as 0 hg.2 (by simpa using hl) (fun i v' a' w' h1 h2 h3 h4 => hf (i + 1) v' a' w' (by simpa using h1) (by simpa using h2) (by simpa using h3) h4)⟩
    exact key st' st As 0 hst fz1.1 (fun i v a w h1 h2 h3 h4 => fz1.2 i v a w h1 h2 (by rw [Nat.zero_add]; exact h3) h4)
  · obtain ⟨o, o1, o2⟩ := hσ.2 r t ht
    refine ⟨o, o1, ?_⟩
    have hcell : ∀ (s : Nat) (a0 : an_V) (w : Value), D[s]? = some a0 → zb_g N ρ a0 w → zb_cw loc L' st' σ (1, s) = some w → ∃ a1, AD[s]? = some a1 ∧ zb_g AE.1.length (zb_rA loc n0 ρ srcs L' st' σ) a1 w := by
      intro s a0 w a1 a2 hw
      have hs : s < ns := by rw [← hD]; exact (List.getElem?_eq_some_iff.mp a1).1
      have hsA : s < AD.length := by have := fz2.1; rw [hD] at this; omega
      exact ⟨AD[s], List.getElem?_eq_getElem hsA, fz2.2 s a0 AD[s] w a1 (List.getElem?_eq_getElem hsA) (by rw [Nat.zero_add]; exact hw) a2⟩
    rcases t with ⟨k, n, d⟩ | ⟨ci, gs⟩
    · show zb_rw AD _ _ k n d o
      have o2 : zb_rw D N ρ k n d o := o2
      unfold zb_rw at o2 ⊢
      split at o2
      case h_2 => exact o2
      case h_1 b x _ =>
        obtain ⟨h1, f, rfl, h3⟩ := o2
        refine ⟨h1, f, rfl, fun j hj => ?_⟩
        obtain ⟨c, c1, c2⟩ := h3 j hj
        subst h1
        refine hcell _ c _ c1 c2 ?_
        have hls := hloc.2 r n b x ht j hj
        show (match σ[(loc (b.toNat + j)).1]? with
          | some (.inr (_, fs)) => fs[(loc (b.toNat + j)).2]?
          | some (.inl (_, _, .inl f)) => some (.int (f (loc (b.toNat + j)).2))
          | _ => none) = some (.int (f j))
        rw [hls, o1]
    · rcases o with o | ⟨cj, fs⟩
      · exact o2.elim
      · refine ⟨o2.1, o2.2.1, fun cc g hg => ?_⟩
        obtain ⟨w, w1, w2⟩ := o2.2.2 cc g hg
        refine ⟨w, w1, ?_⟩
        obtain ⟨k, s, v0⟩ := g
        match k, w2, hg with
        | 0, w2, hg =>
          obtain ⟨a0, a1, a2⟩ := w2
          have hls := hloc.1 r ci gs cc s v0 ht hg
          refine hcell s a0 w a1 a2 ?_
          show (match σ[(loc s).1]? with
            | some (.inr (_, fs)) => fs[(loc s).2]?
            | some (.inl (_, _, .inl f)) => some (.int (f (loc s).2))
            | _ => none) = some w
          rw [hls, o1]
          exact w1
        | k + 1, w2, hg => exact w2
end
