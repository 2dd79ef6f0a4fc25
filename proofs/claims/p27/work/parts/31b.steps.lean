/-! the outer engine's steps: those that it takes itself, all others as the inner one -/
abbrev zc_Rs : Type := Option (List zc_C)
def zc_wf (wr : Nat → Bool) (q : Nat) : Bool := bif Nat.beq q 61 then true else bif Nat.beq q 88 then true else wr q
def zc_lift (G : zc_G) (r : zb_Rs) : zc_Rs := match r with
  | some ws => some (ws.map fun w => (w, G))
  | none => none
def zc_pm (k3 nxt : Nat) (L : zb_L) (r : List an_V) (D : zb_D) (G : zc_G) (e : zb_N × Nat × List zb_F) : zc_Rs := some [((e.1, nxt, L, .inr (k3, (e.2.1 : Int), 0) :: r, D), (e.2.2, G.2))]
/-- z less (number ky and cy): the difference of the two numbers by name, less cy -/
noncomputable def zc_sb (nxt : Nat) (env : zb_N) (L : zb_L) (r : List an_V) (D : zb_D) (G : zc_G) (kz ky : Nat) (cy : Int) (e : zb_N × Nat) : zc_Rs := some [((zc_str e.1 e.2 kz ky, nxt, L, .inr (0, (e.2 : Int), -cy) :: r, D), G)]
noncomputable def zc_o9 (b nxt : Nat) (env : zb_N) (L : zb_L) (st : List an_V) (D : zb_D) (G : zc_G) : zc_Rs := match st with
  | y :: z :: r => zb_bnd (zb_pi env z) fun qz => zb_bnd (zb_pi env y) fun qy => bif zb_sing qz && zb_sing qy then zc_lift G (zb_o9 false b nxt env L st D) else (match b, qz.1, qy.1 with
    | 1, some (kz, cz), some (ky, cy) => (match zb_nth env.1 kz, zb_nth env.1 ky with
      | some Z, some K => bif zb_ieq cz 0 && (zc_nw Z K && zb_fit (Z.1 - K.2 - cy) (Z.2 - K.1 - cy)) then zc_sb nxt env L r D G kz ky cy (zb_opn env 1 kz (ky : Int) (zb_vb env (zb_bin 1 (some (kz, 0), Z.1, Z.2) (some (ky, 0), K.1, K.2)))) else zc_lift G (zb_o9 true 1 nxt env L st D)
      | _, _ => none)
    | _, _, _ => zc_lift G (zb_o9 true b nxt env L st D))
  | _ => none
noncomputable def zc_o14 (nxt : Nat) (env : zb_N) (L : zb_L) (st : List an_V) (D : zb_D) (G : zc_G) : zc_Rs := match st with
  | .inr (3, k, .ofNat 0) :: r => zb_bnd (zb_pl env (.inr (3, k, .ofNat 0))) fun q => bif zb_fit q.2.1 q.2.2 then zc_lift G (zb_o14 nxt env L st D) else zc_pm 0 nxt L r D G (zc_opn env G.1 1 k.toNat 0 (zb_lo32, zb_hi32))
  | _ => zc_lift G (zb_o14 nxt env L st D)
noncomputable def zc_o15 (nxt : Nat) (env : zb_N) (L : zb_L) (st : List an_V) (D : zb_D) (G : zc_G) : zc_Rs := match st with
  | .inr (0, k, .ofNat 0) :: r => zc_pm 0 nxt L r D G (zc_opn env G.1 2 k.toNat 0 (-128, 127))
  | _ => zc_lift G (zb_o15 nxt env L st D)
noncomputable def zc_o16 (nxt : Nat) (env : zb_N) (L : zb_L) (st : List an_V) (D : zb_D) (G : zc_G) : zc_Rs := match st with
  | .inr (0, k, .ofNat 0) :: r => zc_pm 0 nxt L r D G (zc_opn env G.1 3 k.toNat 0 (-32768, 32767))
  | _ => zc_lift G (zb_o16 nxt env L st D)
noncomputable def zc_o17 (b nxt : Nat) (env : zb_N) (L : zb_L) (st : List an_V) (D : zb_D) (G : zc_G) : zc_Rs := match b, st with
  | 0, .inr (2, lo, hi) :: .inr (3, k, .ofNat 0) :: r => bif zb_ieq lo hi then zc_pm 3 nxt L r D G (zc_opn env G.1 5 k.toNat lo (zb_lo64, zb_hi64)) else zc_lift G (zb_o17 nxt env L st D)
  | _ + 1, .inr (3, j, .ofNat 0) :: .inr (3, k, .ofNat 0) :: r => zc_pm 3 nxt L r D G (zc_opn env G.1 6 k.toNat j (zb_lo64, zb_hi64))
  | _, _ => zc_lift G (zb_o17 nxt env L st D)
noncomputable def zc_o18 (nxt : Nat) (env : zb_N) (L : zb_L) (st : List an_V) (D : zb_D) (G : zc_G) : zc_Rs := match st with
  | .inr (1, lo, hi) :: .inr (3, k, .ofNat 0) :: r => bif zb_ieq lo hi then zc_pm 3 nxt L r D G (zc_opn env G.1 4 k.toNat lo (zb_lo64, zb_hi64)) else zc_lift G (zb_o18 nxt env L st D)
  | _ => zc_lift G (zb_o18 nxt env L st D)
/-- the shelf in whose row q lies, by what is known -/
noncomputable def zc_rn1 (env : zb_N) (q : zb_q) (d : Nat) : Bool := Nat.blt d 6 && (zb_le ((60 * d : Nat) : Int) q.2.1 && (zb_le q.2.2 ((60 * d + 59 : Nat) : Int) && (match zc_q env (80 + d) with
  | some z => zb_ent env.2 q z (((60 * d : Nat) : Int) - 1)
  | none => false)))
noncomputable def zc_bb (env : zb_N) (d : Nat) : Int × Int := match zc_q env (74 + d) with
  | some s => bif zb_le s.2.2 0 && zb_le 0 s.2.1 then (-128, 127) else (zb_lo64, zb_hi64)
  | none => (zb_lo64, zb_hi64)
noncomputable def zc_o34 (T : zb_T) (nxt : Nat) (env : zb_N) (L : zb_L) (st : List an_V) (D : zb_D) (G : zc_G) : zc_Rs := match st with
  | i :: .inl (.ref r0) :: r => (match zb_pi env i with
    | some q => (match q.1 with
      | some (k, c) => bif zc_rn1 env q (q.2.1.toNat / 60) && ((Nat.beq r0 61 && G.2.1.isEmpty) || (Nat.beq r0 88 && G.2.2.isEmpty)) then zc_pm 3 nxt L r D G (zc_opn env G.1 0 k c (zc_bb env (q.2.1.toNat / 60))) else zc_lift G (zb_o34 T 1 nxt env L st D)
      | none => zc_lift G (zb_o34 T 1 nxt env L st D))
    | none => none)
  | _ => zc_lift G (zb_o34 T 1 nxt env L st D)
def zc_is0 : an_V → Bool
  | .inr (2, lo, hi) => zb_ieq lo 0 && zb_ieq hi 0
  | _ => false
def zc_vok : an_V → Bool
  | .inr (3, _, _) => true
  | .inr (2, lo, hi) => zb_ieq lo hi
  | _ => false
def zc_zx (us : List zc_U) (m : Int) : List zc_U := match us with
  | (1, k, c, v) :: r => bif zb_ieq (c + (k : Int)) m then (1, k + 1, c, v) :: r else (1, 1, m, zb_topL) :: us
  | us => (1, 1, m, zb_topL) :: us
noncomputable def zc_ust (q : zb_q) (v : an_V) (us : List zc_U) : Option (List zc_U) := bif zb_sing q && zc_is0 v then some (zc_zx us q.2.1) else (match q.1 with
  | some (k, c) => bif zc_vok v then some ((0, k, c, v) :: us) else none
  | none => none)
noncomputable def zc_o35 (T : zb_T) (wr : Nat → Bool) (nxt : Nat) (env : zb_N) (L : zb_L) (st : List an_V) (D : zb_D) (G : zc_G) : zc_Rs := match st with
  | v :: i :: .inl (.ref r0) :: r => bif Nat.beq r0 61 then (zb_bnd (zb_pi env i) fun q => bif zb_ixs q 360 && zb_isL v then zb_bnd (zc_ust q v G.2.1) fun us => some [((env, nxt, L, r, D), (G.1, us, G.2.2))] else none)
      else bif Nat.beq r0 88 then (zb_bnd (zb_pi env i) fun q => bif zb_ixs q 360 && zb_isL v then zb_bnd (zc_ust q v G.2.2) fun us => some [((env, nxt, L, r, D), (G.1, G.2.1, us))] else none)
      else zc_lift G (zb_o33 T wr zb_isL 1 nxt env L st D)
  | _ => zc_lift G (zb_o33 T wr zb_isL 1 nxt env L st D)
/-- it is number k and 60 times a shelf -/
def zc_nm (v : an_V) (k : Nat) (c : Int) : Bool := match v with
  | .inr (0, j, d) => Nat.beq j.toNat k && zb_ieq d c
  | _ => false
def zc_sh (v : an_V) : Nat := match v with
  | .inr (0, _, c) => c.toNat / 60
  | _ => 0
noncomputable def zc_lo0 (env : zb_N) (k : Nat) : Bool := match zb_nth env.1 k with
  | some b => zb_le 0 b.1
  | none => false
noncomputable def zc_hi60 (env : zb_N) (k : Nat) : Bool := match zb_nth env.1 k with
  | some b => zb_le b.2 60
  | none => false
noncomputable def zc_cp (env : zb_N) (r : List an_V) (n d s : an_V) (sd dd : Nat) : Bool := zc_nm n 6 0 && (zc_nm s 3 ((60 * sd : Nat) : Int) && (zc_nm d 5 ((60 * dd : Nat) : Int) && (Nat.blt sd 6 && (Nat.blt dd 6 && (Nat.ble (an_cat r) 8 && (zc_lo0 env 3 && (zc_lo0 env 5 && (zc_lo0 env 6 && (zc_hi60 env (80 + sd) && (zc_hi60 env (80 + dd) && (zc_ls env 3 6 (80 + sd) && zc_ls env 5 6 (80 + dd))))))))))))
noncomputable def zc_o43 (T : zb_T) (wr : Nat → Bool) (nxt : Nat) (env : zb_N) (L : zb_L) (st : List an_V) (D : zb_D) (G : zc_G) : zc_Rs := match st with
  | n :: d :: .inl (.ref r1) :: s :: .inl (.ref r0) :: r => bif Nat.beq r1 61 && Nat.beq r0 61 then (bif zc_cp env r n d s (zc_sh s) (zc_sh d) then some [((env, nxt, L, r, D), (G.1, (3, 60 * zc_sh s, ((60 * zc_sh d : Nat) : Int), zb_topL) :: G.2.1, G.2.2))] else none) else zc_lift G (zb_o43 T wr nxt env L st D)
  | _ => zc_lift G (zb_o43 T wr nxt env L st D)
/-- a fact by what it is -/
noncomputable def zc_hf (fs : List zb_F) (kd a b : Nat) (c : Int) : Bool := zb_any (fun g => Nat.beq g.1 kd && (Nat.beq g.2.1 a && (Nat.beq g.2.2.1 b && zb_ieq g.2.2.2 c))) fs
noncomputable def zc_j1 (env : zb_N) (k : Nat) (c : Int) (f : zb_F) : Bool := Nat.beq f.1 3 && ((Nat.beq f.2.1 k && zb_ieq c 0) || (zc_hf env.2 0 f.2.1 k c && zc_hf env.2 0 k f.2.1 (-c)))
noncomputable def zc_jD (env : zb_N) (D : zb_D) (l : Nat) : Bool := zb_every (fun i => (match zb_nth D (46 + i) with
  | some v => zc_nm v (l + i) 0
  | none => false) && (match zb_nth env.1 (l + i) with
  | some b => zb_le 0 b.1 && zb_le b.2 6
  | none => false)) [0, 1, 2, 3, 4, 5, 6]
noncomputable def zc_jf (env : zb_N) (D : zb_D) (k : Nat) (c : Int) (fs : List zb_F) : Option Nat := List.rec (motive := fun _ => Option Nat) none (fun f _ ih => bif zc_j1 env k c f && zc_jD env D f.2.2.1 then some f.2.2.1 else ih) fs
noncomputable def zc_j2 (D : zb_D) (n : Nat) : zb_D := zb_upd (zb_upd (zb_upd (zb_upd (zb_upd (zb_upd (zb_upd D 46 (.inr (0, Int.ofNat n, 0))) 47 (.inr (0, Int.ofNat (n + 1), 0))) 48 (.inr (0, Int.ofNat (n + 2), 0))) 49 (.inr (0, Int.ofNat (n + 3), 0))) 50 (.inr (0, Int.ofNat (n + 4), 0))) 51 (.inr (0, Int.ofNat (n + 5), 0))) 52 (.inr (0, Int.ofNat (n + 6), 0))
noncomputable def zc_j3 (env : zb_N) (k : Nat) (c : Int) (b : Int × Int) : zb_N := (env.1 ++ [(0, 6), (0, 6), (0, 6), (0, 6), (0, 6), (0, 6), (0, 6), (b.1 + c + 1, b.2 + c + 1)], [(3, env.1.length + 7, env.1.length, 0), (0, env.1.length + 7, k, c + 1), (0, k, env.1.length + 7, -c - 1)] ++ env.2)
/-- the reference's row of customers takes the next one: it holds each number below -/
noncomputable def zc_o33 (T : zb_T) (wr : Nat → Bool) (nxt : Nat) (env : zb_N) (L : zb_L) (st : List an_V) (D : zb_D) (G : zc_G) : zc_Rs := match st with
  | .inr (0, k, c) :: .inr (0, k', c') :: .inl (.ref r0) :: r => bif Nat.beq r0 69 && (zb_ieq k k' && (zb_ieq c c' && wr 69)) then (match zb_nth env.1 k.toNat with
      | some b => bif zb_le 0 (b.1 + c) && zb_le (b.2 + c) 6 then (match zc_jf env D k.toNat c env.2 with
          | some _ => some [((zc_j3 env k.toNat c b, nxt, L, r, zc_j2 D env.1.length), G)]
          | none => zc_lift G (zb_o33c T wr nxt env L st D)) else zc_lift G (zb_o33c T wr nxt env L st D)
      | none => none) else zc_lift G (zb_o33c T wr nxt env L st D)
  | _ => zc_lift G (zb_o33c T wr nxt env L st D)
noncomputable def zc_stp (T : zb_T) (wr : Nat → Bool) (sl : Bool × List Nat) (E : rf_E) (env : zb_N) (L : zb_L) (st : List an_V) (D : zb_D) (G : zc_G) : zc_Rs := match E with
  | (op, a, b, c, x, nxt, sw) => bif Nat.beq op 9 && Nat.blt b 9 then zc_o9 b nxt env L st D G else bif Nat.beq op 14 then zc_o14 nxt env L st D G else bif Nat.beq op 15 then zc_o15 nxt env L st D G else bif Nat.beq op 16 then zc_o16 nxt env L st D G
    else bif Nat.beq op 17 then zc_o17 b nxt env L st D G else bif Nat.beq op 18 then zc_o18 nxt env L st D G else bif Nat.beq op 33 then zc_o33 T wr nxt env L st D G else bif Nat.beq op 34 then zc_o34 T nxt env L st D G else bif Nat.beq op 35 then zc_o35 T wr nxt env L st D G else bif Nat.beq op 43 then zc_o43 T wr nxt env L st D G
    else zc_lift G (zb_stp T wr sl (op, a, b, c, x, nxt, sw) env L st D)
def zc_In (T : zb_T) (len : Nat) (wr : Nat → Bool) (N : Nat) (ρ : Nat → Int) (f0 g0 : Nat → Int) (SA : rf_A) (E : rf_E) (ws : List zc_C) (L' : rf_L) (st' : List Value) (σ : rf_S) : Prop := ∃ w, w ∈ ws ∧ ∃ M ρ', N ≤ M ∧ zb_ag N ρ ρ' ∧ zb_en M ρ' w.1.1 ∧ ∃ r, rf_stp SA E L' st' σ = some r ∧ r.1 = w.1.2.1 ∧ zb_gL M ρ' w.1.2.2.1 r.2.1 ∧ zb_gl M ρ' w.1.2.2.2.1 r.2.2.1 ∧ zb_ss T len w.1.2.2.2.2 M ρ' r.2.2.2 ∧ (∀ q, zc_wf wr q = false → r.2.2.2[q]? = σ[q]?) ∧ zc_GR M ρ' f0 g0 w.2 r.2.2.2
section
variable {T : zb_T} {len : Nat} {wr : Nat → Bool} {N : Nat} {ρ : Nat → Int} {f0 g0 : Nat → Int} {SA : rf_A} {env : zb_N} {L : zb_L} {L' : rf_L} {st : List an_V} {st' : List Value} {D : zb_D} {σ : rf_S} {G : zc_G} {ws : List zc_C} {E : rf_E}
theorem zc_wf_of {q : Nat} (h : zc_wf wr q = false) : ¬ q = 61 ∧ ¬ q = 88 ∧ wr q = false := by
  unfold zc_wf at h
  cases h1 : Nat.beq q 61 with
  | true => rw [h1] at h; cases h
  | false =>
    rw [h1, cond_false] at h
    cases h2 : Nat.beq q 88 with
    | true => rw [h2] at h; cases h
    | false =>
      rw [h2, cond_false] at h
      exact ⟨fun e => (by rw [e] at h1; cases h1), fun e => (by rw [e] at h2; cases h2), h⟩
theorem zc_lift_ok {r : zb_Rs} (h61 : wr 61 = false) (h88 : wr 88 = false) (hG : zc_GR N ρ f0 g0 G σ) (hs : zc_lift G r = some ws) (h : ∀ vs, r = some vs → zb_In T len wr N ρ SA E vs L' st' σ) : zc_In T len wr N ρ f0 g0 SA E ws L' st' σ := by
  unfold zc_lift at hs
  split at hs
  case h_2 => cases hs
  case h_1 vs =>
  cases hs
  obtain ⟨w, w1, M, ρ', hM, hag, g1, q, g2, g3, g4, g5, g6, g7⟩ := h vs rfl
  exact ⟨(w, G), List.mem_map.mpr ⟨w, w1, rfl⟩, M, ρ', hM, hag, g1, q, g2, g3, g4, g5, g6, fun q hq => g7 q (zc_wf_of hq).2.2, zc_GR_ext hM hag (g7 61 h61) (g7 88 h88) hG⟩
theorem zc_memo {ms : List zb_F} {us1 us2 : List zc_U} {M : Nat} {ρ' : Nat → Int} (hM : N ≤ M) (hag : zb_ag N ρ ρ') (hG : zc_GR N ρ f0 g0 (ms, us1, us2) σ) {ms' : List zb_F} (h : ∀ f, f ∈ ms' → zc_mk M ρ' f0 f) : zc_GR M ρ' f0 g0 (ms', us1, us2) σ := ⟨h, (zc_GR_ext hM hag rfl rfl hG).2⟩
/-- a result found again, an int -/
theorem zc_pmI {nxt : Nat} {r : List an_V} {r2 : List Value} {m a : Nat} {b : Int} {bd : Int × Int} {res : Int32} (he : zb_en N ρ env) (hL : zb_gL N ρ L L') (hr : zb_gl N ρ r r2) (hσ : zb_ss T len D N ρ σ) (hG : zc_GR N ρ f0 g0 G σ) (hs : zc_pm 0 nxt L r D G (zc_opn env G.1 m a b bd) = some ws) (ha : a < N) (hb : 6 ≤ m → b.toNat < N) (hres : res.toInt = zc_mv f0 m (ρ a) b (ρ b.toNat)) (h1 : bd.1 ≤ res.toInt) (h2 : res.toInt ≤ bd.2) (hst : rf_stp SA E L' st' σ = some (nxt, L', .int res :: r2, σ)) : zc_In T len wr N ρ f0 g0 SA E ws L' st' σ := by
  cases hs
  obtain ⟨M, ρ', hM, hag, g1, g2, g3, g4⟩ := zc_opn_ok (bd := bd) he hG.1 ha hb hres h1 h2
  refine ⟨_, List.mem_cons_self, M, ρ', hM, hag, g1, _, hst, rfl, zb_gL_ext hM hag hL, ⟨⟨?_, res, rfl, ?_⟩, zb_gl_ext hM hag hr⟩, zb_ss_ext hM hag hσ, fun _ _ => rfl, zc_memo hM hag hG g4⟩
  · rw [Int.toNat_natCast]; exact g2
  · rw [Int.toNat_natCast, g3, Int.add_zero]
theorem zc_pmL {nxt : Nat} {r : List an_V} {r2 : List Value} {m a : Nat} {b : Int} {bd : Int × Int} {res : Int64} (he : zb_en N ρ env) (hL : zb_gL N ρ L L') (hr : zb_gl N ρ r r2) (hσ : zb_ss T len D N ρ σ) (hG : zc_GR N ρ f0 g0 G σ) (hs : zc_pm 3 nxt L r D G (zc_opn env G.1 m a b bd) = some ws) (ha : a < N) (hb : 6 ≤ m → b.toNat < N) (hres : res.toInt = zc_mv f0 m (ρ a) b (ρ b.toNat)) (h1 : bd.1 ≤ res.toInt) (h2 : res.toInt ≤ bd.2) (hst : rf_stp SA E L' st' σ = some (nxt, L', .long res :: r2, σ)) : zc_In T len wr N ρ f0 g0 SA E ws L' st' σ := by
  cases hs
  obtain ⟨M, ρ', hM, hag, g1, g2, g3, g4⟩ := zc_opn_ok (bd := bd) he hG.1 ha hb hres h1 h2
  refine ⟨_, List.mem_cons_self, M, ρ', hM, hag, g1, _, hst, rfl, zb_gL_ext hM hag hL, ⟨⟨?_, res, rfl, ?_⟩, zb_gl_ext hM hag hr⟩, zb_ss_ext hM hag hσ, fun _ _ => rfl, zc_memo hM hag hG g4⟩
  · rw [Int.toNat_natCast]; exact g2
  · rw [Int.toNat_natCast, g3, Int.add_zero]
theorem zc_nmI {k : Int} {w : Value} (h : zb_g N ρ (.inr (0, k, .ofNat 0)) w) : k.toNat < N ∧ ∃ x : Int32, w = .int x ∧ x.toInt = ρ k.toNat := by
  obtain ⟨h1, x, h2, h3⟩ := h
  exact ⟨h1, x, h2, by rw [h3]; exact Int.add_zero _⟩
theorem zc_nmL {k : Int} {w : Value} (h : zb_g N ρ (.inr (3, k, .ofNat 0)) w) : k.toNat < N ∧ ∃ x : Int64, w = .long x ∧ x.toInt = ρ k.toNat := by
  obtain ⟨h1, x, h2, h3⟩ := h
  exact ⟨h1, x, h2, by rw [h3]; exact Int.add_zero _⟩
theorem zc_s9 {a : Int} {b c x nxt : Nat} {sw : List (Int × Nat)} (h61 : wr 61 = false) (h88 : wr 88 = false) (he : zb_en N ρ env) (hL : zb_gL N ρ L L') (hst : zb_gl N ρ st st') (hσ : zb_ss T len D N ρ σ) (hG : zc_GR N ρ f0 g0 G σ) (hs : zc_o9 b nxt env L st D G = some ws) : zc_In T len wr N ρ f0 g0 SA (9, a, b, c, x, nxt, sw) ws L' st' σ := by
  unfold zc_o9 at hs
  split at hs
  case h_2 => cases hs
  case h_1 y z r =>
  obtain ⟨qz, z1, hs⟩ := zb_bnd_some hs
  obtain ⟨qy, y1, hs⟩ := zb_bnd_some hs
  cases hc : (zb_sing qz && zb_sing qy) with
  | true =>
    rw [hc, cond_true] at hs
    exact zc_lift_ok h61 h88 hG hs (fun vs hv => zb_s9 he hL hst hσ hv)
  | false =>
    rw [hc, cond_false] at hs
    split at hs
    case h_2 => exact zc_lift_ok h61 h88 hG hs (fun vs hv => zb_s9 he hL hst hσ hv)
    case h_1 kz cz ky cy hz hy h9 h10 =>
    split at hs
    case h_2 => cases hs
    case h_1 Z K hZ hK =>
    rw [zb_nth_eq] at hZ hK
    cases hc2 : (zb_ieq cz 0 && (zc_nw Z K && zb_fit (Z.1 - K.2 - cy) (Z.2 - K.1 - cy))) with
    | false =>
      rw [hc2, cond_false] at hs
      exact zc_lift_ok h61 h88 hG hs (fun vs hv => zb_s9 he hL hst hσ hv)
    | true =>
      rw [hc2, cond_true] at hs
      have c1 := an_and hc2
      have c2 := an_and c1.2
      have ez := zb_ieq_of c1.1
      have ef := zb_fit_of c2.2
      have n1 := an_and c2.1
      have n2 := an_and n1.2
      have n3 := an_and n2.2
      have n4 := an_and n3.2
      have n5 := an_and n4.2
      have u1 := zb_le_of n1.1
      have u2 := zb_le_of n2.1
      have u3 := zb_le_of n3.1
      have u4 := zb_le_of n4.1
      have u5 := zb_le_of n5.1
      have u6 := zb_le_of n5.2
      rw [zb_lo32_eq] at u1 u3 u5
      rw [zb_hi32_eq] at u2 u4 u6
      cases hs
      obtain ⟨w, r1, rfl, w1, w2⟩ := zb_gl_cons hst
      obtain ⟨w', r2, rfl, w3, w4⟩ := zb_gl_cons w2
      obtain ⟨y0, rfl, gy⟩ := zb_pi_ok he y1 w1
      obtain ⟨z0, rfl, gz⟩ := zb_pi_ok he z1 w3
      obtain ⟨kzN, kz2⟩ := gz.2.2 kz cz hz
      obtain ⟨kyN, ky2⟩ := gy.2.2 ky cy hy
      have bZ := he.2.1 _ _ hZ
      have bK := he.2.1 _ _ hK
      have ek : (Int32.ofInt (ρ ky)).toInt = ρ ky := Int32.toInt_ofInt_of_le (by omega) (by omega)
      have ezz : Int32.ofInt (ρ kz) = z0 := by rw [show ρ kz = z0.toInt by omega, Int32.ofInt_toInt]
      have hx : zb_qk N ρ (some (kz, 0), Z.1, Z.2) z0.toInt := ⟨by dsimp only; omega, by dsimp only; omega, fun k c hkc => by
        cases hkc
        exact ⟨kzN, by omega⟩⟩
      have hy' : zb_qk N ρ (some (ky, 0), K.1, K.2) (Int32.ofInt (ρ ky)).toInt := ⟨by rw [ek]; dsimp only; omega, by rw [ek]; dsimp only; omega, fun k c hkc => by
        cases hkc
        exact ⟨kyN, by rw [ek]; omega⟩⟩
      have hb := zb_vb_ok he (zb_bin_ok 1 hx hy')
      obtain ⟨M, ρ', hM, hag, g1, g2, g3⟩ := zb_opn_ok (m := 1) (c := (ky : Int)) (res := (rf_bin 1 z0 (Int32.ofInt (ρ ky))).toInt) (bd := zb_vb env (zb_bin 1 (some (kz, 0), Z.1, Z.2) (some (ky, 0), K.1, K.2))) he kzN (fun _ => by rw [Int.toNat_natCast]; exact kyN) (by
        show _ = (Int32.ofInt (ρ kz) - Int32.ofInt (ρ (ky : Int).toNat)).toInt
        rw [ezz, Int.toNat_natCast]
        rfl) hb.1 hb.2
      have ed : (rf_bin 1 z0 (Int32.ofInt (ρ ky))).toInt = ρ kz - ρ ky := by
        show (z0 - Int32.ofInt (ρ ky)).toInt = _
        rw [zb_sub' (by omega) (by omega), ek]
        omega
      have er : (z0 - y0).toInt = ρ kz - ρ ky - cy := by
        rw [zb_sub' (by omega) (by omega)]
        omega
      refine ⟨_, List.mem_cons_self, M, ρ', hM, hag, zc_str_ok g1, (nxt, L', .int (z0 - y0) :: r2, σ), rfl, rfl, zb_gL_ext hM hag hL, ⟨⟨?_, z0 - y0, rfl, ?_⟩, zb_gl_ext hM hag w4⟩, zb_ss_ext hM hag hσ, fun _ _ => rfl, zc_GR_ext hM hag rfl rfl hG⟩
      · rw [Int.toNat_natCast]; exact g2
      · rw [Int.toNat_natCast, g3, ed, er]
        omega
theorem zc_s14 {a : Int} {b c x nxt : Nat} {sw : List (Int × Nat)} (h61 : wr 61 = false) (h88 : wr 88 = false) (he : zb_en N ρ env) (hL : zb_gL N ρ L L') (hst : zb_gl N ρ st st') (hσ : zb_ss T len D N ρ σ) (hG : zc_GR N ρ f0 g0 G σ) (hs : zc_o14 nxt env L st D G = some ws) : zc_In T len wr N ρ f0 g0 SA (14, a, b, c, x, nxt, sw) ws L' st' σ := by
  unfold zc_o14 at hs
  split at hs
  case h_2 => exact zc_lift_ok h61 h88 hG hs (fun vs hv => zb_s14 he hL hst hσ hv)
  case h_1 k r =>
  obtain ⟨q, q1, hs⟩ := zb_bnd_some hs
  cases hf : zb_fit q.2.1 q.2.2 with
  | true =>
    rw [hf, cond_true] at hs
    exact zc_lift_ok h61 h88 hG hs (fun vs hv => zb_s14 he hL hst hσ hv)
  | false =>
    rw [hf, cond_false] at hs
    obtain ⟨w, r1, rfl, w1, w2⟩ := zb_gl_cons hst
    obtain ⟨k1, y, rfl, k2⟩ := zc_nmL w1
    refine zc_pmI (res := y.toInt32) he hL w2 hσ hG hs k1 (fun h => absurd h (by decide)) ?_ (zb_32 _).1 (zb_32 _).2 rfl
    rw [zc_mv_w (by decide)]
    show _ = (Int64.ofInt (ρ k.toNat)).toInt32.toInt
    rw [← k2, Int64.ofInt_toInt]
theorem zc_s15 {a : Int} {b c x nxt : Nat} {sw : List (Int × Nat)} (h61 : wr 61 = false) (h88 : wr 88 = false) (he : zb_en N ρ env) (hL : zb_gL N ρ L L') (hst : zb_gl N ρ st st') (hσ : zb_ss T len D N ρ σ) (hG : zc_GR N ρ f0 g0 G σ) (hs : zc_o15 nxt env L st D G = some ws) : zc_In T len wr N ρ f0 g0 SA (15, a, b, c, x, nxt, sw) ws L' st' σ := by
  unfold zc_o15 at hs
  split at hs
  case h_2 => exact zc_lift_ok h61 h88 hG hs (fun vs hv => zb_s15 he hL hst hσ hv)
  case h_1 k r =>
  obtain ⟨w, r1, rfl, w1, w2⟩ := zb_gl_cons hst
  obtain ⟨k1, y, rfl, k2⟩ := zc_nmI w1
  have h1 := Int8.le_toInt y.toInt8
  have h2 := Int8.toInt_lt y.toInt8
  refine zc_pmI (res := y.toInt8.toInt32) he hL w2 hσ hG hs k1 (fun h => absurd h (by decide)) ?_ (by rw [Int8.toInt_toInt32]; exact h1) (by rw [Int8.toInt_toInt32]; show _ ≤ (127 : Int); omega) rfl
  rw [zc_mv_w (by decide)]
  show _ = (Int32.ofInt (ρ k.toNat)).toInt8.toInt32.toInt
  rw [← k2, Int32.ofInt_toInt]
theorem zc_s16 {a : Int} {b c x nxt : Nat} {sw : List (Int × Nat)} (h61 : wr 61 = false) (h88 : wr 88 = false) (he : zb_en N ρ env) (hL : zb_gL N ρ L L') (hst : zb_gl N ρ st st') (hσ : zb_ss T len D N ρ σ) (hG : zc_GR N ρ f0 g0 G σ) (hs : zc_o16 nxt env L st D G = some ws) : zc_In T len wr N ρ f0 g0 SA (16, a, b, c, x, nxt, sw) ws L' st' σ := by
  unfold zc_o16 at hs
  split at hs
  case h_2 => exact zc_lift_ok h61 h88 hG hs (fun vs hv => zb_s16 he hL hst hσ hv)
  case h_1 k r =>
  obtain ⟨w, r1, rfl, w1, w2⟩ := zb_gl_cons hst
  obtain ⟨k1, y, rfl, k2⟩ := zc_nmI w1
  have h1 := Int16.le_toInt y.toInt16
  have h2 := Int16.toInt_lt y.toInt16
  refine zc_pmI (res := y.toInt16.toInt32) he hL w2 hσ hG hs k1 (fun h => absurd h (by decide)) ?_ (by rw [Int16.toInt_toInt32]; exact h1) (by rw [Int16.toInt_toInt32]; show _ ≤ (32767 : Int); omega) rfl
  rw [zc_mv_w (by decide)]
  show _ = (Int32.ofInt (ρ k.toNat)).toInt16.toInt32.toInt
  rw [← k2, Int32.ofInt_toInt]
theorem zc_s17 {a : Int} {b c x nxt : Nat} {sw : List (Int × Nat)} (h61 : wr 61 = false) (h88 : wr 88 = false) (he : zb_en N ρ env) (hL : zb_gL N ρ L L') (hst : zb_gl N ρ st st') (hσ : zb_ss T len D N ρ σ) (hG : zc_GR N ρ f0 g0 G σ) (hs : zc_o17 b nxt env L st D G = some ws) : zc_In T len wr N ρ f0 g0 SA (17, a, b, c, x, nxt, sw) ws L' st' σ := by
  unfold zc_o17 at hs
  split at hs
  case h_3 => exact zc_lift_ok h61 h88 hG hs (fun vs hv => zb_s17 he hL hst hσ hv)
  case h_1 lo hi k r =>
    cases hc : zb_ieq lo hi with
    | false =>
      rw [hc, cond_false] at hs
      exact zc_lift_ok h61 h88 hG hs (fun vs hv => zb_s17 he hL hst hσ hv)
    | true =>
      rw [hc, cond_true] at hs
      have ec := zb_ieq_of hc
      obtain ⟨w, r1, rfl, w1, w2⟩ := zb_gl_cons hst
      obtain ⟨u, r2, rfl, u1, u2⟩ := zb_gl_cons w2
      obtain ⟨y, rfl, y1, y2⟩ := w1
      obtain ⟨k1, z, rfl, k2⟩ := zc_nmL u1
      refine zc_pmL (res := z &&& y) he hL u2 hσ hG hs k1 (fun h => absurd h (by decide)) ?_ (zb_64 _).1 (zb_64 _).2 rfl
      rw [zc_mv_w (by decide)]
      show _ = (Int64.ofInt (ρ k.toNat) &&& Int64.ofInt lo).toInt
      rw [← k2, Int64.ofInt_toInt, show lo = y.toInt by omega, Int64.ofInt_toInt]
  case h_2 b' j k r =>
    obtain ⟨w, r1, rfl, w1, w2⟩ := zb_gl_cons hst
    obtain ⟨u, r2, rfl, u1, u2⟩ := zb_gl_cons w2
    obtain ⟨j1, y, rfl, j2⟩ := zc_nmL w1
    obtain ⟨k1, z, rfl, k2⟩ := zc_nmL u1
    refine zc_pmL (res := z ||| y) he hL u2 hσ hG hs k1 (fun _ => j1) ?_ (zb_64 _).1 (zb_64 _).2 rfl
    rw [zc_mv_o]
    rw [← k2, Int64.ofInt_toInt, ← j2, Int64.ofInt_toInt]
theorem zc_s18 {a : Int} {b c x nxt : Nat} {sw : List (Int × Nat)} (h61 : wr 61 = false) (h88 : wr 88 = false) (he : zb_en N ρ env) (hL : zb_gL N ρ L L') (hst : zb_gl N ρ st st') (hσ : zb_ss T len D N ρ σ) (hG : zc_GR N ρ f0 g0 G σ) (hs : zc_o18 nxt env L st D G = some ws) : zc_In T len wr N ρ f0 g0 SA (18, a, b, c, x, nxt, sw) ws L' st' σ := by
  unfold zc_o18 at hs
  split at hs
  case h_2 => exact zc_lift_ok h61 h88 hG hs (fun vs hv => zb_s18 he hL hst hσ hv)
  case h_1 lo hi k r =>
  cases hc : zb_ieq lo hi with
  | false =>
    rw [hc, cond_false] at hs
    exact zc_lift_ok h61 h88 hG hs (fun vs hv => zb_s18 he hL hst hσ hv)
  | true =>
    rw [hc, cond_true] at hs
    have ec := zb_ieq_of hc
    obtain ⟨w, r1, rfl, w1, w2⟩ := zb_gl_cons hst
    obtain ⟨u, r2, rfl, u1, u2⟩ := zb_gl_cons w2
    obtain ⟨y, rfl, y1, y2⟩ := w1
    obtain ⟨k1, z, rfl, k2⟩ := zc_nmL u1
    refine zc_pmL (res := z <<< (y.toInt64 &&& 63)) he hL u2 hσ hG hs k1 (fun h => absurd h (by decide)) ?_ (zb_64 _).1 (zb_64 _).2 rfl
    rw [zc_mv_w (by decide)]
    show _ = (Int64.ofInt (ρ k.toNat) <<< ((Int32.ofInt lo).toInt64 &&& 63)).toInt
    rw [← k2, Int64.ofInt_toInt, show lo = y.toInt by omega, Int32.ofInt_toInt]
theorem zc_rn1_ok {q : zb_q} {d : Nat} {z : Int} (he : zb_en N ρ env) (hq : zb_qk N ρ q z) (h : zc_rn1 env q d = true) : d < 6 ∧ ∃ j : Nat, j < 60 ∧ z = ((60 * d + j : Nat) : Int) ∧ (j : Int) < ρ (80 + d) := by
  unfold zc_rn1 at h
  have h1 := an_and h
  have h2 := an_and h1.2
  have h3 := an_and h2.2
  have a1 : d < 6 := Nat.le_of_ble_eq_true h1.1
  have a2 := zb_le_of h2.1
  have a3 := zb_le_of h3.1
  have h4 := h3.2
  split at h4
  case h_2 => cases h4
  case h_1 p hp =>
  have a4 := zb_ent_ok he h4 hq (zc_q_ok he hp).1
  have q1 := hq.1
  have q2 := hq.2.1
  refine ⟨a1, z.toNat - 60 * d, by omega, by omega, by omega⟩
theorem zc_bb_ok {d : Nat} {z : Int} (he : zb_en N ρ env) (h1 : zb_lo64 ≤ z ∧ z ≤ zb_hi64) (h2 : ρ (74 + d) = 0 → -128 ≤ z ∧ z ≤ 127) : (zc_bb env d).1 ≤ z ∧ z ≤ (zc_bb env d).2 := by
  unfold zc_bb
  split
  case h_2 => exact h1
  case h_1 s hs =>
  cases hc : (zb_le s.2.2 0 && zb_le 0 s.2.1) with
  | false => exact h1
  | true =>
    have hc := an_and hc
    have c1 := zb_le_of hc.1
    have c2 := zb_le_of hc.2
    have g := (zc_q_ok he hs).1
    have g1 := g.1
    have g2 := g.2.1
    exact h2 (by omega)
/-- what the two rows' places in the table are -/
def zc_T (T : zb_T) : Prop := T 61 = some (.inl (1, 360, zb_topL)) ∧ T 88 = some (.inl (1, 360, zb_topL)) ∧ T 69 = some (.inl (0, 7, .inr (9, ((46 : Nat) : Int), 0)))
theorem zc_s34 {a : Int} {b c x nxt : Nat} {sw : List (Int × Nat)} (hN : 86 ≤ N) (hCI : zc_CI ρ f0 g0) (h61 : wr 61 = false) (h88 : wr 88 = false) (he : zb_en N ρ env) (hL : zb_gL N ρ L L') (hst : zb_gl N ρ st st') (hσ : zb_ss T len D N ρ σ) (hG : zc_GR N ρ f0 g0 G σ) (hs : zc_o34 T nxt env L st D G = some ws) : zc_In T len wr N ρ f0 g0 SA (34, a, b, c, x, nxt, sw) ws L' st' σ := by
  unfold zc_o34 at hs
  split at hs
  case h_2 => exact zc_lift_ok h61 h88 hG hs (fun vs hv => zb_s34 he hL hst hσ hv)
  case h_1 i r0 r =>
  split at hs
  case h_2 => cases hs
  case h_1 q hq =>
  split at hs
  case h_2 => exact zc_lift_ok h61 h88 hG hs (fun vs hv => zb_s34 he hL hst hσ hv)
  case h_1 k kc hk =>
  cases hc : (zc_rn1 env q (q.2.1.toNat / 60) && ((Nat.beq r0 61 && G.2.1.isEmpty) || (Nat.beq r0 88 && G.2.2.isEmpty))) with
  | false =>
    rw [hc, cond_false] at hs
    exact zc_lift_ok h61 h88 hG hs (fun vs hv => zb_s34 he hL hst hσ hv)
  | true =>
    rw [hc, cond_true] at hs
    have hc := an_and hc
    obtain ⟨w, r1, rfl, w1, w2⟩ := zb_gl_cons hst
    obtain ⟨u, r2, rfl, u1, u2⟩ := zb_gl_cons w2
    have u1 : u = .ref r0 := u1
    subst u1
    obtain ⟨z, rfl, z1⟩ := zb_pi_ok he hq w1
    obtain ⟨d1, j, j1, j2, j3⟩ := zc_rn1_ok he z1 hc.1
    obtain ⟨c1, c2⟩ := hCI.2 _ d1 j j1 j3
    obtain ⟨k1, k2⟩ := z1.2.2 k kc hk
    have hx : 60 * (q.2.1.toNat / 60) + j < 360 := by omega
    have ez : z.toNatClampNeg = 60 * (q.2.1.toNat / 60) + j := by
      show z.toInt.toNat = _
      omega
    have g0' : ¬ z < 0 := fun e => by
      have e := Int32.lt_iff_toInt_lt.mp e
      have e0 : (0 : Int32).toInt = 0 := rfl
      omega
    have gix : rf_ixs z 360 = true := an_ixs g0' (by omega)
    have main : ∀ (f : Nat → Int64), σ[r0]? = some (.inl (1, 360, .inr (.inl f))) → (f z.toNatClampNeg).toInt = f0 (60 * (q.2.1.toNat / 60) + j) → zc_In T len wr N ρ f0 g0 SA (34, a, b, c, x, nxt, sw) ws L' (.int z :: .ref r0 :: r2) σ := fun f f1 f2 => by
      have hb := zc_bb_ok (z := (f z.toNatClampNeg).toInt) (d := q.2.1.toNat / 60) he (zb_64 _) (fun hs0 => by rw [f2]; exact c2 hs0)
      refine zc_pmL (res := f z.toNatClampNeg) he hL u2 hσ hG hs k1 (fun h => absurd h (by decide)) ?_ hb.1 hb.2 (by simp only [rf_stp, f1, gix, cond_true])
      rw [zc_mv_w (by decide)]
      show _ = f0 (ρ k + kc).toNat
      rw [f2, k2, j2, Int.toNat_natCast]
    have h2 := hc.2
    rw [Bool.or_eq_true] at h2
    rcases h2 with h2 | h2
    · have h2 := an_and h2
      have e0 : r0 = 61 := Nat.eq_of_beq_eq_true h2.1
      subst e0
      obtain ⟨f, f1, f2⟩ := hG.2.2.2.1
      have e1 : G.2.1 = [] := List.isEmpty_iff.mp h2.2
      rw [e1] at f2
      exact main f f1 (by rw [ez]; exact f2 _ hx)
    · have h2 := an_and h2
      have e0 : r0 = 88 := Nat.eq_of_beq_eq_true h2.1
      subst e0
      obtain ⟨f, f1, f2⟩ := hG.2.2.2.2
      have e1 : G.2.2 = [] := List.isEmpty_iff.mp h2.2
      rw [e1] at f2
      exact main f f1 (by rw [ez, c1]; exact f2 _ hx)
theorem zc_is0_ok {v : an_V} {y : Int64} (h : zc_is0 v = true) (hv : zb_g N ρ v (.long y)) : y.toInt = 0 := by
  unfold zc_is0 at h
  split at h
  case h_2 => cases h
  case h_1 lo hi =>
  have h := an_and h
  have e1 := zb_ieq_of h.1
  have e2 := zb_ieq_of h.2
  obtain ⟨x, hx, x1, x2⟩ := hv
  cases hx
  omega
theorem zc_vok_ok {v : an_V} {y : Int64} (h : zc_vok v = true) (hv : zb_g N ρ v (.long y)) : zc_vk N v ∧ zc_av ρ v = y.toInt := by
  unfold zc_vok at h
  split at h
  case h_3 => cases h
  case h_1 k c =>
    obtain ⟨h1, x, hx, x1⟩ := hv
    cases hx
    exact ⟨h1, x1.symm⟩
  case h_2 lo hi =>
    have e := zb_ieq_of h
    obtain ⟨x, hx, x1, x2⟩ := hv
    cases hx
    exact ⟨trivial, by show lo = _; omega⟩
theorem zc_zx_ok {us : List zc_U} {m : Int} (h : ∀ u, u ∈ us → zc_uk N u) : (∀ u, u ∈ zc_zx us m → zc_uk N u) ∧ ∀ (g : Nat → Int) (x : Nat), zc_ap ρ g (zc_zx us m) x = if (x : Int) = m then 0 else zc_ap ρ g us x := by
  have triv : (∀ u, u ∈ (1, 1, m, zb_topL) :: us → zc_uk N u) ∧ ∀ (g : Nat → Int) (x : Nat), zc_ap ρ g ((1, 1, m, zb_topL) :: us) x = if (x : Int) = m then 0 else zc_ap ρ g us x := by
    refine ⟨fun u hu => ?_, fun g x => ?_⟩
    · rcases List.mem_cons.mp hu with e | hu
      · rw [e]; trivial
      · exact h u hu
    · show (if m ≤ (x : Int) ∧ (x : Int) < m + ((1 : Nat) : Int) then 0 else zc_ap ρ g us x) = _
      by_cases hx : (x : Int) = m
      · rw [if_pos hx, if_pos (by omega)]
      · rw [if_neg hx, if_neg (by omega)]
  unfold zc_zx
  split
  case h_2 => exact triv
  case h_1 k c v r =>
    cases hc : zb_ieq (c + (k : Int)) m with
    | false => exact triv
    | true =>
      have ec := zb_ieq_of hc
      rw [cond_true]
      refine ⟨fun u hu => ?_, fun g x => ?_⟩
      · rcases List.mem_cons.mp hu with e | hu
        · rw [e]; trivial
        · exact h u (List.mem_cons_of_mem _ hu)
      · show (if c ≤ (x : Int) ∧ (x : Int) < c + ((k + 1 : Nat) : Int) then 0 else zc_ap ρ g r x) = if (x : Int) = m then 0 else (if c ≤ (x : Int) ∧ (x : Int) < c + (k : Int) then 0 else zc_ap ρ g r x)
        by_cases hx : (x : Int) = m
        · rw [if_pos hx, if_pos (by omega)]
        · rw [if_neg hx]
          by_cases h2 : c ≤ (x : Int) ∧ (x : Int) < c + (k : Int)
          · rw [if_pos h2, if_pos (by omega)]
          · rw [if_neg h2, if_neg (by omega)]
theorem zc_ust_ok {q : zb_q} {v : an_V} {us us' : List zc_U} {i : Int32} {y : Int64} (hq : zb_qk N ρ q i.toInt) (hv : zb_g N ρ v (.long y)) (hu : ∀ u, u ∈ us → zc_uk N u) (h : zc_ust q v us = some us') : (∀ u, u ∈ us' → zc_uk N u) ∧ ∀ (g : Nat → Int) (x : Nat), zc_ap ρ g us' x = if (x : Int) = i.toInt then y.toInt else zc_ap ρ g us x := by
  unfold zc_ust at h
  cases hc : (zb_sing q && zc_is0 v) with
  | true =>
    rw [hc, cond_true] at h
    cases h
    have hc := an_and hc
    have e := zb_sing_ok hc.1 hq
    have e0 := zc_is0_ok hc.2 hv
    have g := zc_zx_ok (ρ := ρ) (m := q.2.1) hu
    refine ⟨g.1, fun g1 x => ?_⟩
    rw [g.2, e.1, e0]
  | false =>
    rw [hc, cond_false] at h
    split at h
    case h_2 => cases h
    case h_1 k c hk =>
    obtain ⟨h1, h2⟩ := zb_cond h
    cases h2
    obtain ⟨v1, v2⟩ := zc_vok_ok h1 hv
    obtain ⟨k1, k2⟩ := hq.2.2 k c hk
    refine ⟨fun u hu2 => ?_, fun g x => ?_⟩
    · rcases List.mem_cons.mp hu2 with e | hu2
      · rw [e]; exact ⟨k1, v1⟩
      · exact hu u hu2
    · show (if (x : Int) = ρ k + c then zc_av ρ v else zc_ap ρ g us x) = _
      rw [k2, v2]
theorem zc_row_set {g : Nat → Int} {us us' : List zc_U} {f : Nat → Int64} {i : Int32} {y : Int64} {r0 : Nat} (hr : r0 < σ.length) (h0 : 0 ≤ i.toInt) (hf : ∀ x, x < 360 → (f x).toInt = zc_ap ρ g us x) (h : ∀ (g : Nat → Int) (x : Nat), zc_ap ρ g us' x = if (x : Int) = i.toInt then y.toInt else zc_ap ρ g us x) : zc_row ρ g us' (σ.set r0 (.inl (1, 360, .inr (.inl (vp_updL f i.toNatClampNeg y)))))[r0]? := by
  refine ⟨_, by rw [List.getElem?_set, if_pos rfl, if_pos hr], fun x hx => ?_⟩
  rw [h]
  have ei : (i.toNatClampNeg : Int) = i.toInt := by
    show ((i.toInt.toNat : Nat) : Int) = i.toInt
    omega
  unfold vp_updL
  by_cases hxi : x = i.toNatClampNeg
  · rw [if_pos hxi, if_pos (by omega)]
  · rw [if_neg hxi, if_neg (by omega)]
    exact hf x hx
theorem zc_s35 {a : Int} {b c x nxt : Nat} {sw : List (Int × Nat)} (hT : zc_T T) (h61 : wr 61 = false) (h88 : wr 88 = false) (he : zb_en N ρ env) (hL : zb_gL N ρ L L') (hst : zb_gl N ρ st st') (hσ : zb_ss T len D N ρ σ) (hG : zc_GR N ρ f0 g0 G σ) (hs : zc_o35 T wr nxt env L st D G = some ws) : zc_In T len wr N ρ f0 g0 SA (35, a, b, c, x, nxt, sw) ws L' st' σ := by
  unfold zc_o35 at hs
  split at hs
  case h_2 => exact zc_lift_ok h61 h88 hG hs (fun vs hv => zb_s35 he hL hst hσ hv)
  case h_1 v i r0 r =>
  have main : ∀ (g : Nat → Int) (us : List zc_U) (mk : List zc_U → zc_G), zc_row ρ g us σ[r0]? → T r0 = some (.inl (1, 360, zb_topL)) → zc_wf wr r0 = true → (∀ u, u ∈ us → zc_uk N u) →
      (zb_bnd (zb_pi env i) fun q => bif zb_ixs q 360 && zb_isL v then zb_bnd (zc_ust q v us) fun us => some [((env, nxt, L, r, D), mk us)] else none) = some ws →
      (∀ us' σ', (∀ u, u ∈ us' → zc_uk N u) → zc_row ρ g us' σ'[r0]? → (∀ q, ¬ q = r0 → σ'[q]? = σ[q]?) → zc_GR N ρ f0 g0 (mk us') σ') → zc_In T len wr N ρ f0 g0 SA (35, a, b, c, x, nxt, sw) ws L' st' σ := by
    intro g us mk hrow hTr hwf hu h hmk
    obtain ⟨q, q1, h⟩ := zb_bnd_some h
    obtain ⟨h1, h⟩ := zb_cond h
    have h1 := an_and h1
    obtain ⟨us', u1, h⟩ := zb_bnd_some h
    cases h
    obtain ⟨w, r1, rfl, w1, w2⟩ := zb_gl_cons hst
    obtain ⟨u, r2, rfl, v1, v2⟩ := zb_gl_cons w2
    obtain ⟨z, r3, rfl, z1, z2⟩ := zb_gl_cons v2
    have z1 : z = .ref r0 := z1
    subst z1
    obtain ⟨ix, rfl, i2⟩ := zb_pi_ok he q1 v1
    obtain ⟨y, rfl⟩ := zb_g_Lo w1 h1.2
    obtain ⟨g1, g2, g3, g4⟩ := zb_ixs_ok h1.1 i2
    obtain ⟨f, f1, f2⟩ := hrow
    have hlt : r0 < σ.length := (List.getElem?_eq_some_iff.mp f1).1
    obtain ⟨k1, k2⟩ := zc_ust_ok i2 w1 hu u1
    refine ⟨_, List.mem_cons_self, N, ρ, Nat.le_refl _, zb_ag_refl _ _, he, (nxt, L', r3, σ.set r0 (.inl (1, 360, .inr (.inl (vp_updL f ix.toNatClampNeg y))))), by simp only [rf_stp, f1, g3, cond_true], rfl, hL, z2, ?_, zb_fr hwf, ?_⟩
    · exact zb_ss_row hσ hTr rfl ⟨rfl, rfl, rfl, fun j hj => zb_topL_ok _⟩
    · exact hmk us' _ k1 (zc_row_set hlt (by omega) f2 k2) (fun q hq => by rw [List.getElem?_set, if_neg (fun e => hq e.symm)])
  cases h1 : Nat.beq r0 61 with
  | true =>
    rw [h1, cond_true] at hs
    have e0 : r0 = 61 := Nat.eq_of_beq_eq_true h1
    subst e0
    exact main f0 G.2.1 (fun us => (G.1, us, G.2.2)) hG.2.2.2.1 hT.1 rfl hG.2.1 hs (fun us' σ' a1 a2 a3 => ⟨hG.1, a1, hG.2.2.1, a2, by rw [a3 88 (by decide)]; exact hG.2.2.2.2⟩)
  | false =>
    rw [h1, cond_false] at hs
    cases h2 : Nat.beq r0 88 with
    | true =>
      rw [h2, cond_true] at hs
      have e0 : r0 = 88 := Nat.eq_of_beq_eq_true h2
      subst e0
      exact main g0 G.2.2 (fun us => (G.1, G.2.1, us)) hG.2.2.2.2 hT.2.1 rfl hG.2.2.1 hs (fun us' σ' a1 a2 a3 => ⟨hG.1, hG.2.1, a1, by rw [a3 61 (by decide)]; exact hG.2.2.2.1, a2⟩)
    | false =>
      rw [h2, cond_false] at hs
      exact zc_lift_ok h61 h88 hG hs (fun vs hv => zb_s35 he hL hst hσ hv)
theorem zc_nm_ok {v : an_V} {k : Nat} {c : Int} {w : Value} (h : zc_nm v k c = true) (hv : zb_g N ρ v w) : k < N ∧ ∃ x : Int32, w = .int x ∧ x.toInt = ρ k + c := by
  unfold zc_nm at h
  split at h
  case h_2 => cases h
  case h_1 j d =>
  have h := an_and h
  have e1 := Nat.eq_of_beq_eq_true h.1
  have e2 := zb_ieq_of h.2
  subst e1
  subst e2
  exact hv
theorem zc_lo0_ok {k : Nat} (he : zb_en N ρ env) (h : zc_lo0 env k = true) : 0 ≤ ρ k := by
  unfold zc_lo0 at h
  split at h
  case h_2 => cases h
  case h_1 b hb =>
  rw [zb_nth_eq] at hb
  have := zb_le_of h
  have := (he.2.1 _ _ hb).1
  omega
theorem zc_hi60_ok {k : Nat} (he : zb_en N ρ env) (h : zc_hi60 env k = true) : ρ k ≤ 60 := by
  unfold zc_hi60 at h
  split at h
  case h_2 => cases h
  case h_1 b hb =>
  rw [zb_nth_eq] at hb
  have := zb_le_of h
  have := (he.2.1 _ _ hb).2
  omega
theorem zc_s43 {a : Int} {b c x nxt : Nat} {sw : List (Int × Nat)} (hN : 86 ≤ N) (hT : zc_T T) (h61 : wr 61 = false) (h88 : wr 88 = false) (he : zb_en N ρ env) (hL : zb_gL N ρ L L') (hst : zb_gl N ρ st st') (hσ : zb_ss T len D N ρ σ) (hG : zc_GR N ρ f0 g0 G σ) (hs : zc_o43 T wr nxt env L st D G = some ws) : zc_In T len wr N ρ f0 g0 SA (43, a, b, c, x, nxt, sw) ws L' st' σ := by
  unfold zc_o43 at hs
  split at hs
  case h_2 => exact zc_lift_ok h61 h88 hG hs (fun vs hv => zb_s43 he hL hst hσ hv)
  case h_1 nv dv r1 sv r0 r =>
  cases hc : (Nat.beq r1 61 && Nat.beq r0 61) with
  | false =>
    rw [hc, cond_false] at hs
    exact zc_lift_ok h61 h88 hG hs (fun vs hv => zb_s43 he hL hst hσ hv)
  | true =>
    rw [hc, cond_true] at hs
    have hc := an_and hc
    have e1 : r1 = 61 := Nat.eq_of_beq_eq_true hc.1
    have e0 : r0 = 61 := Nat.eq_of_beq_eq_true hc.2
    subst e1
    subst e0
    obtain ⟨h1, hs⟩ := zb_cond hs
    cases hs
    unfold zc_cp at h1
    have a1 := an_and h1
    have a2 := an_and a1.2
    have a3 := an_and a2.2
    have a4 := an_and a3.2
    have a5 := an_and a4.2
    have a6 := an_and a5.2
    have a7 := an_and a6.2
    have a8 := an_and a7.2
    have a9 := an_and a8.2
    have a10 := an_and a9.2
    have a11 := an_and a10.2
    have a12 := an_and a11.2
    have sd6 : zc_sh sv < 6 := Nat.le_of_ble_eq_true a4.1
    have dd6 : zc_sh dv < 6 := Nat.le_of_ble_eq_true a5.1
    have l3 := zc_lo0_ok he a7.1
    have l5 := zc_lo0_ok he a8.1
    have l6 := zc_lo0_ok he a9.1
    have hs60 := zc_hi60_ok he a10.1
    have hd60 := zc_hi60_ok he a11.1
    have s1 := zc_ls_ok he a12.1
    have s2 := zc_ls_ok he a12.2
    obtain ⟨w1, t1, rfl, g1, f1⟩ := zb_gl_cons hst
    obtain ⟨w2, t2, rfl, g2, f2⟩ := zb_gl_cons f1
    obtain ⟨w3, t3, rfl, g3, f3⟩ := zb_gl_cons f2
    obtain ⟨w4, t4, rfl, g4, f4⟩ := zb_gl_cons f3
    obtain ⟨w5, t5, rfl, g5, f5⟩ := zb_gl_cons f4
    have g3 : w3 = .ref 61 := g3
    have g5 : w5 = .ref 61 := g5
    subst g3
    subst g5
    obtain ⟨-, n, rfl, n1⟩ := zc_nm_ok a1.1 g1
    obtain ⟨-, sp, rfl, sp1⟩ := zc_nm_ok a2.1 g4
    obtain ⟨-, dp, rfl, dp1⟩ := zc_nm_ok a3.1 g2
    have p1 := zb_pos (i := n) (by omega)
    have p2 := zb_pos (i := dp) (by omega)
    have p3 := zb_pos (i := sp) (by omega)
    have hcat : Nat.ble (rf_cat t5) 8 = true := by rw [← zb_gl_cat f5]; exact a6.1
    obtain ⟨f, q1, q2⟩ := hG.2.2.2.1
    have hle : (Nat.ble (sp.toNatClampNeg + n.toNatClampNeg) 360 && Nat.ble (dp.toNatClampNeg + n.toNatClampNeg) 360) = true := by
      rw [Bool.and_eq_true]
      exact ⟨Nat.ble_eq_true_of_le (by omega), Nat.ble_eq_true_of_le (by omega)⟩
    have hlt : 61 < σ.length := (List.getElem?_eq_some_iff.mp q1).1
    refine ⟨_, List.mem_cons_self, N, ρ, Nat.le_refl _, zb_ag_refl _ _, he, (nxt, L', t5, σ.set 61 (.inl (1, 360, .inr (.inl (va_cpy f f sp.toNatClampNeg dp.toNatClampNeg n.toNatClampNeg))))), by simp only [rf_stp, p1.1, p2.1, p3.1, hcat, Bool.and_self, cond_true, q1, hle], rfl, hL, f5, ?_, zb_fr rfl, ?_⟩
    · exact zb_ss_row hσ hT.1 rfl ⟨rfl, rfl, rfl, fun j hj => zb_topL_ok _⟩
    · refine ⟨hG.1, fun u hu => ?_, hG.2.2.1, ⟨_, by rw [List.getElem?_set, if_pos rfl, if_pos hlt], fun y hy => ?_⟩, by rw [List.getElem?_set, if_neg (by decide)]; exact hG.2.2.2.2⟩
      · rcases List.mem_cons.mp hu with e | hu
        · rw [e]; show 7 ≤ N; omega
        · exact hG.2.1 u hu
      · show _ = (if ρ 5 + ((60 * zc_sh dv : Nat) : Int) ≤ (y : Int) ∧ (y : Int) < ρ 5 + ((60 * zc_sh dv : Nat) : Int) + ρ 6 then zc_ap ρ f0 G.2.1 ((y : Int) - (ρ 5 + ((60 * zc_sh dv : Nat) : Int)) + (ρ 3 + ((60 * zc_sh sv : Nat) : Int))).toNat else zc_ap ρ f0 G.2.1 y)
        unfold va_cpy
        by_cases hy2 : dp.toNatClampNeg ≤ y ∧ y < dp.toNatClampNeg + n.toNatClampNeg
        · rw [if_pos hy2, if_pos (by omega), q2 _ (by omega)]
          congr 1
          omega
        · rw [if_neg hy2, if_neg (by omega)]
          exact q2 y hy
/-- several more numbers by name -/
theorem zc_en_app {bs : List (Int × Int)} {fs : List zb_F} {z : Nat → Int} (he : zb_en N ρ env) (hb : ∀ i b, bs[i]? = some b → b.1 ≤ z i ∧ z i ≤ b.2) (hf : ∀ f, f ∈ fs → zb_fk (N + bs.length) (fun j => if j < N then ρ j else z (j - N)) f) : zb_en (N + bs.length) (fun j => if j < N then ρ j else z (j - N)) (env.1 ++ bs, fs ++ env.2) := by
  have hag : zb_ag N ρ (fun j => if j < N then ρ j else z (j - N)) := fun k hk => by
    show (if k < N then ρ k else z (k - N)) = ρ k
    rw [if_pos hk]
  refine ⟨by rw [List.length_append, he.1], fun k b hk => ?_, fun f hm => ?_⟩
  · show b.1 ≤ (if k < N then ρ k else z (k - N)) ∧ (if k < N then ρ k else z (k - N)) ≤ b.2
    by_cases h : k < N
    · rw [List.getElem?_append_left (by rw [he.1]; exact h)] at hk
      rw [if_pos h]
      exact he.2.1 k b hk
    · rw [List.getElem?_append_right (by rw [he.1]; omega), he.1] at hk
      rw [if_neg h]
      exact hb _ b hk
  · rcases List.mem_append.mp hm with hm | hm
    · exact hf f hm
    · exact zb_fk_ext (Nat.le_add_right _ _) hag (he.2.2 f hm)
theorem zc_hf_ok {fs : List zb_F} {kd a b : Nat} {c : Int} (h : zc_hf fs kd a b c = true) : (kd, a, b, c) ∈ fs := by
  obtain ⟨g, g1, g2⟩ := zb_any_ok h
  obtain ⟨g0, ga, gb, gc⟩ := g
  have h1 := an_and g2
  have h2 := an_and h1.2
  have h3 := an_and h2.2
  have e0 : g0 = kd := Nat.eq_of_beq_eq_true h1.1
  have e1 : ga = a := Nat.eq_of_beq_eq_true h2.1
  have e2 : gb = b := Nat.eq_of_beq_eq_true h3.1
  have e3 : gc = c := zb_ieq_of h3.2
  subst e0
  subst e1
  subst e2
  subst e3
  exact g1
theorem zc_j1_ok {k : Nat} {c : Int} {f : zb_F} (he : zb_en N ρ env) (hf : f ∈ env.2) (h : zc_j1 env k c f = true) : f.2.2.1 + 6 < N ∧ zb_Jv (ρ k + c) (fun i => ρ (f.2.2.1 + i)) := by
  have h1 := an_and h
  have hk := he.2.2 f hf
  obtain ⟨f0', t, l, x⟩ := f
  have e0 : f0' = 3 := Nat.eq_of_beq_eq_true h1.1
  subst e0
  obtain ⟨k1, k2, k3⟩ := hk
  refine ⟨k2, zb_Jv_eq ?_ (fun _ _ => rfl) k3⟩
  have h2 := h1.2
  rw [Bool.or_eq_true] at h2
  rcases h2 with h2 | h2
  · have h2 := an_and h2
    have e1 : t = k := Nat.eq_of_beq_eq_true h2.1
    have e2 := zb_ieq_of h2.2
    rw [e1, e2]
    exact Int.add_zero _
  · have h2 := an_and h2
    have a1 := (he.2.2 _ (zc_hf_ok h2.1)).2.2
    have a2 := (he.2.2 _ (zc_hf_ok h2.2)).2.2
    have a1 : ρ t ≤ ρ k + c := a1
    have a2 : ρ k ≤ ρ t + -c := a2
    omega
theorem zc_jf_ok {k : Nat} {c : Int} (he : zb_en N ρ env) : ∀ {fs : List zb_F} {l : Nat}, (∀ f, f ∈ fs → f ∈ env.2) → zc_jf env D k c fs = some l → l + 6 < N ∧ zb_Jv (ρ k + c) (fun i => ρ (l + i)) ∧ zc_jD env D l = true
  | [], _, _, h => by cases h
  | f :: fs, l, hs, h => by
    have h : (bif zc_j1 env k c f && zc_jD env D f.2.2.1 then some f.2.2.1 else zc_jf env D k c fs) = some l := h
    cases hc : (zc_j1 env k c f && zc_jD env D f.2.2.1) with
    | true =>
      rw [hc, cond_true] at h
      cases h
      have hc := an_and hc
      obtain ⟨a1, a2⟩ := zc_j1_ok he (hs f List.mem_cons_self) hc.1
      exact ⟨a1, a2, hc.2⟩
    | false =>
      rw [hc, cond_false] at h
      exact zc_jf_ok he (fun g hg => hs g (List.mem_cons_of_mem _ hg)) h
/-- a row of scalars laid anew as a whole -/
theorem zc_ss_row9 {loc : Nat → Nat × Nat} {r n b : Nat} {D' : zb_D} {f' : Nat → Int32} (hloc : zb_loc T loc) (hσ : zb_ss T len D N ρ σ) (ht : T r = some (.inl (0, n, .inr (9, ((b : Nat) : Int), 0)))) (h1 : ∀ j, j < n → ∃ a, D'[b + j]? = some a ∧ zb_g N ρ a (.int (f' j))) (h2 : ∀ s, ¬ (b ≤ s ∧ s < b + n) → D'[s]? = D[s]?) : zb_ss T len D' N ρ (σ.set r (.inl (0, n, .inl f'))) := by
  obtain ⟨o0, o1, -⟩ := hσ.2 r _ ht
  have hrl : r < σ.length := (List.getElem?_eq_some_iff.mp o1).1
  have key : ∀ s r1 c, loc s = (r1, c) → ¬ r1 = r → D'[s]? = D[s]? := fun s r1 c hs hr => h2 s (fun q => hr (by
    have := hloc.2 r n _ _ ht (s - b) (by omega)
    rw [Int.toNat_natCast, show b + (s - b) = s by omega, hs] at this
    exact congrArg Prod.fst this))
  refine ⟨by rw [List.length_set]; exact hσ.1, fun r1 t ht1 => ?_⟩
  by_cases hr : r1 = r
  · subst hr
    rw [ht] at ht1
    cases ht1
    refine ⟨_, by rw [List.getElem?_set, if_pos rfl, if_pos hrl], rfl, f', rfl, fun j hj => ?_⟩
    rw [Int.toNat_natCast]
    exact h1 j hj
  · obtain ⟨o, p1, p2⟩ := hσ.2 r1 t ht1
    refine ⟨o, by rw [List.getElem?_set, if_neg (fun q => hr q.symm)]; exact p1, ?_⟩
    rcases t with ⟨k1, n1, d1⟩ | ⟨ci, ds⟩
    · have p2 : zb_rw D N ρ k1 n1 d1 o := p2
      show zb_rw D' N ρ k1 n1 d1 o
      unfold zb_rw at p2 ⊢
      split at p2
      case h_2 => exact p2
      case h_1 b1 x1 _ =>
        obtain ⟨g1, f, g2, g3⟩ := p2
        refine ⟨g1, f, g2, fun j hj => ?_⟩
        obtain ⟨a, a1, a2⟩ := g3 j hj
        subst g1
        exact ⟨a, by rw [key _ _ _ (hloc.2 r1 n1 b1 x1 ht1 j hj) hr]; exact a1, a2⟩
    · rcases o with o | ⟨cj, fs⟩
      · exact p2.elim
      · refine ⟨p2.1, p2.2.1, fun c g hg => ?_⟩
        obtain ⟨w, w1, w2⟩ := p2.2.2 c g hg
        refine ⟨w, w1, ?_⟩
        obtain ⟨k, s, v⟩ := g
        match k, w2 with
        | 0, w2 =>
          obtain ⟨a, a1, a2⟩ := w2
          exact ⟨a, by rw [key _ _ _ (hloc.1 r1 ci ds c s v ht1 hg) hr]; exact a1, a2⟩
        | k + 1, w2 => exact w2
theorem zc_j2_at {n i : Nat} (hD : 53 ≤ D.length) (hi : i < 7) : (zc_j2 D n)[46 + i]? = some (.inr (0, Int.ofNat (n + i), 0)) := by
  unfold zc_j2
  simp only [zb_upd_eq]
  have : i = 0 ∨ i = 1 ∨ i = 2 ∨ i = 3 ∨ i = 4 ∨ i = 5 ∨ i = 6 := by omega
  rcases this with rfl | rfl | rfl | rfl | rfl | rfl | rfl <;> (simp only [List.getElem?_set, List.length_set]; simp <;> omega)
theorem zc_j2_out {n s : Nat} (hs : ¬ (46 ≤ s ∧ s < 46 + 7)) : (zc_j2 D n)[s]? = D[s]? := by
  unfold zc_j2
  simp only [zb_upd_eq]
  rw [List.getElem?_set, if_neg (by omega), List.getElem?_set, if_neg (by omega), List.getElem?_set, if_neg (by omega), List.getElem?_set, if_neg (by omega), List.getElem?_set, if_neg (by omega), List.getElem?_set, if_neg (by omega), List.getElem?_set, if_neg (by omega)]
theorem zc_s33 {loc : Nat → Nat × Nat} {a : Int} {b c x nxt : Nat} {sw : List (Int × Nat)} (hloc : zb_loc T loc) (hT : zc_T T) (h61 : wr 61 = false) (h88 : wr 88 = false) (he : zb_en N ρ env) (hL : zb_gL N ρ L L') (hst : zb_gl N ρ st st') (hσ : zb_ss T len D N ρ σ) (hG : zc_GR N ρ f0 g0 G σ) (hs : zc_o33 T wr nxt env L st D G = some ws) : zc_In T len wr N ρ f0 g0 SA (33, a, b, c, x, nxt, sw) ws L' st' σ := by
  have base : zc_lift G (zb_o33c T wr nxt env L st D) = some ws → zc_In T len wr N ρ f0 g0 SA (33, a, b, c, x, nxt, sw) ws L' st' σ := fun hs => zc_lift_ok h61 h88 hG hs (fun vs hv => zb_s33c hloc he hL hst hσ hv)
  unfold zc_o33 at hs
  split at hs
  case h_2 => exact base hs
  case h_1 k kc k' kc' r0 r =>
  cases hc : (Nat.beq r0 69 && (zb_ieq k k' && (zb_ieq kc kc' && wr 69))) with
  | false => rw [hc, cond_false] at hs; exact base hs
  | true =>
  rw [hc, cond_true] at hs
  have c1 := an_and hc
  have c2 := an_and c1.2
  have c3 := an_and c2.2
  have er : r0 = 69 := Nat.eq_of_beq_eq_true c1.1
  have ek := zb_ieq_of c2.1
  have ekc := zb_ieq_of c3.1
  subst er
  subst ek
  subst ekc
  split at hs
  case h_2 => cases hs
  case h_1 bb hbb =>
  cases hc2 : (zb_le 0 (bb.1 + kc) && zb_le (bb.2 + kc) 6) with
  | false => rw [hc2, cond_false] at hs; exact base hs
  | true =>
  rw [hc2, cond_true] at hs
  have hc2 := an_and hc2
  have u1 := zb_le_of hc2.1
  have u2 := zb_le_of hc2.2
  split at hs
  case h_2 => exact base hs
  case h_1 l hl =>
  cases hs
  rw [zb_nth_eq] at hbb
  obtain ⟨l1, l2, l3⟩ := zc_jf_ok he (fun f hf => hf) hl
  obtain ⟨w, r1, rfl, w1, w2⟩ := zb_gl_cons hst
  obtain ⟨w', r2, rfl, w3, w4⟩ := zb_gl_cons w2
  obtain ⟨w'', r3, rfl, w5, w6⟩ := zb_gl_cons w4
  have w5 : w'' = .ref 69 := w5
  subst w5
  obtain ⟨kN, y, rfl, y1⟩ := w1
  obtain ⟨-, z, rfl, z1⟩ := w3
  have ey : z = y := Int32.toInt_inj.mp (by omega)
  subst ey
  have bk := he.2.1 _ _ hbb
  have hN : env.1.length = N := he.1
  obtain ⟨o, o1, o2⟩ := hσ.2 69 _ hT.2.2
  have o2 : zb_rw D N ρ 0 7 (.inr (9, ((46 : Nat) : Int), 0)) o := o2
  unfold zb_rw at o2
  obtain ⟨-, f, rfl, o3⟩ := o2
  have g0' : ¬ z < 0 := fun e => by
    have e := Int32.lt_iff_toInt_lt.mp e
    have e0 : (0 : Int32).toInt = 0 := rfl
    omega
  have ez : (z.toNatClampNeg : Int) = z.toInt := by
    show ((z.toInt.toNat : Nat) : Int) = z.toInt
    omega
  have gix : rf_ixs z 7 = true := an_ixs g0' (by omega)
  have hlen7 : 53 ≤ D.length := by
    obtain ⟨a', a1, -⟩ := o3 6 (by decide)
    rw [Int.toNat_natCast] at a1
    have := (List.getElem?_eq_some_iff.mp a1).1
    omega
  have hfj : ∀ j, j < 7 → (f j).toInt = ρ (l + j) ∧ 0 ≤ (f j).toInt ∧ (f j).toInt ≤ 6 := fun j hj => by
    obtain ⟨a', a1, a2⟩ := o3 j hj
    rw [Int.toNat_natCast] at a1
    have g := an_and (zb_every_ok l3 j (by
      have : j = 0 ∨ j = 1 ∨ j = 2 ∨ j = 3 ∨ j = 4 ∨ j = 5 ∨ j = 6 := by omega
      rcases this with rfl | rfl | rfl | rfl | rfl | rfl | rfl <;> decide))
    have g1 := g.1
    have g2 := g.2
    rw [zb_nth_eq, a1] at g1
    obtain ⟨-, q, hq, hq2⟩ := zc_nm_ok g1 a2
    cases hq
    split at g2
    case h_2 => cases g2
    case h_1 b' hb' =>
    rw [zb_nth_eq] at hb'
    have g2 := an_and g2
    have p1 := zb_le_of g2.1
    have p2 := zb_le_of g2.2
    have p3 := he.2.1 _ _ hb'
    omega
  have hfn : ∀ j, j < 7 → (upd f z.toNatClampNeg z j).toInt = (if j = z.toNatClampNeg then z.toInt else ρ (l + j)) ∧ 0 ≤ (upd f z.toNatClampNeg z j).toInt ∧ (upd f z.toNatClampNeg z j).toInt ≤ 6 := fun j hj => by
    have g := hfj j hj
    unfold upd
    by_cases hji : j = z.toNatClampNeg
    · rw [if_pos hji, if_pos hji]
      exact ⟨rfl, by omega, by omega⟩
    · rw [if_neg hji, if_neg hji]
      exact g
  have hag : zb_ag N ρ (fun j => if j < N then ρ j else (fun i => if i < 7 then (upd f z.toNatClampNeg z i).toInt else ρ k.toNat + kc + 1) (j - N)) := fun q hq => by
    show (if q < N then ρ q else _) = ρ q
    rw [if_pos hq]
  have hn1 : ∀ j, j < 7 → (fun j => if j < N then ρ j else (fun i => if i < 7 then (upd f z.toNatClampNeg z i).toInt else ρ k.toNat + kc + 1) (j - N)) (N + j) = (upd f z.toNatClampNeg z j).toInt := fun j hj => by
    show (if N + j < N then ρ (N + j) else if N + j - N < 7 then (upd f z.toNatClampNeg z (N + j - N)).toInt else ρ k.toNat + kc + 1) = _
    rw [if_neg (by omega), show N + j - N = j by omega, if_pos hj]
  have hn2 : (fun j => if j < N then ρ j else (fun i => if i < 7 then (upd f z.toNatClampNeg z i).toInt else ρ k.toNat + kc + 1) (j - N)) (N + 7) = ρ k.toNat + kc + 1 := by
    show (if N + 7 < N then ρ (N + 7) else if N + 7 - N < 7 then (upd f z.toNatClampNeg z (N + 7 - N)).toInt else ρ k.toNat + kc + 1) = _
    rw [if_neg (by omega), show N + 7 - N = 7 by omega, if_neg (by omega)]
  have hen : zb_en (N + 8) (fun j => if j < N then ρ j else (fun i => if i < 7 then (upd f z.toNatClampNeg z i).toInt else ρ k.toNat + kc + 1) (j - N)) (zc_j3 env k.toNat kc bb) := by
    refine zc_en_app (bs := [(0, 6), (0, 6), (0, 6), (0, 6), (0, 6), (0, 6), (0, 6), (bb.1 + kc + 1, bb.2 + kc + 1)]) (fs := [(3, env.1.length + 7, env.1.length, 0), (0, env.1.length + 7, k.toNat, kc + 1), (0, k.toNat, env.1.length + 7, -kc - 1)]) (z := fun i => if i < 7 then (upd f z.toNatClampNeg z i).toInt else ρ k.toNat + kc + 1) he (fun i b hi => ?_) (fun g hg => ?_)
    · match i, hi with
      | 0, hi => cases hi; exact (hfn 0 (by decide)).2
      | 1, hi => cases hi; exact (hfn 1 (by decide)).2
      | 2, hi => cases hi; exact (hfn 2 (by decide)).2
      | 3, hi => cases hi; exact (hfn 3 (by decide)).2
      | 4, hi => cases hi; exact (hfn 4 (by decide)).2
      | 5, hi => cases hi; exact (hfn 5 (by decide)).2
      | 6, hi => cases hi; exact (hfn 6 (by decide)).2
      | 7, hi =>
        cases hi
        show bb.1 + kc + 1 ≤ ρ k.toNat + kc + 1 ∧ ρ k.toNat + kc + 1 ≤ bb.2 + kc + 1
        omega
      | i + 8, hi => simp at hi
    · rw [hN] at hg
      rcases List.mem_cons.mp hg with e | hg
      · rw [e]
        refine ⟨by show N + 7 < N + 8; omega, by show N + 6 < N + 8; omega, ?_⟩
        intro kk h0 h1
        have h1 : kk < (fun j => if j < N then ρ j else (fun i => if i < 7 then (upd f z.toNatClampNeg z i).toInt else ρ k.toNat + kc + 1) (j - N)) (N + 7) := h1
        rw [hn2] at h1
        by_cases hkk : kk = ρ k.toNat + kc
        · refine ⟨z.toNatClampNeg, by omega, ?_, ?_⟩
          · show (z.toNatClampNeg : Int) < (fun j => if j < N then ρ j else (fun i => if i < 7 then (upd f z.toNatClampNeg z i).toInt else ρ k.toNat + kc + 1) (j - N)) (N + 7)
            rw [hn2]
            omega
          · show (fun j => if j < N then ρ j else (fun i => if i < 7 then (upd f z.toNatClampNeg z i).toInt else ρ k.toNat + kc + 1) (j - N)) (N + z.toNatClampNeg) = kk
            rw [hn1 _ (by omega), (hfn _ (by omega)).1, if_pos rfl]
            omega
        · obtain ⟨i, i7, i1, i2⟩ := l2 kk h0 (by omega)
          have i2 : ρ (l + i) = kk := i2
          refine ⟨i, i7, ?_, ?_⟩
          · show (i : Int) < (fun j => if j < N then ρ j else (fun i => if i < 7 then (upd f z.toNatClampNeg z i).toInt else ρ k.toNat + kc + 1) (j - N)) (N + 7)
            rw [hn2]
            omega
          · show (fun j => if j < N then ρ j else (fun i => if i < 7 then (upd f z.toNatClampNeg z i).toInt else ρ k.toNat + kc + 1) (j - N)) (N + i) = kk
            rw [hn1 _ i7, (hfn _ i7).1, if_neg (by omega)]
            exact i2
      · rcases List.mem_cons.mp hg with e | hg
        · rw [e]
          refine ⟨by show N + 7 < N + 8; omega, by show k.toNat < N + 8; omega, ?_⟩
          show (fun j => if j < N then ρ j else (fun i => if i < 7 then (upd f z.toNatClampNeg z i).toInt else ρ k.toNat + kc + 1) (j - N)) (N + 7) ≤ (fun j => if j < N then ρ j else (fun i => if i < 7 then (upd f z.toNatClampNeg z i).toInt else ρ k.toNat + kc + 1) (j - N)) k.toNat + (kc + 1)
          rw [hn2, hag _ kN]
          omega
        · rw [List.mem_singleton.mp hg]
          refine ⟨by show k.toNat < N + 8; omega, by show N + 7 < N + 8; omega, ?_⟩
          show (fun j => if j < N then ρ j else (fun i => if i < 7 then (upd f z.toNatClampNeg z i).toInt else ρ k.toNat + kc + 1) (j - N)) k.toNat ≤ (fun j => if j < N then ρ j else (fun i => if i < 7 then (upd f z.toNatClampNeg z i).toInt else ρ k.toNat + kc + 1) (j - N)) (N + 7) + (-kc - 1)
          rw [hn2, hag _ kN]
          omega
  have hle : N ≤ N + 8 := Nat.le_add_right _ _
  refine ⟨_, List.mem_cons_self, N + 8, _, hle, hag, hen, (nxt, L', r3, σ.set 69 (.inl (0, 7, .inl (upd f z.toNatClampNeg z)))), by simp only [rf_stp, o1, gix, cond_true], rfl, zb_gL_ext hle hag hL, zb_gl_ext hle hag w6, ?_, zb_fr (by show wr 69 = true; exact c3.2), zc_GR_ext hle hag (by rw [List.getElem?_set, if_neg (by decide)]) (by rw [List.getElem?_set, if_neg (by decide)]) hG⟩
  show zb_ss T len (zc_j2 D env.1.length) _ _ _
  rw [hN]
  refine zc_ss_row9 (n := 7) (b := 46) hloc (zb_ss_ext hle hag hσ) hT.2.2 (fun j hj => ⟨_, zc_j2_at hlen7 hj, ?_, _, rfl, ?_⟩) (fun s hs => zc_j2_out hs)
  · show N + j < N + 8
    omega
  · show (upd f z.toNatClampNeg z j).toInt = (fun j => if j < N then ρ j else (fun i => if i < 7 then (upd f z.toNatClampNeg z i).toInt else ρ k.toNat + kc + 1) (j - N)) (N + j) + 0
    rw [hn1 _ hj]
    omega
theorem zc_stp_ok {sl : Bool × List Nat} {LL : Nat} {xs : Nat → Int32} {loc : Nat → Nat × Nat} (hlen : len ≤ 1000000) (hLL : LL < 2 ^ 31) (hloc : zb_loc T loc) (hsl : sl.1 = true → zb_hs LL xs N ρ) (hN : 86 ≤ N) (hT : zc_T T) (hCI : zc_CI ρ f0 g0) (h61 : wr 61 = false) (h88 : wr 88 = false) (he : zb_en N ρ env) (hL : zb_gL N ρ L L') (hst : zb_gl N ρ st st') (hσ : zb_ss T len D N ρ σ) (hG : zc_GR N ρ f0 g0 G σ) (hs : zc_stp T wr sl E env L st D G = some ws) : zc_In T len wr N ρ f0 g0 (rf_SA LL xs) E ws L' st' σ := by
  obtain ⟨op, a, b, c, x, nxt, sw⟩ := E
  unfold zc_stp at hs
  dsimp only at hs
  cases h9 : (Nat.beq op 9 && Nat.blt b 9) with
  | true =>
    rw [h9, cond_true] at hs
    have e : op = 9 := Nat.eq_of_beq_eq_true (an_and h9).1
    subst e
    exact zc_s9 h61 h88 he hL hst hσ hG hs
  | false =>
  rw [h9, cond_false] at hs
  cases h14 : Nat.beq op 14 with
  | true =>
    rw [h14, cond_true] at hs
    have e : op = 14 := Nat.eq_of_beq_eq_true h14
    subst e
    exact zc_s14 h61 h88 he hL hst hσ hG hs
  | false =>
  rw [h14, cond_false] at hs
  cases h15 : Nat.beq op 15 with
  | true =>
    rw [h15, cond_true] at hs
    have e : op = 15 := Nat.eq_of_beq_eq_true h15
    subst e
    exact zc_s15 h61 h88 he hL hst hσ hG hs
  | false =>
  rw [h15, cond_false] at hs
  cases h16 : Nat.beq op 16 with
  | true =>
    rw [h16, cond_true] at hs
    have e : op = 16 := Nat.eq_of_beq_eq_true h16
    subst e
    exact zc_s16 h61 h88 he hL hst hσ hG hs
  | false =>
  rw [h16, cond_false] at hs
  cases h17 : Nat.beq op 17 with
  | true =>
    rw [h17, cond_true] at hs
    have e : op = 17 := Nat.eq_of_beq_eq_true h17
    subst e
    exact zc_s17 h61 h88 he hL hst hσ hG hs
  | false =>
  rw [h17, cond_false] at hs
  cases h18 : Nat.beq op 18 with
  | true =>
    rw [h18, cond_true] at hs
    have e : op = 18 := Nat.eq_of_beq_eq_true h18
    subst e
    exact zc_s18 h61 h88 he hL hst hσ hG hs
  | false =>
  rw [h18, cond_false] at hs
  cases h33 : Nat.beq op 33 with
  | true =>
    rw [h33, cond_true] at hs
    have e : op = 33 := Nat.eq_of_beq_eq_true h33
    subst e
    exact zc_s33 hloc hT h61 h88 he hL hst hσ hG hs
  | false =>
  rw [h33, cond_false] at hs
  cases h34 : Nat.beq op 34 with
  | true =>
    rw [h34, cond_true] at hs
    have e : op = 34 := Nat.eq_of_beq_eq_true h34
    subst e
    exact zc_s34 hN hCI h61 h88 he hL hst hσ hG hs
  | false =>
  rw [h34, cond_false] at hs
  cases h35 : Nat.beq op 35 with
  | true =>
    rw [h35, cond_true] at hs
    have e : op = 35 := Nat.eq_of_beq_eq_true h35
    subst e
    exact zc_s35 hT h61 h88 he hL hst hσ hG hs
  | false =>
  rw [h35, cond_false] at hs
  cases h43 : Nat.beq op 43 with
  | true =>
    rw [h43, cond_true] at hs
    have e : op = 43 := Nat.eq_of_beq_eq_true h43
    subst e
    exact zc_s43 hN hT h61 h88 he hL hst hσ hG hs
  | false =>
  rw [h43, cond_false] at hs
  exact zc_lift_ok h61 h88 hG hs (fun vs hv => zb_stp_ok hlen hLL hloc hsl he hL hst hσ hv)
end
