/-! The mathematical state, and what the calls do to it: what both the class and the reference are to be held against. -/
/-- an entity: home, gone, settled, what it is settled to, program, number, slots, exports, imports, what is owed (gifts less redeems, by giver and taker) -/
abbrev ze_E : Type := Nat × Bool × Bool × Nat × Nat × Int32 × (Nat → Nat) × (Nat → Int) × (Nat → Int) × (Nat → Nat → Int)
/-- a resting call: where (a vat, or the promise that it waits at), target, value, argument, answer -/
abbrev zr_R : Type := Nat × Nat × Int32 × Nat × Nat
/-- a message: kind, from, to, what it is about, its number, the reference that it carries, the answer's promise -/
abbrev zm_L : Type := Nat × Nat × Nat × Nat × Int32 × Nat × Nat
/-- vats, objects, promises; programs; entities; resting calls; messages, oldest first; outputs of each vat, newest first -/
abbrev zz_S : Type := (Nat × Nat × Nat) × (Nat → List (Int32 × Int32)) × (Nat → ze_E) × List zr_R × List zm_L × (Nat → List Int32)
def eh_ (E : ze_E) : Nat := E.1
def eg_ (E : ze_E) : Bool := E.2.1
def es_ (E : ze_E) : Bool := E.2.2.1
def et_ (E : ze_E) : Nat := E.2.2.2.1
def ep_ (E : ze_E) : Nat := E.2.2.2.2.1
def en_ (E : ze_E) : Int32 := E.2.2.2.2.2.1
def el_ (E : ze_E) : Nat → Nat := E.2.2.2.2.2.2.1
def ex_ (E : ze_E) : Nat → Int := E.2.2.2.2.2.2.2.1
def ei_ (E : ze_E) : Nat → Int := E.2.2.2.2.2.2.2.2.1
def eo_ (E : ze_E) : Nat → Nat → Int := E.2.2.2.2.2.2.2.2.2
def e0_ : ze_E := (0, false, false, 0, 0, 0, fun _ => 0, fun _ => 0, fun _ => 0, fun _ _ => 0)
def ej_g (E : ze_E) : ze_E := (eh_ E, true, E.2.2)
def ej_s (E : ze_E) (u : Nat) : ze_E := (eh_ E, eg_ E, true, u, E.2.2.2.2)
def ej_n (E : ze_E) (v : Int32) : ze_E := (eh_ E, eg_ E, es_ E, et_ E, ep_ E, v, E.2.2.2.2.2.2)
def ej_l (E : ze_E) (s u : Nat) : ze_E := (eh_ E, eg_ E, es_ E, et_ E, ep_ E, en_ E, va_up (el_ E) s u, E.2.2.2.2.2.2.2)
def ej_x (E : ze_E) (b : Nat) (d : Int) : ze_E := (eh_ E, eg_ E, es_ E, et_ E, ep_ E, en_ E, el_ E, va_up (ex_ E) b (ex_ E b + d), ei_ E, eo_ E)
def ej_i (E : ze_E) (b : Nat) (v : Int) : ze_E := (eh_ E, eg_ E, es_ E, et_ E, ep_ E, en_ E, el_ E, ex_ E, va_up (ei_ E) b v, eo_ E)
def ej_o (E : ze_E) (a b : Nat) (d : Int) : ze_E := (eh_ E, eg_ E, es_ E, et_ E, ep_ E, en_ E, el_ E, ex_ E, ei_ E, va_up (eo_ E) a (va_up (eo_ E a) b (eo_ E a b + d)))
def zn_ (Z : zz_S) : Nat := Z.1.1
def zo_ (Z : zz_S) : Nat := Z.1.2.1
def zp_ (Z : zz_S) : Nat := Z.1.2.2
def zg_ (Z : zz_S) : Nat → List (Int32 × Int32) := Z.2.1
def ze_ (Z : zz_S) : Nat → ze_E := Z.2.2.1
def zr_ (Z : zz_S) : List zr_R := Z.2.2.2.1
def zl_ (Z : zz_S) : List zm_L := Z.2.2.2.2.1
def zt_ (Z : zz_S) : Nat → List Int32 := Z.2.2.2.2.2
def zj_o (Z : zz_S) (o : Nat) : zz_S := ((zn_ Z, o, zp_ Z), Z.2)
def zj_p (Z : zz_S) (p : Nat) : zz_S := ((zn_ Z, zo_ Z, p), Z.2)
def zj_g (Z : zz_S) (k : Nat) (l : List (Int32 × Int32)) : zz_S := (Z.1, va_up (zg_ Z) k l, Z.2.2)
def zj_e (Z : zz_S) (e : Nat) (E : ze_E) : zz_S := (Z.1, Z.2.1, va_up (ze_ Z) e E, Z.2.2.2)
def zj_r (Z : zz_S) (l : List zr_R) : zz_S := (Z.1, Z.2.1, ze_ Z, l, Z.2.2.2.2)
def zj_l (Z : zz_S) (l : List zm_L) : zz_S := (Z.1, Z.2.1, ze_ Z, zr_ Z, l, Z.2.2.2.2.2)
def zj_t (Z : zz_S) (v : Nat) (l : List Int32) : zz_S := (Z.1, Z.2.1, ze_ Z, zr_ Z, zl_ Z, va_up (zt_ Z) v l)
def zh_ (Z : zz_S) (e : Nat) : Nat := eh_ (ze_ Z e)
def zk_made (Z : zz_S) (e : Nat) : Bool := (decide (1 ≤ e) && decide (e ≤ zo_ Z)) || (decide (101 ≤ e) && decide (e ≤ 100 + zp_ Z))
def zk_live (Z : zz_S) (e : Nat) : Bool := zk_made Z e && !eg_ (ze_ Z e)
/-- a new net of n vats -/
def z0_ (n : Nat) : zz_S := ((n, n, 0), (fun _ => []), (fun e => if 1 ≤ e ∧ e ≤ n then (e - 1, false, false, 0, e - 1, 0, fun _ => 0, fun _ => 0, fun _ => 0, fun _ _ => 0) else e0_), [], [], fun _ => [])
def z_post (Z : zz_S) (kind a b what : Nat) (v : Int32) (e q : Nat) : zz_S := zj_l Z (zl_ Z ++ [(kind, a, b, what, v, e, q)])
def z_pack (Z : zz_S) (a b e : Nat) : zz_S :=
  if e = 0 then Z else if zh_ Z e = a then zj_e Z e (ej_x (ze_ Z e) b 1) else if zh_ Z e ≠ b then z_post Z 4 a (zh_ Z e) e (nI b) 0 0 else Z
def z_unpack (Z : zz_S) (a b e : Nat) : zz_S :=
  if e = 0 ∨ zh_ Z e = b then Z else
    let Z1 := zj_e Z e (ej_i (ze_ Z e) b (ei_ (ze_ Z e) b + 1))
    if zh_ Z e ≠ a then z_post Z1 5 b (zh_ Z e) e (nI a) 0 0 else Z1
def z_pair (Z : zz_S) (a b e : Nat) (d : Int) : zz_S :=
  let E := ze_ Z e
  let E1 := ej_o E a b d
  zj_e Z e (if (0 < d ∧ eo_ E a b < 0) ∨ (d < 0 ∧ 0 < eo_ E a b) then ej_x E1 b 1 else E1)
/-- a call to t passes on in the vat h -/
def zk_pass (Z : zz_S) (h t : Nat) : Bool := decide (100 < t) && decide (zh_ Z t = h) && es_ (ze_ Z t)
def z_follow (Z : zz_S) (h : Nat) : Nat → Nat → Nat
  | 0, t => t
  | k + 1, t => if zk_pass Z h t = true then z_follow Z h k (et_ (ze_ Z t)) else t
def z_meet (Z : zz_S) (h p : Nat) : Nat → Nat → Bool
  | 0, u => decide (u = p)
  | k + 1, u => if u = p then true else if zk_pass Z h u = true then z_meet Z h p k (et_ (ze_ Z u)) else false
def z_waits (Z : zz_S) (t : Nat) : Nat := ((zr_ Z).filter (fun r => r.1 == t)).length
def z_go (Z : zz_S) (lost : List Nat) (h u : Nat) (v : Int32) (e q : Nat) : zz_S × List Nat :=
  let t := z_follow Z h 101 u
  if t = 0 ∨ (100 < t ∧ zh_ Z t = h ∧ 8 ≤ z_waits Z t) then (Z, if 0 < q then lost ++ [q] else lost)
  else if zh_ Z t ≠ h then (z_post (z_pack Z h (zh_ Z t) e) 1 h (zh_ Z t) t v e q, lost)
  else (zj_r Z (zr_ Z ++ [(if 100 < t then t else h, t, v, e, q)]), lost)
def z_settle (Z : zz_S) (lost : List Nat) (w p ref : Nat) : zz_S × List Nat :=
  if p = 0 then (Z, lost)
  else if zh_ Z p ≠ w then (z_post (z_pack Z w (zh_ Z p) ref) 2 w (zh_ Z p) p 0 ref 0, lost)
  else if eg_ (ze_ Z p) = true ∨ es_ (ze_ Z p) = true then (Z, lost)
  else
    let u := if z_meet Z w p 101 ref = true then 0 else ref
    let Z1 := zj_e Z p (ej_s (ze_ Z p) u)
    ((zr_ Z).filter (fun r => r.1 == p)).foldl (fun s r => z_go s.1 s.2 w u r.2.2.1 r.2.2.2.1 r.2.2.2.2) (zj_r Z1 ((zr_ Z).filter (fun r => !(r.1 == p))), lost)
/-- the answers of lost calls, oldest first; what one of them loses comes behind the rest -/
def z_mourn (w : Nat) : Nat → zz_S → List Nat → zz_S
  | 0, Z, _ => Z
  | _ + 1, Z, [] => Z
  | k + 1, Z, q :: l => z_mourn w k (z_settle Z l w q 0).1 (z_settle Z l w q 0).2
def z_done (w : Nat) (s : zz_S × List Nat) : zz_S := z_mourn w 101 s.1 s.2
def z_code (Z : zz_S) (g op x : Int32) : zz_S × Bool :=
  if 0 ≤ g ∧ g < 8 ∧ 0 ≤ op ∧ op ≤ 10 ∧ (zg_ Z g.toNatClampNeg).length < 8 ∧ ((op = 3 ∨ op = 4 ∨ op = 7) → 0 ≤ x ∧ x < 4) ∧ ((op = 6 ∨ op = 8) → 0 ≤ x ∧ x < 8) then (zj_g Z g.toNatClampNeg (zg_ Z g.toNatClampNeg ++ [(op, x)]), true) else (Z, false)
def z_clear (Z : zz_S) (g : Int32) : zz_S × Bool := if 0 ≤ g ∧ g < 8 then (zj_g Z g.toNatClampNeg [], true) else (Z, false)
/-- v is a vat's number -/
def zk_vat (Z : zz_S) (v : Int32) : Prop := 0 ≤ v ∧ v.toNatClampNeg < zn_ Z
def z_give (Z : zz_S) (v s w : Nat) : zz_S :=
  let Z1 := zj_e Z (v + 1) (ej_l (ze_ Z (v + 1)) s (w + 1))
  if v = w then Z1 else
    let Z2 := zj_e Z1 (w + 1) (ej_x (ze_ Z1 (w + 1)) v 1)
    zj_e Z2 (w + 1) (ej_i (ze_ Z2 (w + 1)) v (ei_ (ze_ Z2 (w + 1)) v + 1))
def z_inbox (Z : zz_S) (v : Nat) : Nat := ((zr_ Z).filter (fun r => r.1 == v)).length
def z_poke (Z : zz_S) (v : Nat) (x : Int32) : zz_S × Bool := if z_inbox Z v < 20 then (zj_r Z (zr_ Z ++ [(v, v + 1, x, 0, 0)]), true) else (Z, false)
def z_fresh (Z : zz_S) (v g : Nat) (x : Int32) (r : Nat) : zz_S × Nat :=
  if 60 ≤ zo_ Z then (Z, 0) else (zj_e (zj_o Z (zo_ Z + 1)) (zo_ Z + 1) (v, false, false, 0, g, x, va_up (fun _ => 0) 0 r, fun _ => 0, fun _ => 0, fun _ _ => 0), zo_ Z + 1)
def z_send (Z : zz_S) (v t : Nat) (x : Int32) (r : Nat) : zz_S × Nat :=
  if t = 0 ∨ 100 ≤ zp_ Z then (Z, 0) else
    let q := 101 + zp_ Z
    let Z1 := zj_e (zj_p Z (zp_ Z + 1)) q (zh_ Z t, false, false, 0, 0, 0, fun _ => 0, fun _ => 0, fun _ => 0, fun _ _ => 0)
    if zh_ Z t = v then (z_done v (z_go Z1 [] v t x r q), q) else
      let Z2 := z_post (z_pack Z1 v (zh_ Z t) r) 1 v (zh_ Z t) t x r q
      (zj_e Z2 q (ej_i (ej_x (ze_ Z2 q) v 1) v 1), q)
/-- one instruction of a turn in vat v of object o: the state, the value, the reference, how many are skipped -/
def z_act (v o : Nat) (s : zz_S × Int32 × Nat) (op x : Int32) : (zz_S × Int32 × Nat) × Nat :=
  let Z := s.1
  if op = 0 then ((Z, x, s.2.2), 0)
  else if op = 1 then ((Z, s.2.1 + en_ (ze_ Z o), s.2.2), 0)
  else if op = 2 then ((zj_e Z o (ej_n (ze_ Z o) s.2.1), s.2.1, s.2.2), 0)
  else if op = 3 then ((zj_e Z o (ej_l (ze_ Z o) x.toNatClampNeg s.2.2), s.2.1, s.2.2), 0)
  else if op = 4 then ((Z, s.2.1, el_ (ze_ Z o) x.toNatClampNeg), 0)
  else if op = 5 then ((Z, s.2.1, o), 0)
  else if op = 6 then (((z_fresh Z v x.toNatClampNeg s.2.1 s.2.2).1, s.2.1, (z_fresh Z v x.toNatClampNeg s.2.1 s.2.2).2), 0)
  else if op = 7 then (((z_send Z v (el_ (ze_ Z o) x.toNatClampNeg) s.2.1 s.2.2).1, s.2.1, (z_send Z v (el_ (ze_ Z o) x.toNatClampNeg) s.2.1 s.2.2).2), 0)
  else if op = 8 then (s, if s.2.1 = 0 then x.toNatClampNeg else 0)
  else if op = 9 then ((zj_t Z v (s.2.1 :: zt_ Z v), s.2.1, s.2.2), 0)
  else ((Z, s.2.1, 0), 0)
/-- the instructions of a program, k of them skipped first -/
def z_run (v o : Nat) : List (Int32 × Int32) → Nat → zz_S × Int32 × Nat → zz_S × Int32 × Nat
  | [], _, s => s
  | _ :: l, k + 1, s => z_run v o l k s
  | i :: l, 0, s => z_run v o l (z_act v o s i.1 i.2).2 (z_act v o s i.1 i.2).1
/-- the first resting call at place v, and the rest of them -/
def z_first (v : Nat) : List zr_R → Option (zr_R × List zr_R)
  | [] => none
  | r :: l => if r.1 = v then some (r, l) else (z_first v l).map (fun q => (q.1, r :: q.2))
def z_turn (Z : zz_S) (v : Nat) : zz_S × Int32 := match z_first v (zr_ Z) with
  | none => (Z, -1)
  | some (r, l) =>
    let o := r.2.1
    let s := z_run v o (zg_ Z (ep_ (ze_ Z o))) 0 (zj_r Z l, r.2.2.1, r.2.2.2.1)
    (z_done v (z_settle s.1 [] v r.2.2.2.2 s.2.2), nI o)
/-- the oldest message from a to b, and the others -/
def z_old (a b : Nat) : List zm_L → Option (zm_L × List zm_L)
  | [] => none
  | r :: l => if r.2.1 = a ∧ r.2.2.1 = b then some (r, l) else (z_old a b l).map (fun q => (q.1, r :: q.2))
def z_deliver (Z : zz_S) (a b : Nat) : zz_S × Int32 := match z_old a b (zl_ Z) with
  | none => (Z, 0)
  | some (r, l) =>
    let what := r.2.2.2.1
    let v := r.2.2.2.2.1
    let e := r.2.2.2.2.2.1
    let q := r.2.2.2.2.2.2
    let Z1 := z_unpack (zj_l Z l) a b e
    (if r.1 = 1 then z_done b (z_go Z1 [] b what v e q)
      else if r.1 = 2 then z_done b (z_settle Z1 [] b what e)
      else if r.1 = 3 then zj_e Z1 what (ej_x (ze_ Z1 what) a (-v.toInt))
      else if r.1 = 4 then z_pair Z1 a v.toNatClampNeg what 1
      else z_pair Z1 v.toNatClampNeg a what (-1), nI r.1)
def z_flying (Z : zz_S) (a b : Nat) : Nat := ((zl_ Z).filter (fun r => r.2.1 == a && r.2.2.1 == b)).length
/-! sweeps -/
def zk_root (Z : zz_S) (v e : Nat) : Bool :=
  (zk_live Z e && decide (zh_ Z e = v) && (decide (e = v + 1) || (List.range 4).any (fun b => decide (0 < ex_ (ze_ Z e) b)) || (List.range 16).any (fun q => decide (0 < eo_ (ze_ Z e) (q / 4) (q % 4))))) ||
  (zr_ Z).any (fun r => (r.1 == v && (r.2.1 == e || r.2.2.2.1 == e)) || (decide (100 < r.1) && decide (zh_ Z r.1 = v) && r.1 == e))
/-- what an entity of v that is reached reaches at once: what a live one leads to, and the arguments of the calls that wait at it -/
def zk_next (Z : zz_S) (v f e : Nat) : Bool :=
  (zk_live Z f && decide (zh_ Z f = v) && ((decide (100 < f) && es_ (ze_ Z f) && et_ (ze_ Z f) == e) || (decide (f ≤ 60) && (List.range 4).any (fun s => el_ (ze_ Z f) s == e)))) ||
  (zr_ Z).any (fun r => r.1 == f && decide (100 < f) && decide (zh_ Z f = v) && r.2.2.2.1 == e)
def z_reach (Z : zz_S) (v : Nat) : Nat → Nat → Bool
  | 0, e => decide (e ≠ 0) && zk_root Z v e
  | k + 1, e => z_reach Z v k e || (decide (e ≠ 0) && (List.range 201).any (fun f => z_reach Z v k f && zk_next Z v f e))
/-- D is what a sweep of v reaches -/
def zk_isR (Z : zz_S) (v : Nat) (D : Nat → Bool) : Prop := ∀ e, D e = true ↔ ∃ k, z_reach Z v k e = true
def zk_fr (Z : zz_S) (v : Nat) (D : Nat → Bool) (e : Nat) : Bool := zk_live Z e && decide (zh_ Z e = v) && !D e
def z_free (Z : zz_S) (v : Nat) (D : Nat → Bool) (n : Nat) : zz_S := (List.range n).foldl (fun Y e => if zk_fr Z v D e = true then zj_e Y e (ej_g (ze_ Y e)) else Y) Z
def z_drop (D : Nat → Bool) (v : Nat) (Z : zz_S) (n : Nat) : zz_S := (List.range n).foldl (fun Y e => if 0 < ei_ (ze_ Y e) v ∧ D e = false then z_post (zj_e Y e (ej_i (ze_ Y e) v 0)) 3 v (zh_ Y e) e (Int32.ofInt (ei_ (ze_ Y e) v)) 0 0 else Y) Z
/-- a sweep of v, where D is what it reaches -/
def z_sweep (Z : zz_S) (v : Nat) (D : Nat → Bool) : zz_S × Int32 := (z_drop D v (z_free Z v D 201) 201, nI ((List.range 201).filter (zk_fr Z v D)).length)
