/-! the script: a row of ints that lies below a0, nobody writes it -/
def so_x (gl : gl_T) (r : Option Nat) (x : Int32) (_ : st_S) : Option Int32 := if r = some gl.2.2.1 ∧ ¬ x < 0 ∧ x.toNatClampNeg < gl.2.2.2.1 then some (gl.2.2.2.2 x.toNatClampNeg) else none
def so_xl (gl : gl_T) (r : Option Nat) (_ : st_S) : Option Int32 := if r = some gl.2.2.1 then some (Int32.ofNat gl.2.2.2.1) else none
section RRH
variable {p : Program} {l : Launch} {e : Env} {R : Room} {s : State} {m : MethodId} {args : Array Value} {below : List Frame} {meth : Method} {c : Code} {H : Heap} {locs : List Loc} {cells slots : Nat} {Q : State → Prop}
variable {cc : ByteArray} {pc nL : Nat} {ls : Array Slot} {rest st0 : List Value} {D : va_G} {ac : Nat → ClassId} {a0 : Nat} {gl : gl_T} {st st' : st_S} {own : String} {tb : List Cond} {index : Nat}
theorem rr_xld {r : Option Nat} {x y : Int32} (X : cx_ p s m args c cc nL own tb D cl_ (ty_ ac)) (hKs : kn_ D ac a0 gl s) (hw : ww_ D cl_ ac a0 st s.heap H locs) (hv : so_x gl r x st = some y) (hdg : decode cc pc = .ok (.iaload, 1))
    (kk : W p l e R s m args below meth c H locs cells slots Q (F0 m (pc + 1) ls (.int y :: rest))) : W p l e R s m args below meth c H locs cells slots Q (F0 m pc ls (.int x :: va_rf r :: rest)) := by
  unfold so_x at hv
  split at hv
  · rename_i hc
    obtain ⟨rfl, h1, h2⟩ := hc
    cases hv
    obtain ⟨-, -, -, -, -, -, -, -, -, k10, k11, k12⟩ := hKs
    exact va_sld X.1 X.2.1 k10 (by omega) (by omega) hw.2.1 (fun z => z.elim h1 (fun z => Nat.not_le.mpr h2 z)) hdg kk
  · cases hv
theorem rr_xln {r : Option Nat} {y : Int32} (X : cx_ p s m args c cc nL own tb D cl_ (ty_ ac)) (hKs : kn_ D ac a0 gl s) (hw : ww_ D cl_ ac a0 st s.heap H locs) (hv : so_xl gl r st = some y) (hdg : decode cc pc = .ok (.arraylength, 1))
    (kk : W p l e R s m args below meth c H locs cells slots Q (F0 m (pc + 1) ls (.int y :: rest))) : W p l e R s m args below meth c H locs cells slots Q (F0 m pc ls (va_rf r :: rest)) := by
  unfold so_xl at hv
  split at hv
  · rename_i hc
    subst hc
    cases hv
    obtain ⟨-, -, -, -, -, -, -, -, -, k10, k11, k12⟩ := hKs
    exact va_slen X.1 X.2.1 k10 (by omega) (by omega) hw.2.1 hdg kk
  · cases hv
end RRH
