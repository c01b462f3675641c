/-! rows that rest on what a contract knows of the start -/
theorem ar_1 {c i k i2 T : Nat} (h : c + i = T) (e : i = k + i2) : c + k ≤ T := by omega
theorem ar_2 {c i k i2 T : Nat} (h : c + i = T) (e : i = k + i2) : c + k + i2 = T := by omega
theorem ar_4b {N : Nat} (h : N * 4 ≤ 536870912) : N * 1 ≤ 536870912 := by omega
theorem ar_4s {N : Nat} (h : N * 4 ≤ 536870912) : N * 2 ≤ 536870912 := by omega
theorem ic_cat (x : Int32) : (Value.int x).category = 1 := rfl
theorem as_of {D : va_G} {ac : Nat → ClassId} {a0 : Nat} {gl : gl_T} {s : State} (hKs : kn_ D ac a0 gl s) {ci : Nat} {q : vw_C} {E : String} (hq : cl_[ci]? = some q) (h : q.1 = E ∨ (q.1, E) ∈ ca_) : ∀ comp c0 : ClassId, s.vm.findClass E = some comp → s.vm.findClass q.1 = some c0 → s.vm.assignable c0 comp = true := by
  intro comp c0 h1 h2
  rcases h with h | h
  · rw [← h] at h1
    have hcls := (hKs.1.1 ci q hq).2
    cases hcls.1.symm.trans h1
    cases h1.symm.trans h2
    exact va_assign hcls
  · obtain ⟨c1, t1, f1, f2, f3⟩ := Cond.castable_spec (va_Nw.use (A := #[]) rfl (hKs.2.1 _ h))
    cases h2.symm.trans f1
    cases h1.symm.trans f2
    exact f3
section RRF
variable {p : Program} {l : Launch} {e : Env} {R : Room} {s : State} {m : MethodId} {args : Array Value} {below : List Frame} {meth : Method} {c : Code} {H : Heap} {locs : List Loc} {cells slots : Nat} {Q : State → Prop}
variable {cc : ByteArray} {pc nL : Nat} {ls : Array Slot} {rest st0 : List Value} {D : va_G} {ac : Nat → ClassId} {a0 : Nat} {gl : gl_T} {st st' : st_S} {own : String} {tb : List Cond}
variable {index n maxL fr lo i j : Nat}
theorem rr_ed (X : cx_ p s m args c cc nL own tb D cl_ (ty_ ac)) (hKs : kn_ D ac a0 gl s) (hw : ww_ D cl_ ac a0 st s.heap H locs) (hlink : Cond.fieldLink own index "java/util/ArrayList" "DEFAULTCAPACITY_EMPTY_ELEMENTDATA" "[Ljava/lang/Object;" ∈ tb) (hdg : decode cc pc = .ok (.getstatic index, 3))
    (kk : W p l e R s m args below meth c H locs cells slots Q (F0 m (pc + 3) ls (va_rf (some gl.1) :: rest))) : W p l e R s m args below meth c H locs cells slots Q (F0 m pc ls rest) :=
  va_gets X.1 X.2.1 hKs.2.2.2.2.2.1 hw.2.1 X.2.2.2.1 (X.2.2.2.2.1 _ hlink) (fun _ h => h) hdg kk
/-- the length of a list's row: the empty row of all empty lists is known apart -/
def so_ne (gl : gl_T) (r : Option Nat) (ts : List Nat) (st : st_S) : Option Int32 := if r = some gl.1 then some 0 else so_n r ts st
theorem rr_alne {ts : List Nat} {r : Option Nat} {x : Int32} (X : cx_ p s m args c cc nL own tb D cl_ (ty_ ac)) (hKs : kn_ D ac a0 gl s) (hw : ww_ D cl_ ac a0 st s.heap H locs) (ht : ∀ t ∈ ts, ∃ E : FieldType, (ty_ ac)[t]? = some (ac t, E)) (hv : so_ne gl r ts st = some x) (hdg : decode cc pc = .ok (.arraylength, 1))
    (kk : W p l e R s m args below meth c H locs cells slots Q (F0 m (pc + 1) ls (.int x :: rest))) : W p l e R s m args below meth c H locs cells slots Q (F0 m pc ls (va_rf r :: rest)) := by
  unfold so_ne at hv
  split at hv
  · rename_i hr
    subst hr
    cases hv
    exact va_tlen X.1 X.2.1 hKs.2.2.2.2.2.2.1 hw.2.1 rfl hdg kk
  · exact rr_alen X hw ht hv hdg kk
theorem rr_mi (X : cx_ p s m args c cc nL own tb D cl_ (ty_ ac)) (hKs : kn_ D ac a0 gl s) (hlink : Cond.classLink own index "[Ljava/lang/Object;" ∈ tb) (hdg : decode cc pc = .ok (.ldc index, 2))
    (kk : W p l e R s m args below meth c H locs cells slots Q (F0 m (pc + 2) ls (va_rf (some gl.2.1) :: rest))) : W p l e R s m args below meth c H locs cells slots Q (F0 m pc ls rest) :=
  va_ldcM X.1 X.2.1 X.2.2.2.1 (X.2.2.2.2.1 _ hlink) hKs.2.2.2.2.2.2.2.1 hdg kk
/-- a row of Object -/
def so_ro (r : Option Nat) (t : Nat) (st : st_S) : Option Unit := match r with
  | none => none
  | some a => match st.1 a with
    | some (.inr (.inl o)) => if o.1 = t ∧ 0 < o.2.1 then some () else none
    | _ => none
theorem so_ro_some {r : Option Nat} {t : Nat} {u : Unit} (h : so_ro r t st = some u) : ∃ (a n : Nat) (f : Nat → Option Nat), r = some a ∧ st.1 a = some (.inr (.inl (t, n, f))) ∧ 0 < n := by
  unfold so_ro at h
  split at h
  · cases h
  · rename_i a
    split at h
    · rename_i o ho
      obtain ⟨t', n, f⟩ := o
      split at h
      · rename_i hc
        obtain ⟨rfl, h1⟩ := hc
        exact ⟨a, n, f, rfl, ho, h1⟩
      · cases h
    · cases h
/-- getClass() of a list's row -/
theorem rr_gc {r : Option Nat} {u : Unit} (X : cx_ p s m args c cc nL own tb D cl_ (ty_ ac)) (hKs : kn_ D ac a0 gl s) (hw : ww_ D cl_ ac a0 st s.heap H locs) (hv : so_ro r 9 st = some u) (hls : ls.size = nL) (hlink : Cond.methodLink own index ⟨"java/lang/Object", "getClass", "()Ljava/lang/Class;"⟩ ∈ tb)
    (hsel : Cond.selects "[Ljava/lang/Object;" ⟨"java/lang/Object", "getClass", "()Ljava/lang/Class;"⟩ ⟨"java/lang/Object", "getClass", "()Ljava/lang/Class;"⟩ ∈ tb) (hinst : Cond.instanceMethod ⟨"java/lang/Object", "getClass", "()Ljava/lang/Class;"⟩ ∈ tb) (hnat : Cond.native ⟨"java/lang/Object", "getClass", "()Ljava/lang/Class;"⟩ ∈ tb)
    (hfr : 1 ≤ R.frames) (hlo : (rest.map fun v => v.category).sum + 14 ≤ R.locals) (hdg : decode cc pc = .ok (.invokevirtual index, 3))
    (kk : W p l e R s m args below meth c H locs cells slots Q (F0 m (pc + 3) ls (va_rf (some gl.2.1) :: rest))) : W p l e R s m args below meth c H locs cells slots Q (F0 m pc ls (va_rf r :: rest)) := by
  obtain ⟨a, n, f, rfl, ha, hn⟩ := so_ro_some hv
  obtain ⟨x1, x2, x3, x4, x5, x6⟩ := X
  have hc : H[a]? = some (vp_cell (ac 9) (n, .inr (.inr (.inr (.inr f))))) := (hw.1.2.2 a _ ha).2
  have hnm : s.vm.findClass "[Ljava/lang/Object;" = some (ac 9) := va_nmO (C := "java/lang/Object") (x6.2 9 (ac 9, .object "java/lang/Object") rfl).2 (by decide +kernel)
  exact va_getC x1 x2 (x3.trans hls.symm) x4 (x5 _ hlink) (va_Dc.use hKs.2.2.2.2.2.2.2.2.1) (x5 _ hsel) (x5 _ hinst) (x5 _ hnat) hKs.2.2.2.2.2.2.2.1 ⟨_, hc, rfl, hnm⟩ hfr hlo hdg kk
/-- System.arraycopy between rows of references, whose elements are objects of the classes cis -/
def so_cq (r0 : Option Nat) (sp : Int32) (r1 : Option Nat) (dp n : Int32) (t : Nat) (cis : List Nat) (st : st_S) : Option st_S := match r0, r1 with
  | some a0, some a1 => match st.1 a0, st.1 a1 with
    | some (.inr (.inl x)), some (.inr (.inl y)) => if x.1 = t ∧ y.1 = t ∧ 0 < x.2.1 ∧ 0 < y.2.1 ∧ ¬ sp < 0 ∧ ¬ dp < 0 ∧ ¬ n < 0 ∧ sp.toNatClampNeg + n.toNatClampNeg ≤ x.2.1 ∧ dp.toNatClampNeg + n.toNatClampNeg ≤ y.2.1 ∧ (∀ i, i < n.toNatClampNeg → so_is st (x.2.2 (sp.toNatClampNeg + i)) cis = true) then
        some (st_up st a1 (.inr (.inl (y.1, y.2.1, va_cpy x.2.2 y.2.2 sp.toNatClampNeg dp.toNatClampNeg n.toNatClampNeg)))) else none
    | _, _ => none
  | _, _ => none
/-- .. and between rows of ints -/
def so_ci (r0 : Option Nat) (sp : Int32) (r1 : Option Nat) (dp n : Int32) (t : Nat) (st : st_S) : Option st_S := match r0, r1 with
  | some a0, some a1 => match st.1 a0, st.1 a1 with
    | some (.inl x), some (.inl y) => if x.1 = t ∧ y.1 = t ∧ ¬ sp < 0 ∧ ¬ dp < 0 ∧ ¬ n < 0 ∧ sp.toNatClampNeg + n.toNatClampNeg ≤ x.2.1 ∧ dp.toNatClampNeg + n.toNatClampNeg ≤ y.2.1 then
        some (st_up st a1 (.inl (y.1, y.2.1, va_cpy x.2.2 y.2.2 sp.toNatClampNeg dp.toNatClampNeg n.toNatClampNeg))) else none
    | _, _ => none
  | _, _ => none
theorem nn_i (z : Int32) (hz : ¬ z < 0) : z.toInt = (z.toNatClampNeg : Int) := by
  have hz0 : (0 : Int) ≤ z.toInt := by
    have := Int32.not_lt.mp hz
    simpa using Int32.le_iff_toInt_le.mp this
  show z.toInt = ((z.toInt.toNat : Nat) : Int)
  omega
end RRF
