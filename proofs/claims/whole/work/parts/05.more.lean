/-! further rows: nulls, truths, lengths, casts, calls of inherited methods -/
def fu_ : Nat := 5000
def so_z (x : Int32) (_ : st_S) : Option Unit := if x = 0 ∨ x = 1 then some () else none
theorem so_z_or {x : Int32} {st : st_S} {u : Unit} (h : so_z x st = some u) : x = 0 ∨ x = 1 := by
  unfold so_z at h
  split at h
  · assumption
  · cases h
theorem so_z_n {x : Int32} {st : st_S} {u : Unit} (h : so_z x st = some u) : narrow .boolean (.int x) = .int x := by
  rcases so_z_or h with rfl | rfl <;> rfl
theorem so_z_f {x : Int32} {st : st_S} {u : Unit} (h : so_z x st = some u) : fits .boolean (.int x) = true := by
  rcases so_z_or h with rfl | rfl <;> rfl
def so_l (x : Int32) (_ : st_S) : Option Unit := if ¬ x < 0 ∧ x.toNatClampNeg * 4 ≤ 536870912 then some () else none
theorem so_l_s {x : Int32} {st : st_S} {u : Unit} (h : so_l x st = some u) : ¬ x < 0 ∧ x.toNatClampNeg * 4 ≤ 536870912 := by
  unfold so_l at h
  split at h
  · assumption
  · cases h
theorem rf_nar (C : String) (r : Option Nat) : narrow (.object C) (va_rf r) = va_rf r := by cases r <;> rfl
theorem rf_fit (C : String) (r : Option Nat) : fits (.object C) (va_rf r) = true := by cases r <;> rfl
theorem rf_narA (t : FieldType) (r : Option Nat) : narrow (.array t) (va_rf r) = va_rf r := by cases r <;> rfl
theorem rf_fitA (t : FieldType) (r : Option Nat) : fits (.array t) (va_rf r) = true := by cases r <;> rfl
/-- instanceof: objects of the classes yes are, those of the classes no are not -/
def so_i (r : Option Nat) (yes no : List Nat) (st : st_S) : Option Int32 := match r with
  | none => some 0
  | some a => match st.1 a with
    | some (.inr (.inr o)) => if o.1 ∈ yes then some 1 else if o.1 ∈ no then some 0 else none
    | _ => none
def so_k (r : Option Nat) (yes : List Nat) (st : st_S) : Option Unit := match r with
  | none => some ()
  | some a => match st.1 a with
    | some (.inr (.inr o)) => if o.1 ∈ yes then some () else none
    | _ => none
/-- an object of class ci is a nm, or isn't -/
def cy_ (cl : List vw_C) (yes : List Nat) (nm : String) (s : State) : Prop := ∀ ci ∈ yes, ∃ q : vw_C, cl[ci]? = some q ∧ (q.1 = nm ∨ va_Nw (.castable q.1 nm) s)
def cn_ (cl : List vw_C) (no : List Nat) (nm : String) (s : State) : Prop := ∀ ci ∈ no, ∃ q : vw_C, cl[ci]? = some q ∧ va_Nc q.1 nm s
section RRD
variable {p : Program} {l : Launch} {e : Env} {R : Room} {s : State} {m : MethodId} {args : Array Value} {below : List Frame} {meth : Method} {c : Code} {H : Heap} {locs : List Loc} {cells slots : Nat} {Q : State → Prop}
variable {cc : ByteArray} {pc nL : Nat} {ls : Array Slot} {rest st0 : List Value} {D : va_G} {cl : List vw_C} {ac : Nat → ClassId} {tys : List (ClassId × FieldType)} {a0 : Nat} {H0 : Heap} {st st' : st_S} {own : String} {tb : List Cond} {K : State → Prop}
variable {index n maxL fr lo i j : Nat} {y : MethodName} {bytes : ByteArray} {ret : Option FieldType} {As : List Value} {rv : Option Value}
theorem rr_null (X : cx_ p s m args c cc nL own tb D cl tys) (hdg : decode cc pc = .ok (.aconst_null, 1)) (kk : W p l e R s m args below meth c H locs cells slots Q (F0 m (pc + 1) ls (va_rf none :: rest))) : W p l e R s m args below meth c H locs cells slots Q (F0 m pc ls rest) :=
  lv_null X.1 X.2.1 hdg kk
theorem rr_isY {nm : String} {yes : List Nat} {ci : Nat} (X : cx_ p s m args c cc nL own tb D cl tys) (hy : cy_ cl yes nm s) (hci : ci ∈ yes) : ∃ q : vw_C, cl[ci]? = some q ∧ ((∃ cC : ClassId, ClassAt s nm cC ∧ q.1 = nm) ∨ va_Nw (.castable q.1 nm) s) := by
  obtain ⟨q, h1, h2⟩ := hy ci hci
  refine ⟨q, h1, ?_⟩
  rcases h2 with h2 | h2
  · exact Or.inl ⟨_, by rw [← h2]; exact (X.2.2.2.2.2.1 ci q h1).2, h2⟩
  · exact Or.inr h2
theorem rr_inst {nm : String} {yes no : List Nat} {r : Option Nat} {x : Int32} (X : cx_ p s m args c cc nL own tb D cl tys) (hw : ww_ D cl ac a0 st H0 H locs) (hy : cy_ cl yes nm s) (hn : cn_ cl no nm s) (hv : so_i r yes no st = some x)
    (hlink : Cond.classLink own index nm ∈ tb) (hdg : decode cc pc = .ok (.instanceof index, 3)) (kk : W p l e R s m args below meth c H locs cells slots Q (F0 m (pc + 3) ls (.int x :: rest))) : W p l e R s m args below meth c H locs cells slots Q (F0 m pc ls (va_rf r :: rest)) := by
  unfold so_i at hv
  split at hv
  · cases hv
    exact lv_instN X.1 X.2.1 hdg kk
  · rename_i a
    split at hv
    · rename_i o ho
      obtain ⟨ci, fs⟩ := o
      split at hv
      · rename_i hci
        cases hv
        obtain ⟨q, h1, h2⟩ := rr_isY X hy hci
        have hrv := rr_recv X hw h1 ho
        rcases h2 with ⟨cC, h2, h3⟩ | h2
        · exact va_instS X.1 X.2.1 X.2.2.2.1 (X.2.2.2.2.1 _ hlink) h2 (h3 ▸ hrv) hdg kk
        · exact va_instY X.1 X.2.1 X.2.2.2.1 (X.2.2.2.2.1 _ hlink) h2 hrv hdg kk
      · split at hv
        · rename_i hci
          cases hv
          obtain ⟨q, h1, h2⟩ := hn ci hci
          exact va_instNo X.1 X.2.1 X.2.2.2.1 (X.2.2.2.2.1 _ hlink) h2 (rr_recv X hw h1 ho) hdg kk
        · cases hv
    · cases hv
theorem rr_cast {nm : String} {yes : List Nat} {r : Option Nat} {u : Unit} (X : cx_ p s m args c cc nL own tb D cl tys) (hw : ww_ D cl ac a0 st H0 H locs) (hy : cy_ cl yes nm s) (hv : so_k r yes st = some u)
    (hlink : Cond.classLink own index nm ∈ tb) (hdg : decode cc pc = .ok (.checkcast index, 3)) (kk : W p l e R s m args below meth c H locs cells slots Q (F0 m (pc + 3) ls (va_rf r :: rest))) : W p l e R s m args below meth c H locs cells slots Q (F0 m pc ls (va_rf r :: rest)) := by
  unfold so_k at hv
  split at hv
  · exact lv_castN X.1 X.2.1 hdg kk
  · rename_i a
    split at hv
    · rename_i o ho
      obtain ⟨ci, fs⟩ := o
      split at hv
      · rename_i hci
        obtain ⟨q, h1, h2⟩ := rr_isY X hy hci
        have hrv := rr_recv X hw h1 ho
        rcases h2 with ⟨cC, h2, h3⟩ | h2
        · exact va_castS X.1 X.2.1 X.2.2.2.1 (X.2.2.2.2.1 _ hlink) h2 (h3 ▸ hrv) hdg kk
        · exact va_castY X.1 X.2.1 X.2.2.2.1 (X.2.2.2.2.1 _ hlink) h2 hrv hdg kk
      · cases hv
    · cases hv
theorem rr_objI {r : Option Nat} {ci : Nat} (X : cx_ p s m args c cc nL own tb D cl tys) (hrc : so_c r st = some ci) (hlink : Cond.methodLink own index objectInit ∈ tb) (hinst : Cond.instanceMethod objectInit ∈ tb) (hcode : Cond.code objectInit ⟨#[0xb1]⟩ 1 none ∈ tb)
    (hls : ls.size = nL) (hfr : 1 ≤ R.frames) (hlo : (rest.map fun v => v.category).sum + 12 ≤ R.locals) (hdg : decode cc pc = .ok (.invokespecial index, 3)) (kk : W p l e R s m args below meth c H locs cells slots Q (F0 m (pc + 3) ls rest)) : W p l e R s m args below meth c H locs cells slots Q (F0 m pc ls (va_rf r :: rest)) := by
  obtain ⟨b, fs, rfl, hb⟩ := so_c_some hrc
  obtain ⟨x1, x2, x3, x4, x5, x6⟩ := X
  exact W.objInit x1 x2 x4 (x5 _ hlink) (x5 _ hinst) (x5 _ hcode) rfl (hls.trans x3.symm) rfl hdg hfr (by show 2 * 0 + _ + 12 ≤ _; omega) kk
/-- a call of a method that another class has: x as it is named, y as it is selected -/
theorem rr_callU {r : Option Nat} {ci : Nat} {cis : List Nat} {x : MethodName} {owner : String} (X : cx_ p s m args c cc nL own tb D cl tys) (hw : ww_ D cl ac a0 st s.heap H locs) (hK : kk_ D cl tys a0 K) (hKs : K s) (hM : ct_ l y (Cond.code y bytes maxL ret :: tb) fr lo D cl ac a0 K (va_rf r :: As) st rv st' i j)
    (hG : GoodIn tb tb) (hcode : Cond.code y bytes maxL ret ∈ tb) (hini : Cond.initialized y.cls ∈ tb) (hlink : Cond.methodLink own index x ∈ tb) (hsame : Cond.sameMethod x.cls owner x.name x.desc ∈ tb) (hdecl : va_Decl s ⟨owner, x.name, x.desc⟩) (hinst : Cond.instanceMethod y ∈ tb) (hcs : ∀ ci ∈ cis, ∃ q : vw_C, cl[ci]? = some q ∧ Cond.selects q.1 x y ∈ tb) (hrc : so_cm r cis st = some ci)
    (hd : owner ≠ "java/lang/invoke/MethodHandle" ∧ owner ≠ "java/lang/invoke/VarHandle" ∧ (parseMethodDescriptor x.desc).map (fun d => d.parameters.length) = some n) (hn : As.length = n)
    (hR : fr + 1 ≤ R.frames ∧ 8 + (maxL + 11) + lo ≤ R.locals) (hT : cells + i ≤ R.cells ∧ slots + j ≤ R.slots) (hls : ls.size = nL) (hrm : (rest.map fun v => v.category).sum ≤ 8) (hst : st0 = As.reverse ++ va_rf r :: rest) (hdg : decode cc pc = .ok (.invokevirtual index, 3))
    {sk : List Value} (hsk : rv.toList ++ rest = sk) (kk : ∀ (H1 : Heap) (locs1 : List Loc), ww_ D cl ac a0 st' s.heap H1 locs1 → W p l e R s m args below meth c H1 locs1 (cells + i) (slots + j) Q (F0 m (pc + 3) ls sk)) : W p l e R s m args below meth c H locs cells slots Q (F0 m pc ls st0) := by
  obtain ⟨b, fs, rfl, hb, hci⟩ := so_cm_some hrc
  obtain ⟨q, hc, hsel⟩ := hcs ci hci
  have hrv := rr_recv X hw hc hb
  obtain ⟨x1, x2, x3, x4, x5, x6⟩ := X
  subst hst hsk
  have hp := ct_pre hK hKs hw (va_rf (some b) :: As)
  have hG2 := gi_c (bytes := bytes) (maxL := maxL) (ret := ret) (y := y) hG hcode
  refine ct_go (va_runU (C := q.1) (owner := owner) (x := x) (b := b) (As := As) (rest := rest) ⟨x1, x2, x3, x4, x5⟩ hM ⟨⟨rfl, rfl, hR.1, hR.2, pay_in x5 hG2, List.mem_cons_self⟩, x5 _ hcode, x5 _ hini, ⟨hd.1, hd.2.1⟩, fun sig h => ?_, x5 _ hlink, x5 _ hsame, hdecl, x5 _ hsel, x5 _ hinst⟩ ⟨hp.1, hrv, hp.2⟩ rfl hn hls rfl (lv_room hrm) hdg hT) hw kk
  have h2 := hd.2.2
  rw [h] at h2
  exact (Option.some.inj h2).symm
end RRD
