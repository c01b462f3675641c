/-! Locals whose values all take one place; contracts over stores; calls. -/
theorem rf_cat (r : Option Nat) : (va_rf r).category = 1 := by cases r <;> rfl
def lh_ (ls : Array Slot) (nL : Nat) (lv : List (Nat × Value)) : Prop := lv_has ls nL lv ∧ ∀ q ∈ lv, q.2.category = 1
def la_ : Nat → List Value → List (Nat × Value)
  | _, [] => []
  | i, v :: vs => (i, v) :: la_ (i + 1) vs
theorem la_eq : ∀ (vs : List Value) (i : Nat), (∀ v ∈ vs, v.category = 1) → lv_args i vs = la_ i vs
  | [], _, _ => rfl
  | v :: vs, i, h => by
    have h1 : v.category = 1 := h v List.mem_cons_self
    have h2 : ¬ v.category = 2 := by omega
    unfold lv_args la_
    rw [if_neg h2, la_eq vs (i + 1) (fun w hw => h w (List.mem_cons_of_mem _ hw))]
theorem la_cat : ∀ (vs : List Value) (i : Nat), (∀ v ∈ vs, v.category = 1) → ∀ q ∈ la_ i vs, q.2.category = 1
  | [], _, _, q, hq => by cases hq
  | v :: vs, i, h, q, hq => by
    rcases List.mem_cons.mp hq with rfl | hq
    · exact h v List.mem_cons_self
    · exact la_cat vs (i + 1) (fun w hw => h w (List.mem_cons_of_mem _ hw)) q hq
theorem la_len : ∀ (vs : List Value), (∀ v ∈ vs, v.category = 1) → (lg_sl vs).length = vs.length
  | [], _ => rfl
  | v :: vs, h => by
    have h1 : v.category = 1 := h v List.mem_cons_self
    have h2 : ¬ v.category = 2 := by omega
    have h3 := la_len vs (fun w hw => h w (List.mem_cons_of_mem _ hw))
    unfold lg_sl at h3 ⊢
    rw [List.flatMap_cons, if_neg h2, List.length_append, h3]
    simp
    omega
theorem lh_fil {lv : List (Nat × Value)} {i : Nat} (h : ∀ q ∈ lv, q.2.category = 1) : lv.filter (fun q => !(q.1 == i) && !(q.1 + 1 == i && q.2.category == 2)) = lv.filter (fun q => !(q.1 == i)) := by
  refine List.filter_congr fun q hq => ?_
  have h1 := h q hq
  have h2 : (q.2.category == 2) = false := by rw [h1]; rfl
  rw [h2]
  simp
theorem lh_st {ls ls' : Array Slot} {nL i : Nat} {v : Value} {lv lv' : List (Nat × Value)} (h : lh_ ls nL lv) (hv : v.category = 1) (h' : lv_has ls' nL ((i, v) :: lv.filter (fun q => !(q.1 == i) && !(q.1 + 1 == i && q.2.category == 2)))) (hl : (i, v) :: lv.filter (fun q => !(q.1 == i)) = lv') : lh_ ls' nL lv' := by
  rw [lh_fil h.2] at h'
  subst hl
  refine ⟨h', fun q hq => ?_⟩
  rcases List.mem_cons.mp hq with rfl | hq
  · exact hv
  · exact h.2 q (List.mem_filter.mp hq).1
/-- fewer listed values, in any order: by their places -/
theorem lh_pk {ls : Array Slot} {nL : Nat} {lv lv' : List (Nat × Value)} (h : lh_ ls nL lv) (ks : List Nat) (hl : lv_pick lv ks = lv') : lh_ ls nL lv' := by
  refine ⟨lv_sub h.1 ks hl, fun q hq => ?_⟩
  rw [← hl] at hq
  obtain ⟨k, -, hk⟩ := List.mem_filterMap.mp hq
  exact h.2 q (List.mem_of_getElem? hk)
section RRB
variable {p : Program} {l : Launch} {e : Env} {R : Room} {s : State} {m : MethodId} {args : Array Value} {below : List Frame} {meth : Method} {c : Code} {H : Heap} {locs : List Loc} {cells slots : Nat} {Q : State → Prop}
variable {cc : ByteArray} {pc nL : Nat} {ls : Array Slot} {rest : List Value} {D : va_G} {cl : List vw_C} {ac : Nat → ClassId} {tys : List (ClassId × FieldType)} {a0 : Nat} {H0 : Heap} {st st' : st_S} {own : String} {tb : List Cond}
theorem rr_aldn {k : Fin 4} {i : Nat} {r : Option Nat} (X : cx_ p s m args c cc nL own tb D cl tys) (hdg : decode cc pc = .ok (.aload_n k, 1)) (hi : (k : Nat) = i) (hl : ls[i]? = some (.val (va_rf r)))
    (kk : W p l e R s m args below meth c H locs cells slots Q (F0 m (pc + 1) ls (va_rf r :: rest))) : W p l e R s m args below meth c H locs cells slots Q (F0 m pc ls rest) := by
  cases r with
  | none => exact lv_aload_nN X.1 X.2.1 hdg hi hl kk
  | some a => exact lv_aload_n X.1 X.2.1 hdg hi hl kk
theorem rr_ald {i : Nat} {r : Option Nat} (X : cx_ p s m args c cc nL own tb D cl tys) (hdg : decode cc pc = .ok (.aload i, 2)) (hl : ls[i]? = some (.val (va_rf r)))
    (kk : W p l e R s m args below meth c H locs cells slots Q (F0 m (pc + 2) ls (va_rf r :: rest))) : W p l e R s m args below meth c H locs cells slots Q (F0 m pc ls rest) := by
  cases r with
  | none => exact lv_aloadN X.1 X.2.1 hdg hl kk
  | some a => exact lv_aload X.1 X.2.1 hdg hl kk
theorem rr_astn {k : Fin 4} {i nL' : Nat} {r : Option Nat} {lv lv' : List (Nat × Value)} (X : cx_ p s m args c cc nL own tb D cl tys) (hdg : decode cc pc = .ok (.astore_n k, 1)) (hi : (k : Nat) = i) (h : lh_ ls nL' lv) (hn : i < nL') (hl : (i, va_rf r) :: lv.filter (fun q => !(q.1 == i)) = lv')
    (kk : ∀ ls' : Array Slot, lh_ ls' nL' lv' → W p l e R s m args below meth c H locs cells slots Q (F0 m (pc + 1) ls' rest)) : W p l e R s m args below meth c H locs cells slots Q (F0 m pc ls (va_rf r :: rest)) := by
  cases r with
  | none => exact lv_astore_nN X.1 X.2.1 hdg hi h.1 hn rfl (fun ls' h' => kk ls' (lh_st h rfl h' hl))
  | some a => exact lv_astore_n X.1 X.2.1 hdg hi h.1 hn rfl (fun ls' h' => kk ls' (lh_st h rfl h' hl))
theorem rr_ast {i nL' : Nat} {r : Option Nat} {lv lv' : List (Nat × Value)} (X : cx_ p s m args c cc nL own tb D cl tys) (hdg : decode cc pc = .ok (.astore i, 2)) (h : lh_ ls nL' lv) (hn : i < nL') (hl : (i, va_rf r) :: lv.filter (fun q => !(q.1 == i)) = lv')
    (kk : ∀ ls' : Array Slot, lh_ ls' nL' lv' → W p l e R s m args below meth c H locs cells slots Q (F0 m (pc + 2) ls' rest)) : W p l e R s m args below meth c H locs cells slots Q (F0 m pc ls (va_rf r :: rest)) := by
  cases r with
  | none => exact lv_astoreN X.1 X.2.1 hdg h.1 hn rfl (fun ls' h' => kk ls' (lh_st h rfl h' hl))
  | some a => exact lv_astore X.1 X.2.1 hdg h.1 hn rfl (fun ls' h' => kk ls' (lh_st h rfl h' hl))
theorem rr_istn {k : Fin 4} {i nL' : Nat} {x : Int32} {lv lv' : List (Nat × Value)} (X : cx_ p s m args c cc nL own tb D cl tys) (hdg : decode cc pc = .ok (.istore_n k, 1)) (hi : (k : Nat) = i) (h : lh_ ls nL' lv) (hn : i < nL') (hl : (i, Value.int x) :: lv.filter (fun q => !(q.1 == i)) = lv')
    (kk : ∀ ls' : Array Slot, lh_ ls' nL' lv' → W p l e R s m args below meth c H locs cells slots Q (F0 m (pc + 1) ls' rest)) : W p l e R s m args below meth c H locs cells slots Q (F0 m pc ls (.int x :: rest)) :=
  lv_istore_n X.1 X.2.1 hdg hi h.1 hn rfl (fun ls' h' => kk ls' (lh_st h rfl h' hl))
theorem rr_ist {i nL' : Nat} {x : Int32} {lv lv' : List (Nat × Value)} (X : cx_ p s m args c cc nL own tb D cl tys) (hdg : decode cc pc = .ok (.istore i, 2)) (h : lh_ ls nL' lv) (hn : i < nL') (hl : (i, Value.int x) :: lv.filter (fun q => !(q.1 == i)) = lv')
    (kk : ∀ ls' : Array Slot, lh_ ls' nL' lv' → W p l e R s m args below meth c H locs cells slots Q (F0 m (pc + 2) ls' rest)) : W p l e R s m args below meth c H locs cells slots Q (F0 m pc ls (.int x :: rest)) :=
  lv_istore X.1 X.2.1 hdg h.1 hn rfl (fun ls' h' => kk ls' (lh_st h rfl h' hl))
theorem rr_iinc {i nL' k : Nat} {n : Int} {x v : Int32} {lv lv' : List (Nat × Value)} (X : cx_ p s m args c cc nL own tb D cl tys) (hdg : decode cc pc = .ok (.iinc i n, 3)) (h : lh_ ls nL' lv) (hk : lv[k]? = some (i, .int x)) (hv : x + Int32.ofInt n = v) (hn : i < nL') (hl : (i, Value.int v) :: lv.filter (fun q => !(q.1 == i)) = lv')
    (kk : ∀ ls' : Array Slot, lh_ ls' nL' lv' → W p l e R s m args below meth c H locs cells slots Q (F0 m (pc + 3) ls' rest)) : W p l e R s m args below meth c H locs cells slots Q (F0 m pc ls rest) :=
  lv_iinc X.1 X.2.1 hdg h.1 hk hv hn rfl (fun ls' h' => kk ls' (lh_st h rfl h' hl))
theorem rr_ifnull {r : Option Nat} {off : Int} {tgt : Nat} (X : cx_ p s m args c cc nL own tb D cl tys) (hdg : decode cc pc = .ok (.ifnull off, 3)) (ht : (pc : Int) + off = (tgt : Int))
    (kt : r = none → W p l e R s m args below meth c H locs cells slots Q (F0 m tgt ls rest)) (kf : ¬ r = none → W p l e R s m args below meth c H locs cells slots Q (F0 m (pc + 3) ls rest)) : W p l e R s m args below meth c H locs cells slots Q (F0 m pc ls (va_rf r :: rest)) := by
  cases r with
  | none => exact lv_ifnullN X.1 X.2.1 hdg ht (kt rfl)
  | some a => exact lv_ifnull X.1 X.2.1 hdg (kf (by simp))
theorem rr_ifnonnull {r : Option Nat} {off : Int} {tgt : Nat} (X : cx_ p s m args c cc nL own tb D cl tys) (hdg : decode cc pc = .ok (.ifnonnull off, 3)) (ht : (pc : Int) + off = (tgt : Int))
    (kt : ¬ r = none → W p l e R s m args below meth c H locs cells slots Q (F0 m tgt ls rest)) (kf : r = none → W p l e R s m args below meth c H locs cells slots Q (F0 m (pc + 3) ls rest)) : W p l e R s m args below meth c H locs cells slots Q (F0 m pc ls (va_rf r :: rest)) := by
  cases r with
  | none => exact lv_ifnonnullN X.1 X.2.1 hdg (kf rfl)
  | some a => exact lv_ifnonnull X.1 X.2.1 hdg ht (kt (by simp))
end RRB
/-! contracts -/
def ct_P (D : va_G) (cl : List vw_C) (ac : Nat → ClassId) (a0 : Nat) (K : State → Prop) (av : List Value) (st : st_S) : Array Value → State → Prop := va_Pc av (fun U => wd_ D cl ac a0 st U.heap ∧ K U)
def ct_Q (D : va_G) (cl : List vw_C) (ac : Nat → ClassId) (a0 : Nat) (rv : Option Value) (st' : st_S) : Array Value → State → Outcome → State → Prop := fun _ S oc t => oc = .returned rv ∧ wd_ D cl ac a0 st' t.heap ∧ va_F (fun q => a0 ≤ q) S t
/-- method y, called with av at the store st, answers rv, and the store is st'; i cells with j slots are made -/
def ct_ (l : Launch) (y : MethodName) (ws : List Cond) (fr lo : Nat) (D : va_G) (cl : List vw_C) (ac : Nat → ClassId) (a0 : Nat) (K : State → Prop) (av : List Value) (st : st_S) (rv : Option Value) (st' : st_S) (i j : Nat) : Prop :=
  Met l y ws ({ frames := fr, cells := i, slots := j, locals := lo }) (ct_P D cl ac a0 K av st) (ct_Q D cl ac a0 rv st') i j (fun q => a0 ≤ q)
/-- what a contract's K must bear: it stays over calls and over what is written at a0 and above -/
def kk_ (D : va_G) (cl : List vw_C) (tys : List (ClassId × FieldType)) (a0 : Nat) (K : State → Prop) : Prop :=
  (∀ U : State, K U → va_K D cl tys U) ∧ (∀ (a : Array Value) (U : State) (g : JFrame) (mk : MethodId), K U → K (U.calling g mk a)) ∧
  ∀ (s U : State) (H : Heap) (locs : List Loc), K s → va_S (fun q => a0 ≤ q) s.heap H locs → U.heap = H → s.WarmedH U.vm → K U
theorem ct_of {l : Launch} {y : MethodName} {cc : ByteArray} {maxL : Nat} {ret : Option FieldType} {tb : List Cond} {fr lo : Nat} {D : va_G} {cl : List vw_C} {ac : Nat → ClassId} {tys : List (ClassId × FieldType)} {a0 : Nat} {K : State → Prop} {av : List Value} {st : st_S} {rv : Option Value} {st' : st_S} {i j : Nat}
    (hK : kk_ D cl tys a0 K) (hy : plainFor y = true) (hcat : ∀ v ∈ av, v.category = 1) (hlen : av.length ≤ maxL)
    (body : ∀ (p : Program) (e : Env) (s : State) (m : MethodId) (args : Array Value) (below : List Frame) (meth : Method) (c : Code) (ls : Array Slot), cx_ p s m args c cc maxL y.cls tb D cl tys → ww_ D cl ac a0 st s.heap s.heap [] → K s → meth.locks = false → meth.sig.returnType = ret → meth.name = y.name → lh_ ls maxL (la_ 0 av) →
      W p l e ({ frames := fr, cells := i, slots := j, locals := lo }) s m args below meth c s.heap [] 0 0 (MQ below (ct_Q D cl ac a0 rv st') args s i j (fun q => a0 ≤ q)) (F0 m 0 ls [])) :
    ct_ l y (Cond.code y cc maxL ret :: tb) fr lo D cl ac a0 K av st rv st' i j := by
  refine va_MetF (cc := cc) (maxL := maxL) (ret := ret) hy rfl ?_
  intro p e s m args below meth c s₁ B hml hv
  obtain ⟨rfl, hw, hKs⟩ := hv
  have hts := atoms_spec (ws := Cond.code y cc maxL ret :: tb) B.pre
  have hl := lv_entry av (n := maxL) (by rw [la_len av hcat]; exact hlen)
  rw [lg_entry_eq]
  rw [la_eq av 0 hcat] at hl
  exact body p e s m _ below meth c _ ⟨B.exec, B.bytes, hml, findClass_of_methodNamed B.named, fun w h => hts w (List.mem_cons_of_mem _ h), hK.1 s hKs⟩ ⟨hw, va_S.rf, by rw [hw.1]; exact hw.2.1⟩ hKs B.notSynchronized B.returns (name_of_methodNamed B.named B.method).1 ⟨hl, la_cat av 0 hcat⟩
section RRC
variable {p : Program} {l : Launch} {e : Env} {R : Room} {s : State} {m : MethodId} {args : Array Value} {below : List Frame} {meth : Method} {c : Code} {H : Heap} {locs : List Loc} {cells slots : Nat} {Q : State → Prop}
variable {cc : ByteArray} {pc nL : Nat} {ls : Array Slot} {rest st0 : List Value} {D : va_G} {cl : List vw_C} {ac : Nat → ClassId} {tys : List (ClassId × FieldType)} {a0 : Nat} {H0 : Heap} {st st' : st_S} {own : String} {tb : List Cond} {K : State → Prop}
variable {index n maxL fr lo i j : Nat} {y : MethodName} {bytes : ByteArray} {ret : Option FieldType} {As : List Value} {rv : Option Value}
theorem ct_go {a : Array Value} (hr : va_Run p l e R s m args below meth c H locs cells slots i j (F0 m pc ls st0) rest (ct_Q D cl ac a0 rv st' a) (fun q => a0 ≤ q)) (hw : ww_ D cl ac a0 st H0 H locs)
    (kk : ∀ (H1 : Heap) (locs1 : List Loc), ww_ D cl ac a0 st' H0 H1 locs1 → W p l e R s m args below meth c H1 locs1 (cells + i) (slots + j) Q (F0 m (pc + 3) ls (rv.toList ++ rest))) : W p l e R s m args below meth c H locs cells slots Q (F0 m pc ls st0) := by
  intro T hT X
  obtain ⟨v, st₀, t, T', L, h0, X', hL, e1, e2, ⟨hv, hw1, hz, hk⟩, stp⟩ := hr T hT X
  cases hv
  obtain ⟨hwd, hS, ha0⟩ := hw
  rw [h0] at hz hk
  obtain ⟨t2, a1, b1⟩ := kk T'.heap (locs ++ L) ⟨by rw [e1]; exact hw1, ⟨Nat.le_trans hS.1 (by rw [e1]; exact hz), fun q h1 h2 => by
      rw [e1, hk q (Nat.lt_of_lt_of_le h1 hS.1) h2]
      exact hS.2.1 q h1 h2, fun q hq => by
      rcases List.mem_append.mp hq with h | h
      · exact hS.2.2 q h
      · exact hL q h⟩, ha0⟩ T' rfl X'
  exact ⟨t2, stp t2 a1, b1⟩
theorem gi_c {y : MethodName} {bytes : ByteArray} {maxL : Nat} {ret : Option FieldType} (hG : GoodIn tb tb) (hc : Cond.code y bytes maxL ret ∈ tb) : GoodIn tb (Cond.code y bytes maxL ret :: tb) := by
  intro w hw
  rcases List.mem_cons.mp hw with rfl | hw
  · exact hG _ hc
  · exact hG w hw
theorem ct_pre (hK : kk_ D cl tys a0 K) (hKs : K s) (hw : ww_ D cl ac a0 st s.heap H locs) (av : List Value) : FrameBlind (ct_P D cl ac a0 K av st) ∧ ∀ U : State, U.heap = H → s.WarmedH U.vm → ct_P D cl ac a0 K av st av.toArray U :=
  ⟨fun a U g mk q => ⟨q.1, q.2.1, hK.2.1 a U g mk q.2.2⟩, fun U hU hW => ⟨rfl, by rw [hU]; exact hw.1, hK.2.2 s U H locs hKs hw.2.1 hU hW⟩⟩
theorem rr_callS (X : cx_ p s m args c cc nL own tb D cl tys) (hw : ww_ D cl ac a0 st s.heap H locs) (hK : kk_ D cl tys a0 K) (hKs : K s) (hM : ct_ l y (Cond.code y bytes maxL ret :: tb) fr lo D cl ac a0 K As st rv st' i j)
    (hG : GoodIn tb tb) (hcode : Cond.code y bytes maxL ret ∈ tb) (hini : Cond.initialized y.cls ∈ tb) (hlink : Cond.methodLink own index y ∈ tb) (hstat : Cond.static y ∈ tb)
    (hd : y.cls ≠ "java/lang/invoke/MethodHandle" ∧ y.cls ≠ "java/lang/invoke/VarHandle" ∧ (parseMethodDescriptor y.desc).map (fun d => d.parameters.length) = some n) (hn : As.length = n)
    (hR : fr + 1 ≤ R.frames ∧ 8 + (maxL + 11) + lo ≤ R.locals) (hT : cells + i ≤ R.cells ∧ slots + j ≤ R.slots) (hls : ls.size = nL) (hrm : (rest.map fun v => v.category).sum ≤ 8) (hst : st0 = As.reverse ++ rest) (hdg : decode cc pc = .ok (.invokestatic index, 3))
    {sk : List Value} (hsk : rv.toList ++ rest = sk) (kk : ∀ (H1 : Heap) (locs1 : List Loc), ww_ D cl ac a0 st' s.heap H1 locs1 → W p l e R s m args below meth c H1 locs1 (cells + i) (slots + j) Q (F0 m (pc + 3) ls sk)) : W p l e R s m args below meth c H locs cells slots Q (F0 m pc ls st0) := by
  obtain ⟨x1, x2, x3, x4, x5, x6⟩ := X
  subst hst hsk
  refine ct_go (va_runS (As := As) (rest := rest) ⟨x1, x2, x3, x4, x5⟩ hM ⟨callB_of n x5 (gi_c hG hcode) rfl rfl rfl (x5 _ hini) (x5 _ hlink) hd hR, x5 _ hstat⟩ (ct_pre hK hKs hw As) rfl hn hls rfl (lv_room hrm) hdg hT) hw kk
theorem rr_callI {b : Nat} (X : cx_ p s m args c cc nL own tb D cl tys) (hw : ww_ D cl ac a0 st s.heap H locs) (hK : kk_ D cl tys a0 K) (hKs : K s) (hM : ct_ l y (Cond.code y bytes maxL none :: tb) fr lo D cl ac a0 K (va_rf (some b) :: As) st rv st' i j)
    (hG : GoodIn tb tb) (hcode : Cond.code y bytes maxL none ∈ tb) (hini : Cond.initialized y.cls ∈ tb) (hlink : Cond.methodLink own index y ∈ tb) (hinst : Cond.instanceMethod y ∈ tb) (hy1 : y.name = "<init>")
    (hd : y.cls ≠ "java/lang/invoke/MethodHandle" ∧ y.cls ≠ "java/lang/invoke/VarHandle" ∧ (parseMethodDescriptor y.desc).map (fun d => d.parameters.length) = some n) (hn : As.length = n)
    (hR : fr + 1 ≤ R.frames ∧ 8 + (maxL + 11) + lo ≤ R.locals) (hT : cells + i ≤ R.cells ∧ slots + j ≤ R.slots) (hls : ls.size = nL) (hrm : (rest.map fun v => v.category).sum ≤ 8) (hst : st0 = As.reverse ++ va_rf (some b) :: rest) (hdg : decode cc pc = .ok (.invokespecial index, 3))
    {sk : List Value} (hsk : rv.toList ++ rest = sk) (kk : ∀ (H1 : Heap) (locs1 : List Loc), ww_ D cl ac a0 st' s.heap H1 locs1 → W p l e R s m args below meth c H1 locs1 (cells + i) (slots + j) Q (F0 m (pc + 3) ls sk)) : W p l e R s m args below meth c H locs cells slots Q (F0 m pc ls st0) := by
  obtain ⟨x1, x2, x3, x4, x5, x6⟩ := X
  subst hst hsk
  refine ct_go (va_runI (b := b) (As := As) (rest := rest) ⟨x1, x2, x3, x4, x5⟩ hM ⟨callB_of n x5 (gi_c hG hcode) rfl rfl rfl (x5 _ hini) (x5 _ hlink) hd hR, hy1, x5 _ hinst⟩ (ct_pre hK hKs hw (va_rf (some b) :: As)) rfl hn hls rfl (lv_room hrm) hdg hT) hw kk
/-- the receiver: an object of class ci -/
theorem rr_recv {b ci : Nat} {q : vw_C} {fs : List Value} (X : cx_ p s m args c cc nL own tb D cl tys) (hw : ww_ D cl ac a0 st H0 H locs) (hc : cl[ci]? = some q) (hb : st.1 b = some (.inr (.inr (ci, fs)))) : ∃ cell : Cell, H[b]? = some cell ∧ cell.vm.isStatics = false ∧ s.vm.findClass q.1 = some cell.cls := by
  have hP : va_P D cl [(b, .inr (ci, fs))] H := va_P1 (hw.1.2.2 b _ hb).2
  exact va_recv (q0 := 0) (fs := fs) X.2.2.2.2.2 hP hc rfl
/-- the receiver's class, if it is one of cis -/
def so_cm (r : Option Nat) (cis : List Nat) (st : st_S) : Option Nat := match r with
  | none => none
  | some a => match st.1 a with
    | some (.inr (.inr o)) => if o.1 ∈ cis then some o.1 else none
    | _ => none
theorem so_cm_some {st : st_S} {r : Option Nat} {cis : List Nat} {ci : Nat} (h : so_cm r cis st = some ci) : ∃ (a : Nat) (fs : List Value), r = some a ∧ st.1 a = some (.inr (.inr (ci, fs))) ∧ ci ∈ cis := by
  unfold so_cm at h
  split at h
  · cases h
  · rename_i a
    split at h
    · rename_i o ho
      obtain ⟨cj, fs⟩ := o
      split at h
      · rename_i hc
        cases h
        exact ⟨a, fs, rfl, ho, hc⟩
      · cases h
    · cases h
theorem rr_callV {r : Option Nat} {ci : Nat} {cis : List Nat} (X : cx_ p s m args c cc nL own tb D cl tys) (hw : ww_ D cl ac a0 st s.heap H locs) (hK : kk_ D cl tys a0 K) (hKs : K s) (hM : ct_ l y (Cond.code y bytes maxL ret :: tb) fr lo D cl ac a0 K (va_rf r :: As) st rv st' i j)
    (hG : GoodIn tb tb) (hcode : Cond.code y bytes maxL ret ∈ tb) (hini : Cond.initialized y.cls ∈ tb) (hlink : Cond.methodLink own index y ∈ tb) (hinst : Cond.instanceMethod y ∈ tb) (hcs : ∀ ci ∈ cis, ∃ q : vw_C, cl[ci]? = some q ∧ Cond.selects q.1 y y ∈ tb) (hrc : so_cm r cis st = some ci)
    (hd : y.cls ≠ "java/lang/invoke/MethodHandle" ∧ y.cls ≠ "java/lang/invoke/VarHandle" ∧ (parseMethodDescriptor y.desc).map (fun d => d.parameters.length) = some n) (hn : As.length = n)
    (hR : fr + 1 ≤ R.frames ∧ 8 + (maxL + 11) + lo ≤ R.locals) (hT : cells + i ≤ R.cells ∧ slots + j ≤ R.slots) (hls : ls.size = nL) (hrm : (rest.map fun v => v.category).sum ≤ 8) (hst : st0 = As.reverse ++ va_rf r :: rest) (hdg : decode cc pc = .ok (.invokevirtual index, 3))
    {sk : List Value} (hsk : rv.toList ++ rest = sk) (kk : ∀ (H1 : Heap) (locs1 : List Loc), ww_ D cl ac a0 st' s.heap H1 locs1 → W p l e R s m args below meth c H1 locs1 (cells + i) (slots + j) Q (F0 m (pc + 3) ls sk)) : W p l e R s m args below meth c H locs cells slots Q (F0 m pc ls st0) := by
  obtain ⟨b, fs, rfl, hb, hci⟩ := so_cm_some hrc
  obtain ⟨q, hc, hsel⟩ := hcs ci hci
  have hrv := rr_recv X hw hc hb
  obtain ⟨x1, x2, x3, x4, x5, x6⟩ := X
  subst hst hsk
  have hp := ct_pre hK hKs hw (va_rf (some b) :: As)
  exact ct_go (va_runV (C := q.1) (b := b) (As := As) (rest := rest) ⟨x1, x2, x3, x4, x5⟩ hM ⟨callB_of n x5 (gi_c hG hcode) rfl rfl rfl (x5 _ hini) (x5 _ hlink) hd hR, x5 _ hinst, x5 _ hsel⟩ ⟨hp.1, hrv, hp.2⟩ rfl hn hls rfl (lv_room hrm) hdg hT) hw kk
theorem rr_vret (X : cx_ p s m args c cc nL own tb D cl tys) (hw : ww_ D cl ac a0 st s.heap H locs) (hlocks : meth.locks = false) (hr : meth.sig.returnType = none) (hi : cells = i) (hj : slots = j) (hdg : decode cc pc = .ok (.return_, 1)) :
    W p l e R s m args below meth c H locs cells slots (MQ below (ct_Q D cl ac a0 none st) args s i j (fun q => a0 ≤ q)) (F0 m pc ls []) := by
  subst hi hj
  exact W.vret X.1 X.2.1 hr (fun t ht hW => ⟨rfl, by rw [ht]; exact hw.1, hw.2.1.F ht⟩) hw.2.1.2.2 hdg hlocks
theorem rr_iret {x : Int32} {ty : FieldType} (X : cx_ p s m args c cc nL own tb D cl tys) (hw : ww_ D cl ac a0 st s.heap H locs) (hlocks : meth.locks = false) (hr : meth.sig.returnType = some ty) (hty : narrow ty (.int x) = .int x) (hi : cells = i) (hj : slots = j) (hdg : decode cc pc = .ok (.ireturn, 1)) :
    W p l e R s m args below meth c H locs cells slots (MQ below (ct_Q D cl ac a0 (some (.int x)) st) args s i j (fun q => a0 ≤ q)) (F0 m pc ls [.int x]) := by
  subst hi hj
  exact W.zret X.1 X.2.1 hr hty (fun t ht hW => ⟨rfl, by rw [ht]; exact hw.1, hw.2.1.F ht⟩) hw.2.1.2.2 hdg hlocks
theorem rr_aret {r : Option Nat} {ty : FieldType} (X : cx_ p s m args c cc nL own tb D cl tys) (hw : ww_ D cl ac a0 st s.heap H locs) (hlocks : meth.locks = false) (hr : meth.sig.returnType = some ty) (hty : (∃ n, ty = .object n) ∨ ∃ t, ty = .array t) (hi : cells = i) (hj : slots = j) (hdg : decode cc pc = .ok (.areturn, 1)) :
    W p l e R s m args below meth c H locs cells slots (MQ below (ct_Q D cl ac a0 (some (va_rf r)) st) args s i j (fun q => a0 ≤ q)) (F0 m pc ls [va_rf r]) := by
  subst hi hj
  exact W.aret X.1 X.2.1 hr hty (by cases r with | none => exact Or.inl rfl | some a => exact Or.inr ⟨a, rfl⟩) (fun t ht hW => ⟨rfl, by rw [ht]; exact hw.1, hw.2.1.F ht⟩) hw.2.1.2.2 hdg hlocks
end RRC
/-! blocks: a place of a method, its locals and stack out of a tuple, and the program from there to the method's end -/
def wk_ {α β : Type} (p : Program) (l : Launch) (e : Env) (fr lo : Nat) (s : State) (m : MethodId) (args : Array Value) (below : List Frame) (meth : Method) (c : Code) (D : va_G) (cl : List vw_C) (ac : Nat → ClassId) (a0 nL : Nat) (vb : β → Option Value) (rF : β) (stF : st_S) (iT jT pc : Nat) (lv : α → List (Nat × Value)) (sk : α → List Value) (f : α → st_M β) : Prop :=
  ∀ (x : α) (st : st_S) (H : Heap) (locs : List Loc) (cells slots i j : Nat) (ls : Array Slot), ww_ D cl ac a0 st s.heap H locs → lh_ ls nL (lv x) → f x st = some (rF, stF, i, j) → cells + i = iT → slots + j = jT →
    W p l e ({ frames := fr, cells := iT, slots := jT, locals := lo }) s m args below meth c H locs cells slots (MQ below (ct_Q D cl ac a0 (vb rF) stF) args s iT jT (fun q => a0 ≤ q)) (F0 m pc ls (sk x))
/-- a loop: n rounds at most -/
def st_it {α β : Type} (F : (α → st_M β) → α → st_M β) : Nat → α → st_M β
  | 0 => fun _ _ => none
  | n + 1 => F (st_it F n)
theorem wk_it {α β : Type} {p : Program} {l : Launch} {e : Env} {fr lo : Nat} {s : State} {m : MethodId} {args : Array Value} {below : List Frame} {meth : Method} {c : Code} {D : va_G} {cl : List vw_C} {ac : Nat → ClassId} {a0 nL : Nat} {vb : β → Option Value} {rF : β} {stF : st_S} {iT jT pc : Nat} {lv : α → List (Nat × Value)} {sk : α → List Value} {F : (α → st_M β) → α → st_M β}
    (h : ∀ f : α → st_M β, wk_ p l e fr lo s m args below meth c D cl ac a0 nL vb rF stF iT jT pc lv sk f → wk_ p l e fr lo s m args below meth c D cl ac a0 nL vb rF stF iT jT pc lv sk (F f)) :
    ∀ n : Nat, wk_ p l e fr lo s m args below meth c D cl ac a0 nL vb rF stF iT jT pc lv sk (st_it F n)
  | 0 => fun _ _ _ _ _ _ _ _ _ _ _ h1 _ _ => by cases h1
  | n + 1 => h _ (wk_it h n)
def vb_u (_ : Unit) : Option Value := none
def vb_i (x : Int32) : Option Value := some (.int x)
def vb_q (x : Option Nat) : Option Value := some (va_rf x)
