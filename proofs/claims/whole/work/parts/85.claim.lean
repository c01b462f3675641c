/-! THE CLAIM OUT OF THE PURE STATEMENT: what is left open is pu_main, on the law's program over stores. -/
/-- the pure statement: on every script of at most 2049 ints the law's program, from the empty store, answers 1, within the claim's room -/
def pu_main : Prop := ∀ (gl : gl_T) (n : Nat), gl.2.2.2.1 ≤ 2049 → gl.1 < n → gl.2.2.1 < n → ∃ (stF : st_S) (i j : Nat), lx_law gl (some gl.2.2.1) ((fun _ => none), n) = some (1, stF, i, j) ∧ i ≤ 600000 ∧ j ≤ 7302250
theorem le_pr {s : State} {A : Array Value} {ty : FieldType} (h : (Cond.arrayClass ty).before A s = true) (hp : ∀ cA : ClassId, s.vm.findClass ("[" ++ ty.toString) = some cA → va_RA s cA ty) : ∃ cA : ClassId, ArrOfT s cA ty ∧ va_RA s cA ty := by
  obtain ⟨c, k, comp, h1, h2, h3⟩ := Cond.arrayClass_spec h
  exact ⟨c, fun n z => ⟨(fun q h => by cases h), k, h2, comp, h3⟩, hp c h1⟩
theorem le_ob {s : State} {A : Array Value} {E : String} (h : (Cond.arrayOver (.object E)).before A s = true) : ∃ cA : ClassId, ArrOfT s cA (.object E) ∧ va_RA s cA (.object E) := by
  obtain ⟨comp, c, k, h1, h2, h3, h4, h5⟩ := Cond.arrayOver_spec h
  exact ⟨c, fun n z => ⟨(fun q h => by cases h), k, h3, comp, h4⟩, k, comp, h3, h4, h1, h5⟩
theorem le_l0 {args : Array Value} {s : State} {tm : Term} {z : Int32} (h : (Cond.eq (.length tm) (.int z)).before args s = true) : (Term.length tm).eval args s none [] s = some (.int z) := by
  cases hv : (Term.length tm).eval args s none [] s with
  | none => simp [Cond.before, Cond.holds, Cond.value, hv] at h
  | some w =>
    have hz : (Term.int z).eval args s none [] s = some (.int z) := rfl
    simp only [Cond.before, Cond.holds, Cond.value, hv, hz] at h
    cases w <;> simp_all
theorem le_ca : ∀ q ∈ ca_, Cond.castable q.1 q.2 ∈ tables_1 := by decide +kernel
theorem le_nl : ∀ q ∈ nl_, Cond.methodLinkNest q.1 q.2.1 q.2.2.1 q.2.2.2 ∈ tables_1 := by decide +kernel
theorem le_ao : ∀ C ∈ ao_, Cond.arrayOver (.object C) ∈ tables_1 := by decide +kernel
theorem le_nc : ∀ q ∈ nc_, Cond.not (Cond.castable q.1 q.2) ∈ flatC (Jvm.Cond.and given_1 narrow_1) := by decide +kernel
/-- the classes and rows of the start -/
theorem le_K {s : State} {A : Array Value} (hts : ∀ w ∈ lw_tbl, w.before A s = true) : ∃ (D : va_G) (ac : Nat → ClassId), va_K D cl_ (ty_ ac) s := by
  have hT : ∀ w ∈ tables_1, w.before A s = true := fun w h => hts w (List.mem_append_right _ h)
  have hB : ∀ w ∈ tb_, w.before A s = true := fun w h => hts w (List.mem_filter.mp h).1
  obtain ⟨c0, i0, h0⟩ := u_known (n := 10) hB cf_0.2.1 (hT _ (List.mem_of_getElem? (i := 22) (by decide +kernel)))
  obtain ⟨c1, i1, h1⟩ := u_known (n := 4) hB cf_1.2.1 (hT _ (List.mem_of_getElem? (i := 42) (by decide +kernel)))
  obtain ⟨c2, i2, h2⟩ := u_known (n := 3) hB cf_2.2.1 (hT _ (List.mem_of_getElem? (i := 66) (by decide +kernel)))
  obtain ⟨c3, i3, h3⟩ := u_known (n := 10) hB cf_3.2.1 (hT _ (List.mem_of_getElem? (i := 85) (by decide +kernel)))
  obtain ⟨c4, i4, h4⟩ := u_known (n := 10) hB cf_4.2.1 (hT _ (List.mem_of_getElem? (i := 447) (by decide +kernel)))
  obtain ⟨c5, i5, h5⟩ := u_known (n := 5) hB cf_5.2.1 (hT _ (List.mem_of_getElem? (i := 150) (by decide +kernel)))
  obtain ⟨c6, i6, h6⟩ := u_known (n := 3) hB cf_6.2.1 (hT _ (List.mem_of_getElem? (i := 156) (by decide +kernel)))
  obtain ⟨c7, i7, h7⟩ := u_known (n := 1) hB cf_7.2.1 (hT _ (List.mem_of_getElem? (i := 183) (by decide +kernel)))
  obtain ⟨c8, i8, h8⟩ := u_known (n := 4) hB cf_8.2.1 (hT _ (List.mem_of_getElem? (i := 281) (by decide +kernel)))
  obtain ⟨c9, i9, h9⟩ := u_known (n := 5) hB cf_9.2.1 (hT _ (List.mem_of_getElem? (i := 379) (by decide +kernel)))
  obtain ⟨c10, i10, h10⟩ := u_known (n := 36) hB cf_10.2.1 (hT _ (List.mem_of_getElem? (i := 641) (by decide +kernel)))
  obtain ⟨a0, e0, f0⟩ := le_pr (ty := .int) (hT _ (List.mem_of_getElem? (i := 83) (by decide +kernel))) (fun _ h => h)
  obtain ⟨a1, e1, f1⟩ := le_pr (ty := .byte) (hT _ (List.mem_of_getElem? (i := 755) (by decide +kernel))) (fun _ h => h)
  obtain ⟨a2, e2, f2⟩ := le_pr (ty := .boolean) (hT _ (List.mem_of_getElem? (i := 756) (by decide +kernel))) (fun _ h => h)
  obtain ⟨a3, e3, f3⟩ := le_pr (ty := .short) (hT _ (List.mem_of_getElem? (i := 757) (by decide +kernel))) (fun _ h => h)
  obtain ⟨a4, e4, f4⟩ := le_ob (E := "PromiseVats$Vat") (hT _ (List.mem_of_getElem? (i := 36) (by decide +kernel)))
  obtain ⟨a5, e5, f5⟩ := le_ob (E := "PromiseVats$Program") (hT _ (List.mem_of_getElem? (i := 38) (by decide +kernel)))
  obtain ⟨a6, e6, f6⟩ := le_ob (E := "PromiseVats$Entity") (hT _ (List.mem_of_getElem? (i := 40) (by decide +kernel)))
  obtain ⟨a7, e7, f7⟩ := le_ob (E := "PromiseVats$Promise") (hT _ (List.mem_of_getElem? (i := 65) (by decide +kernel)))
  obtain ⟨a8, e8, f8⟩ := le_ob (E := "PromiseVats$Channel") (hT _ (List.mem_of_getElem? (i := 182) (by decide +kernel)))
  obtain ⟨a9, e9, f9⟩ := le_ob (E := "java/lang/Object") (hT _ (List.mem_of_getElem? (i := 362) (by decide +kernel)))
  refine ⟨(fun k => match k with | 0 => c0 | 1 => c1 | 2 => c2 | 3 => c3 | 4 => c4 | 5 => c5 | 6 => c6 | 7 => c7 | 8 => c8 | 9 => c9 | _ => c10, fun k => match k with | 0 => i0 | 1 => i1 | 2 => i2 | 3 => i3 | 4 => i4 | 5 => i5 | 6 => i6 | 7 => i7 | 8 => i8 | 9 => i9 | _ => i10), (fun k => match k with | 0 => a0 | 1 => a1 | 2 => a2 | 3 => a3 | 4 => a4 | 5 => a5 | 6 => a6 | 7 => a7 | 8 => a8 | _ => a9), ⟨fun k q hq => ?_, fun k q hq => ?_⟩⟩
  · match k, hq with
    | 0, hq => cases hq; exact h0
    | 1, hq => cases hq; exact h1
    | 2, hq => cases hq; exact h2
    | 3, hq => cases hq; exact h3
    | 4, hq => cases hq; exact h4
    | 5, hq => cases hq; exact h5
    | 6, hq => cases hq; exact h6
    | 7, hq => cases hq; exact h7
    | 8, hq => cases hq; exact h8
    | 9, hq => cases hq; exact h9
    | 10, hq => cases hq; exact h10
    | k + 11, hq => cases hq
  · match k, hq with
    | 0, hq => cases hq; exact ⟨e0, f0⟩
    | 1, hq => cases hq; exact ⟨e1, f1⟩
    | 2, hq => cases hq; exact ⟨e2, f2⟩
    | 3, hq => cases hq; exact ⟨e3, f3⟩
    | 4, hq => cases hq; exact ⟨e4, f4⟩
    | 5, hq => cases hq; exact ⟨e5, f5⟩
    | 6, hq => cases hq; exact ⟨e6, f6⟩
    | 7, hq => cases hq; exact ⟨e7, f7⟩
    | 8, hq => cases hq; exact ⟨e8, f8⟩
    | 9, hq => cases hq; exact ⟨e9, f9⟩
    | k + 10, hq => cases hq
/-- YOUR PART: from the entry, for every script of at most 2049 ints, the law comes to its end with true; open: pu_main -/
theorem whole_open (hpu : pu_main) {p : Program} {e : Env} {s : State} {m : MethodId} {below : List Frame} {meth : Method} {c : Code} (l : Launch) {b L : Nat} {xs : Nat → Int32} (hL : L ≤ 2049) (C0 : lw_At p s m meth c b L xs) : W p l e room_1 s m #[Value.ref b] below meth c s.heap [] 0 0 (lw_Z below #[Value.ref b] s) (entryFrame m ([Value.ref b] : List Value).toArray 4) := by
  obtain ⟨hx, hb, hr, hml, hown, hts, hX, hbl, hlk, hgv⟩ := C0
  have hT : ∀ w ∈ tables_1, w.before #[Value.ref b] s = true := fun w h => hts w (List.mem_append_right _ h)
  have hB : ∀ w ∈ tb_, w.before #[Value.ref b] s = true := fun w h => hts w (List.mem_filter.mp h).1
  have hfl := flat_of_before _ hgv
  obtain ⟨D, ac, hK⟩ := le_K hts
  have hA : ∀ a : Nat, a < s.heap.size → ¬ s.heap.size ≤ a := fun a h => Nat.not_le.mpr h
  obtain ⟨t, ht, hVT⟩ := va_Tof (A := fun q => s.heap.size ≤ q) (tm := .static "java/util/ArrayList" "DEFAULTCAPACITY_EMPTY_ELEMENTDATA" "[Ljava/lang/Object;") (ty := .object "java/lang/Object") (N := 0) (f := fun _ => .null) (by decide) (hfl _ (by decide +kernel)) (le_l0 (hfl _ (by decide +kernel))) (fun j hj => absurd hj (Nat.not_lt_zero _)) hA
  have hVZ := va_Zof (A := fun q => s.heap.size ≤ q) (hT (.laysStatic "java/util/ArrayList" "DEFAULTCAPACITY_EMPTY_ELEMENTDATA" "[Ljava/lang/Object;") (by decide +kernel)) (hT (.initialized "java/util/ArrayList") (by decide +kernel)) ht hA
  obtain ⟨mi, hmi⟩ := va_Mi.of (hfl (.isRef (.mirror "[Ljava/lang/Object;")) (by decide +kernel))
  have htl : t < s.heap.size := by
    obtain ⟨cell, h1, -⟩ := hVT
    exact (Array.getElem?_eq_some_iff.mp h1).1
  obtain ⟨stF, i, j, h, hi, hj⟩ := hpu (t, mi, b, L, xs) s.heap.size hL htl hbl
  have hkn : kn_ D ac s.heap.size (t, mi, b, L, xs) s := ⟨hK, fun q hq => va_Nw.of rfl (hT _ (le_ca q hq)), fun q hq => va_Nc.of (hfl _ (le_nc q hq)), fun C hC => va_AO.of (hT _ (le_ao C hC)), fun q hq => va_Nw.of rfl (hT _ (le_nl q hq)), hVZ, hVT, hmi, va_Dc.of (hT (.declares ⟨"java/lang/Object", "getClass", "()Ljava/lang/Class;"⟩) (by decide +kernel)), hX, hbl, Nat.le_refl _⟩
  have hl := lv_entry ([.ref b]) (n := 4) (Nat.le_of_ble_eq_true rfl)
  rw [lg_entry_eq]
  exact kl_lx_law (gl := (t, mi, b, L, xs)) (some b) ((fun _ => none), s.heap.size) h ⟨hx, hb, hml, hown, hB, hK⟩ hkn hlk hr rfl hi hj _ ⟨⟨rfl, Nat.le_refl _, fun a e h => by cases h⟩, va_S.rf, Nat.le_refl _⟩ ⟨hl, fun q hq => by
    rw [List.mem_singleton.mp hq]
    rfl⟩
set_option maxHeartbeats 4000000 in
theorem lw_walk (hpu : pu_main) (l : Launch) (b : Addr) (xs : List Int32) : MetFree l x (headSpec (Jvm.Cond.code x code maxLocals ret :: tables_1) room_1) (lw_P b xs) (fun _ _ _ _ _ => True) lw_Q := by
  refine MetFree.of_bodyS (code := code) (maxLocals := maxLocals) (ret := ret) (by decide) ?_ ?_
  · intro args s m h hn
    obtain ⟨meth, c, h1, h2, h3, h4, h5, h6, -, -⟩ := Cond.code_spec hn (atoms_spec (ws := Jvm.Cond.code x code maxLocals ret :: tables_1) h _ List.mem_cons_self)
    exact ⟨meth, c, h1, h2, h3, h4, h5, h6⟩
  · intro p e s m args below meth c s₁ B hml0 hP _
    obtain ⟨rfl, hx, hbd, hgv⟩ := hP
    obtain ⟨scr, harrAt, hlist, hof, hsmall⟩ := hx
    obtain ⟨hcb, hkn, -, -⟩ := State.arrayAt?_spec harrAt
    have hown : s.vm.findClass R_law = some m.cls := findClass_of_methodNamed B.named
    have hts0 : ∀ c ∈ (Jvm.Cond.code x code maxLocals ret :: tables_1), c.before #[Value.ref b] s = true := atoms_spec (ws := Jvm.Cond.code x code maxLocals ret :: tables_1) B.pre
    have hts : ∀ w ∈ lw_tbl, w.before #[Value.ref b] s = true := k2_hts_sels lw_privs (fun w hw => hts0 w (List.mem_cons_of_mem _ hw)) lw_privs_ok
    have hml : c.maxLocals = 4 := B.maxLocals_eq (hts0 _ List.mem_cons_self)
    have X₀ : Stand p l e room_1 s m #[Value.ref b] below meth c s₁ [] 0 0 := Stand.of_body B
    have hh0 : s₁.heap = s.heap := by rw [B.state]; rfl
    have hsz : scr.slots.size = xs.length := by rw [← Array.length_toList, hlist, List.length_map]
    have hval : ∀ j : Nat, j < xs.length → scr.slots[j]? = some (.int (xs.getD j 0)) := fun j hj => by
      rw [← Array.getElem?_toList, hlist]
      simp [hj]
    have hbl : b < s.heap.size := (Array.getElem?_eq_some_iff.mp hcb).1
    have hX : va_X b xs.length (fun j => xs.getD j 0) s s.heap := ⟨scr, hcb, hof, hkn, hsz, hval⟩
    have K : W p l e room_1 s m #[Value.ref b] below meth c s₁.heap [] 0 0 (lw_Z below #[Value.ref b] s) (entryFrame m ([Value.ref b] : List Value).toArray 4) := by
      rw [hh0]
      exact whole_open hpu l hbd ⟨B.exec, B.bytes, B.returns, hml, hown, hts, hX, hbl, B.notSynchronized, hgv⟩
    obtain ⟨t, a1, o, b1, b2, b3⟩ := K s₁ rfl X₀
    exact ⟨t, o, a1, b1, b2, b3⟩
theorem lw_pre_spec {args : Array Value} {s : State} (h : (Jvm.Cond.and given_1 narrow_1).before args s = true) (hr : rest_1_c.before args s = true) : ∃ (b : Addr) (xs : List Int32), lw_P b xs args s := by
  have hs := flat_of_before _ h
  have hq := flat_of_before _ hr
  have hc : (Cond.count 1).before args s = true := hs _ (by decide +kernel)
  have harr : (Cond.arrayOf (.arg 0) .int).before args s = true := hs _ (by decide +kernel)
  have hle : (Cond.le (.length (.arg 0)) (.int 2049)).before args s = true := hs _ (by decide +kernel)
  have hlen : (Cond.isInt (.length (.arg 0))).before args s = true := hq _ (by decide +kernel)
  have hall : (Cond.all (.arg 0) (.isInt (.elem (.arg 0) (.index 0)))).before args s = true := hq _ (by decide +kernel)
  obtain ⟨b, xs, hb, hx⟩ := State.ints_of_pre rfl harr hlen hall
  have hsm : xs.length < 2 ^ 31 := hx.choose_spec.2.2.2
  have hev : (Term.length (.arg 0)).eval args s none [] s = some (.int xs.length.toInt32) := hx.length_eval hb
  have hv := Cond.le_ints hev (show (Term.int 2049).eval args s none [] s = some (.int 2049) from rfl)
  have hd : xs.length.toInt32 ≤ 2049 := by
    simpa [Cond.before, Cond.holds, hv] using hle
  have hN : xs.length ≤ 2049 := (Int32.ofNat_le_ofNat hsm (by decide)).mp (show Int32.ofNat xs.length ≤ Int32.ofNat 2049 from hd)
  exact ⟨b, xs, Cond.one_arg hc (show args[0]? = some (.ref b) from hb), hx, hN, h⟩
theorem lw_comes (hpu : pu_main) (l : Launch) : Comes l x (Jvm.Cond.code x code maxLocals ret :: tables_1) room_1 (fun tb e args s => Calls_1 tb e args s ∧ rest_1 tb e args s ∧ Pre_1 tb e args s)
    (fun _ _ args s o t => lw_Q args s o t) := by
  intro p e ha hc hk s m args below hf hfit hheap happ hpre
  obtain ⟨b, xs, hP⟩ := lw_pre_spec hpre.2.2 hpre.2.1
  obtain ⟨k, o, h1, h2, h3, hQ⟩ := lw_walk hpu l b xs p e ha hc hk s m args below hf ((Spec.applies_iff_loose hf).mp happ).1 hP trivial
  exact ⟨k, o, h1, h2, h3, hQ⟩
theorem lw_frame {s t : State} {o : Outcome} {args : Array Value} (h : Framed s o t [] 600000 7302250) :
    Framed s o t (fieldLocs frame_1_writes args s ++ arrayLocs frame_1_arrays args s ++ staticLocs frame_1_statics s) 600000 7302250 := h
theorem lw_limb (hpu : pu_main) (L : Cond) (hL : ∀ (args : Array Value) (s t : State), L.after args s (.returned (some (.int 1))) t = true) :
    ArmFor flags0 classFile x code maxLocals ret World_1 tables_1 room_1 Calls_1 rest_1 Pre_1
      (fun tb e a s o t => postC L tb e a s o t ∧ Framed s o t (fieldLocs frame_1_writes a s ++ arrayLocs frame_1_arrays a s ++ staticLocs frame_1_statics s) 600000 7302250) := by
  intro l _ _ _ p e ha hc hk s m args below hf hfit hheap happ hpre
  obtain ⟨k, o, h1, h2, h3, rfl, hF⟩ := lw_comes hpu l p e ha hc hk s m args below hf hfit hheap happ hpre
  exact ⟨k, _, h1, h2, h3, hL args s _, lw_frame hF⟩
theorem vc_open (hpu : pu_main) : Claimed_1_1 ∧ Claimed_1_2 := ⟨lw_limb hpu limb_1_1 (fun args s t => by simp [limb_1_1, Cond.after, Cond.holds, Cond.value]), lw_limb hpu limb_1_2 (fun args s t => Cond.after_iff.mpr (by
  first | (rw [show limb_1_2 = Cond.eq .result (.int 1) from rfl, Cond.eq_ints (x := 1) (y := 1) rfl rfl]; simp; done) | (simp [limb_1_2, Cond.value, Term.eval]; done)))⟩

