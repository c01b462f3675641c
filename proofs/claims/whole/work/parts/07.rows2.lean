/-! rows of the claim: rows of bytes, booleans and shorts; a class's own private constructor; lengths of lists' rows; statics; copies; class objects -/
section RRE
variable {p : Program} {l : Launch} {e : Env} {R : Room} {s : State} {m : MethodId} {args : Array Value} {below : List Frame} {meth : Method} {c : Code} {H : Heap} {locs : List Loc} {cells slots : Nat} {Q : State → Prop}
variable {cc : ByteArray} {pc nL : Nat} {ls : Array Slot} {rest st0 : List Value} {D : va_G} {cl : List vw_C} {ac : Nat → ClassId} {tys : List (ClassId × FieldType)} {a0 : Nat} {H0 : Heap} {st st' : st_S} {own : String} {tb : List Cond} {K : State → Prop}
variable {index n maxL fr lo i j : Nat} {y : MethodName} {bytes : ByteArray} {ret : Option FieldType} {As : List Value} {rv : Option Value}
theorem rr_bald {t : Nat} {r : Option Nat} {x y : Int32} (X : cx_ p s m args c cc nL own tb D cl tys) (hw : ww_ D cl ac a0 st H0 H locs) (ht : tys[t]? = some (ac t, .byte)) (hv : so_li r t x st = some y) (hdg : decode cc pc = .ok (.baload, 1))
    (kk : W p l e R s m args below meth c H locs cells slots Q (F0 m (pc + 1) ls (.int y :: rest))) : W p l e R s m args below meth c H locs cells slots Q (F0 m pc ls (.int x :: va_rf r :: rest)) := by
  obtain ⟨a, n, f, rfl, ha, hin, rfl⟩ := so_li_some hv
  have hP : va_P D cl [(a, .inl (ac t, n, .inl f))] H := va_P1 (hw.1.2.2 a _ ha).2
  exact va_bald X.1 X.2.1 X.2.2.2.2.2 hP 0 t rfl ht hin hdg kk
theorem rr_zald {t : Nat} {r : Option Nat} {x y : Int32} (X : cx_ p s m args c cc nL own tb D cl tys) (hw : ww_ D cl ac a0 st H0 H locs) (ht : tys[t]? = some (ac t, .boolean)) (hv : so_li r t x st = some y) (hdg : decode cc pc = .ok (.baload, 1))
    (kk : W p l e R s m args below meth c H locs cells slots Q (F0 m (pc + 1) ls (.int y :: rest))) : W p l e R s m args below meth c H locs cells slots Q (F0 m pc ls (.int x :: va_rf r :: rest)) := by
  obtain ⟨a, n, f, rfl, ha, hin, rfl⟩ := so_li_some hv
  have hP : va_P D cl [(a, .inl (ac t, n, .inl f))] H := va_P1 (hw.1.2.2 a _ ha).2
  exact va_zald X.1 X.2.1 X.2.2.2.2.2 hP 0 t rfl ht hin hdg kk
theorem rr_sald {t : Nat} {r : Option Nat} {x y : Int32} (X : cx_ p s m args c cc nL own tb D cl tys) (hw : ww_ D cl ac a0 st H0 H locs) (ht : tys[t]? = some (ac t, .short)) (hv : so_li r t x st = some y) (hdg : decode cc pc = .ok (.saload, 1))
    (kk : W p l e R s m args below meth c H locs cells slots Q (F0 m (pc + 1) ls (.int y :: rest))) : W p l e R s m args below meth c H locs cells slots Q (F0 m pc ls (.int x :: va_rf r :: rest)) := by
  obtain ⟨a, n, f, rfl, ha, hin, rfl⟩ := so_li_some hv
  have hP : va_P D cl [(a, .inl (ac t, n, .inl f))] H := va_P1 (hw.1.2.2 a _ ha).2
  exact va_sald X.1 X.2.1 X.2.2.2.2.2 hP 0 t rfl ht hin hdg kk
theorem rr_cell {t n : Nat} {f : Nat → Int32} {x z : Int32} {a : Nat} {H1 : Heap} (e1 : H1[a]? = some ((vp_cell (ac t) (n, .inl f)).setSlot x.toNatClampNeg (.int z))) : va_at D cl (a, ce_v ac (.inl (t, n, upd f x.toNatClampNeg z))) H1 := by
  show H1[a]? = some (vp_cell _ _)
  rw [e1, vp_cell_i, vp_cell_i, arrV_store]
  congr 2
  funext q
  by_cases hq : q = x.toNatClampNeg
  · subst hq
    simp [updV, upd]
  · simp [updV, upd, hq]
theorem rr_bast {t : Nat} {r : Option Nat} {x y : Int32} (X : cx_ p s m args c cc nL own tb D cl tys) (hw : ww_ D cl ac a0 st H0 H locs) (ht : tys[t]? = some (ac t, .byte)) (hv : so_si r t x y.toInt8.toInt32 st = some st') (hdg : decode cc pc = .ok (.bastore, 1))
    (kk : ∀ (H1 : Heap) (locs1 : List Loc), ww_ D cl ac a0 st' H0 H1 locs1 → W p l e R s m args below meth c H1 locs1 cells slots Q (F0 m (pc + 1) ls rest)) : W p l e R s m args below meth c H locs cells slots Q (F0 m pc ls (.int y :: .int x :: va_rf r :: rest)) := by
  obtain ⟨a, n, f, rfl, ha, hin, rfl⟩ := so_si_some hv
  have hat := hw.1.2.2 a _ ha
  have ha0 : a0 ≤ a := hat.1.elim id (fun ⟨_, _, z⟩ => by cases z)
  have hc : H[a]? = some (vp_cell (ac t) (n, .inl f)) := hat.2
  refine W.bast X.1 X.2.1 hc ((X.2.2.2.2.2.2 t _ ht).1 n (fun j => .int (f j))) (fun q => by cases q) (by show ¬ (x < 0 ∨ (arrV _ _ _).slots.size ≤ _); rw [arrV_size]; exact hin) rfl rfl hdg fun H1 e1 z oq => ?_
  exact kk H1 _ ⟨wd_up hw.1 (rr_cell e1) z oq ha0, va_S.put hw.2.1 z oq ha0, hw.2.2⟩
theorem rr_sast {t : Nat} {r : Option Nat} {x y : Int32} (X : cx_ p s m args c cc nL own tb D cl tys) (hw : ww_ D cl ac a0 st H0 H locs) (ht : tys[t]? = some (ac t, .short)) (hv : so_si r t x y.toInt16.toInt32 st = some st') (hdg : decode cc pc = .ok (.sastore, 1))
    (kk : ∀ (H1 : Heap) (locs1 : List Loc), ww_ D cl ac a0 st' H0 H1 locs1 → W p l e R s m args below meth c H1 locs1 cells slots Q (F0 m (pc + 1) ls rest)) : W p l e R s m args below meth c H locs cells slots Q (F0 m pc ls (.int y :: .int x :: va_rf r :: rest)) := by
  obtain ⟨a, n, f, rfl, ha, hin, rfl⟩ := so_si_some hv
  have hat := hw.1.2.2 a _ ha
  have ha0 : a0 ≤ a := hat.1.elim id (fun ⟨_, _, z⟩ => by cases z)
  have hc : H[a]? = some (vp_cell (ac t) (n, .inl f)) := hat.2
  refine W.sast X.1 X.2.1 hc ((X.2.2.2.2.2.2 t _ ht).1 n (fun j => .int (f j))) (fun q => by cases q) (by show ¬ (x < 0 ∨ (arrV _ _ _).slots.size ≤ _); rw [arrV_size]; exact hin) rfl rfl hdg fun H1 e1 z oq => ?_
  exact kk H1 _ ⟨wd_up hw.1 (rr_cell e1) z oq ha0, va_S.put hw.2.1 z oq ha0, hw.2.2⟩
theorem rr_zast {t : Nat} {r : Option Nat} {x y : Int32} {u : Unit} (X : cx_ p s m args c cc nL own tb D cl tys) (hw : ww_ D cl ac a0 st H0 H locs) (ht : tys[t]? = some (ac t, .boolean)) (hz : so_z y st = some u) (hv : so_si r t x y st = some st') (hdg : decode cc pc = .ok (.bastore, 1))
    (kk : ∀ (H1 : Heap) (locs1 : List Loc), ww_ D cl ac a0 st' H0 H1 locs1 → W p l e R s m args below meth c H1 locs1 cells slots Q (F0 m (pc + 1) ls rest)) : W p l e R s m args below meth c H locs cells slots Q (F0 m pc ls (.int y :: .int x :: va_rf r :: rest)) := by
  obtain ⟨a, n, f, rfl, ha, hin, rfl⟩ := so_si_some hv
  have hat := hw.1.2.2 a _ ha
  have ha0 : a0 ≤ a := hat.1.elim id (fun ⟨_, _, z⟩ => by cases z)
  have hc : H[a]? = some (vp_cell (ac t) (n, .inl f)) := hat.2
  refine W.zast X.1 X.2.1 hc ((X.2.2.2.2.2.2 t _ ht).1 n (fun j => .int (f j))) (fun q => by cases q) (by show ¬ (x < 0 ∨ (arrV _ _ _).slots.size ≤ _); rw [arrV_size]; exact hin) rfl rfl hdg fun H1 e1 z oq => ?_
  rw [so_z_n hz] at e1
  exact kk H1 _ ⟨wd_up hw.1 (rr_cell e1) z oq ha0, va_S.put hw.2.1 z oq ha0, hw.2.2⟩
/-- a new row of a small type -/
theorem rr_newp {t N : Nat} {x : Int32} {atype : ArrayType} {ty : FieldType} (X : cx_ p s m args c cc nL own tb D cl tys) (hw : ww_ D cl ac a0 st H0 H locs) (hty : newarray.typeOf atype = ty) (ht : tys[t]? = some (ac t, ty)) (hra : va_RA s (ac t) ty → s.vm.findClass ("[" ++ ty.toString) = some (ac t)) (hdf : defaultValue ty = .int 0) (hn : ¬ x < 0) (hN : x.toNatClampNeg = N) (hbytes : N * componentBytes ty ≤ 536870912)
    (harr : Cond.arrayClass ty ∈ tb) (hr : cells + 1 ≤ R.cells ∧ slots + N ≤ R.slots) (hdg : decode cc pc = .ok (.newarray atype, 2))
    (kk : ∀ H1 : Heap, ww_ D cl ac a0 (st_ad st (.inl (t, N, fun _ => 0))) H0 H1 locs → W p l e R s m args below meth c H1 locs (cells + 1) (slots + N) Q (F0 m (pc + 2) ls (va_rf (some st.2) :: rest))) : W p l e R s m args below meth c H locs cells slots Q (F0 m pc ls (.int x :: rest)) := by
  subst hty
  obtain ⟨x1, x2, x3, x4, x5, x6⟩ := X
  refine va_newaK (atype := atype) x1 x2 (x5 _ harr) rfl hdg rfl hn hN hbytes hr.1 hr.2 hw.1.1 fun H1 cA e1 z1 o1 hAr hNm => ?_
  have hNm2 := hra (x6.2 t _ ht).2
  have hcA : cA = ac t := Option.some.inj (hNm.symm.trans hNm2)
  subst hcA
  refine kk H1 ⟨wd_ad hw.1 ?_ z1 o1, ⟨?_, ?_, hw.2.1.2.2⟩, hw.2.2⟩
  · rw [hdf] at e1
    exact e1
  · have h1 := hw.2.1.1
    have h2 := hw.1.1
    omega
  · intro q h1 h2
    have h3 := hw.2.1.1
    have h4 := hw.1.1
    exact (o1 q (by omega)).trans (hw.2.1.2.1 q h1 h2)
/-- a private constructor of a nest mate -/
theorem rr_callN {b : Nat} {host : String} (X : cx_ p s m args c cc nL own tb D cl tys) (hw : ww_ D cl ac a0 st s.heap H locs) (hK : kk_ D cl tys a0 K) (hKs : K s) (hM : ct_ l y (Cond.code y bytes maxL none :: tb) fr lo D cl ac a0 K (va_rf (some b) :: As) st rv st' i j)
    (hG : GoodIn tb tb) (hcode : Cond.code y bytes maxL none ∈ tb) (hini : Cond.initialized y.cls ∈ tb) (hlink : va_Nw (.methodLinkNest own index y host) s) (hinst : Cond.instanceMethod y ∈ tb) (hy1 : y.name = "<init>")
    (hd : y.cls ≠ "java/lang/invoke/MethodHandle" ∧ y.cls ≠ "java/lang/invoke/VarHandle" ∧ (parseMethodDescriptor y.desc).map (fun d => d.parameters.length) = some n) (hn : As.length = n)
    (hR : fr + 1 ≤ R.frames ∧ 8 + (maxL + 11) + lo ≤ R.locals) (hT : cells + i ≤ R.cells ∧ slots + j ≤ R.slots) (hls : ls.size = nL) (hrm : (rest.map fun v => v.category).sum ≤ 8) (hst : st0 = As.reverse ++ va_rf (some b) :: rest) (hdg : decode cc pc = .ok (.invokespecial index, 3))
    {sk : List Value} (hsk : rv.toList ++ rest = sk) (kk : ∀ (H1 : Heap) (locs1 : List Loc), ww_ D cl ac a0 st' s.heap H1 locs1 → W p l e R s m args below meth c H1 locs1 (cells + i) (slots + j) Q (F0 m (pc + 3) ls sk)) : W p l e R s m args below meth c H locs cells slots Q (F0 m pc ls st0) := by
  obtain ⟨x1, x2, x3, x4, x5, x6⟩ := X
  subst hst hsk
  exact ct_go (va_runIN (b := b) (As := As) (rest := rest) (host := host) ⟨x1, x2, x3, x4, x5⟩ hM ⟨va_cnB n x5 (gi_c hG hcode) rfl rfl rfl hlink (x5 _ hini) hd hR, hy1, x5 _ hinst⟩ (ct_pre hK hKs hw (va_rf (some b) :: As)) rfl hn hls rfl (lv_room hrm) hdg hT) hw kk
end RRE
