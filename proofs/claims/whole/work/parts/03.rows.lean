/-! The rows of the walks over stores: one a kind of instruction. -/
/-- the heap H holds the store st: all of it at a0 or above, but rows of no places -/
def wd_ (D : va_G) (cl : List vw_C) (ac : Nat → ClassId) (a0 : Nat) (st : st_S) (H : Heap) : Prop :=
  H.size = st.2 ∧ a0 ≤ st.2 ∧ ∀ (a : Nat) (e : ce_E), st.1 a = some e → (a0 ≤ a ∨ ce_0 e) ∧ va_at D cl (a, ce_v ac e) H
theorem wd_up {D : va_G} {cl : List vw_C} {ac : Nat → ClassId} {a0 : Nat} {st : st_S} {H H1 : Heap} {a : Nat} {e : ce_E} (h : wd_ D cl ac a0 st H) (he : va_at D cl (a, ce_v ac e) H1) (hz : H1.size = H.size) (oq : ∀ q : Nat, q ≠ a → H1[q]? = H[q]?) (ha : a0 ≤ a) : wd_ D cl ac a0 (st_up st a e) H1 := by
  obtain ⟨h1, h2, h3⟩ := h
  refine ⟨hz.trans h1, h2, fun b x hb => ?_⟩
  by_cases hba : b = a
  · subst hba
    simp only [st_up, if_pos] at hb
    cases hb
    exact ⟨Or.inl ha, he⟩
  · simp only [st_up, if_neg hba] at hb
    exact ⟨(h3 b x hb).1, (h3 b x hb).2.kept (oq b hba)⟩
theorem wd_ad {D : va_G} {cl : List vw_C} {ac : Nat → ClassId} {a0 : Nat} {st : st_S} {H H1 : Heap} {e : ce_E} (h : wd_ D cl ac a0 st H) (he : va_at D cl (st.2, ce_v ac e) H1) (hz : H1.size = st.2 + 1) (oq : ∀ q : Nat, q < st.2 → H1[q]? = H[q]?) : wd_ D cl ac a0 (st_ad st e) H1 := by
  obtain ⟨h1, h2, h3⟩ := h
  refine ⟨hz, Nat.le_succ_of_le h2, fun b x hb => ?_⟩
  by_cases hba : b = st.2
  · subst hba
    simp only [st_ad, if_pos] at hb
    cases hb
    exact ⟨Or.inl h2, he⟩
  · simp only [st_ad, if_neg hba] at hb
    have hlt : b < st.2 := by rw [← h1]; exact (h3 b x hb).2.lt
    exact ⟨(h3 b x hb).1, (h3 b x hb).2.kept (oq b hlt)⟩
/-- and since H0 nothing below a0 has changed -/
def ww_ (D : va_G) (cl : List vw_C) (ac : Nat → ClassId) (a0 : Nat) (st : st_S) (H0 H : Heap) (locs : List Loc) : Prop :=
  wd_ D cl ac a0 st H ∧ va_S (fun q => a0 ≤ q) H0 H locs ∧ a0 ≤ H0.size
/-- what a walk knows of its method and of the tables -/
def cx_ (p : Program) (s : State) (m : MethodId) (args : Array Value) (c : Code) (cc : ByteArray) (nL : Nat) (own : String) (tb : List Cond) (D : va_G) (cl : List vw_C) (tys : List (ClassId × FieldType)) : Prop :=
  p.tables.exec = Jvm.exec ∧ c.code = cc ∧ c.maxLocals = nL ∧ s.vm.findClass own = some m.cls ∧ (∀ w ∈ tb, w.before args s = true) ∧ va_K D cl tys s
/-- a class of the list: its fields' words, types and names -/
def cf_ (cl : List vw_C) (tb : List Cond) (ci : Nat) (C : String) (T : u_T) (N : Nat) (ty : Nat → FieldType) : Prop :=
  cl[ci]? = some (C, T, N) ∧ (∀ w ∈ u_ws C T N, w ∈ tb) ∧ (∀ k, k < N → parseFieldDescriptor (T k).2.2.1 = some (ty k)) ∧ ∀ a, a < N → ∀ b, b < N → a ≠ b → (T a).2.1 ≠ (T b).2.1
/-- field k of each of the classes cis -/
def ff_ (cl : List vw_C) (tb : List Cond) (cis : List Nat) (k : Nat) (dcl nm ds : String) (fin : Bool) : Prop :=
  ∀ ci ∈ cis, ∃ (C : String) (T : u_T) (N : Nat) (ty : Nat → FieldType), cf_ cl tb ci C T N ty ∧ k < N ∧ T k = (dcl, nm, ds, fin)
theorem ff_1 {cl : List vw_C} {tb : List Cond} {ci k N : Nat} {dcl nm ds C : String} {fin : Bool} {T : u_T} {ty : Nat → FieldType} (h : cf_ cl tb ci C T N ty) (hk : k < N) (hT : T k = (dcl, nm, ds, fin)) : ff_ cl tb [ci] k dcl nm ds fin := by
  intro cj hj
  rw [List.mem_singleton.mp hj]
  exact ⟨C, T, N, ty, h, hk, hT⟩
theorem ff_c {cl : List vw_C} {tb : List Cond} {ci k N : Nat} {cis : List Nat} {dcl nm ds C : String} {fin : Bool} {T : u_T} {ty : Nat → FieldType} (h : cf_ cl tb ci C T N ty) (hk : k < N) (hT : T k = (dcl, nm, ds, fin)) (h2 : ff_ cl tb cis k dcl nm ds fin) : ff_ cl tb (ci :: cis) k dcl nm ds fin := by
  intro cj hj
  rcases List.mem_cons.mp hj with rfl | hj
  · exact ⟨C, T, N, ty, h, hk, hT⟩
  · exact h2 cj hj
theorem va_P1 {D : va_G} {cl : List vw_C} {x : Nat × va_E} {H : Heap} (h : va_at D cl x H) : va_P D cl [x] H := by
  intro i q hi
  have hz : i < 1 := (List.getElem?_eq_some_iff.mp hi).1
  rw [show i = 0 by omega] at hi
  cases hi
  exact h
section RRA
variable {p : Program} {l : Launch} {e : Env} {R : Room} {s : State} {m : MethodId} {args : Array Value} {below : List Frame} {meth : Method} {c : Code} {H : Heap} {locs : List Loc} {cells slots : Nat} {Q : State → Prop}
variable {cc : ByteArray} {pc nL : Nat} {ls : Array Slot} {rest : List Value} {D : va_G} {cl : List vw_C} {ac : Nat → ClassId} {tys : List (ClassId × FieldType)} {a0 : Nat} {H0 : Heap} {st st' : st_S} {own : String} {tb : List Cond}
theorem rr_get {cis : List Nat} {k index : Nat} {dcl nm ds ref : String} {fin : Bool} {v : Value} {r : Option Nat} (X : cx_ p s m args c cc nL own tb D cl tys) (hw : ww_ D cl ac a0 st H0 H locs) (hf : ff_ cl tb cis k dcl nm ds fin) (hv : so_g st r cis k = some v)
    (hlink : Cond.fieldLink own index ref nm ds ∈ tb) (hsame : ref = dcl ∨ Cond.sameField ref dcl nm ds ∈ tb) (hdg : decode cc pc = .ok (.getfield index, 3))
    (kk : W p l e R s m args below meth c H locs cells slots Q (F0 m (pc + 3) ls (v :: rest))) : W p l e R s m args below meth c H locs cells slots Q (F0 m pc ls (va_rf r :: rest)) := by
  obtain ⟨a, ci, fs, rfl, ha, hc, hk⟩ := so_g_some hv
  obtain ⟨C, T, N, ty, ⟨h1, h2, -, -⟩, hkN, hT⟩ := hf ci hc
  obtain ⟨x1, x2, x3, x4, x5, x6⟩ := X
  have hP : va_P D cl [(a, .inr (ci, fs))] H := va_P1 (hw.1.2.2 a _ ha).2
  have hl : (Cond.fieldLink own index ref (T k).2.1 (T k).2.2.1).before args s = true := by rw [hT]; exact x5 _ hlink
  have hs : ∀ x, s.fieldFound? (T k).1 (T k).2.1 (T k).2.2.1 = some x → s.fieldFound? ref (T k).2.1 (T k).2.2.1 = some x := by
    rw [hT]
    intro x hx
    rcases hsame with rfl | h
    · exact hx
    · exact u_same (x5 _ h) x hx
  exact va_get (D := D) (ci := ci) (v := v) (C := C) (T := T) (N := N) x1 x2 x5 h2 x4 x6 hP 0 rfl h1 k hkN hl hs hk hdg kk
theorem rr_geti {cis : List Nat} {k index : Nat} {dcl nm ds ref : String} {fin : Bool} {v : Int32} {r : Option Nat} (X : cx_ p s m args c cc nL own tb D cl tys) (hw : ww_ D cl ac a0 st H0 H locs) (hf : ff_ cl tb cis k dcl nm ds fin) (hv : so_gi r cis k st = some v)
    (hlink : Cond.fieldLink own index ref nm ds ∈ tb) (hsame : ref = dcl ∨ Cond.sameField ref dcl nm ds ∈ tb) (hdg : decode cc pc = .ok (.getfield index, 3))
    (kk : W p l e R s m args below meth c H locs cells slots Q (F0 m (pc + 3) ls (.int v :: rest))) : W p l e R s m args below meth c H locs cells slots Q (F0 m pc ls (va_rf r :: rest)) :=
  rr_get X hw hf (so_gi_some hv) hlink hsame hdg kk
theorem rr_getq {cis : List Nat} {k index : Nat} {dcl nm ds ref : String} {fin : Bool} {v : Option Nat} {r : Option Nat} (X : cx_ p s m args c cc nL own tb D cl tys) (hw : ww_ D cl ac a0 st H0 H locs) (hf : ff_ cl tb cis k dcl nm ds fin) (hv : so_gq r cis k st = some v)
    (hlink : Cond.fieldLink own index ref nm ds ∈ tb) (hsame : ref = dcl ∨ Cond.sameField ref dcl nm ds ∈ tb) (hdg : decode cc pc = .ok (.getfield index, 3))
    (kk : W p l e R s m args below meth c H locs cells slots Q (F0 m (pc + 3) ls (va_rf v :: rest))) : W p l e R s m args below meth c H locs cells slots Q (F0 m pc ls (va_rf r :: rest)) :=
  rr_get X hw hf (so_gq_some hv) hlink hsame hdg kk
theorem rr_put {cis : List Nat} {k index : Nat} {dcl nm ds ref : String} {v : Value} {ty : FieldType} {r : Option Nat} (X : cx_ p s m args c cc nL own tb D cl tys) (hw : ww_ D cl ac a0 st H0 H locs) (hf : ff_ cl tb cis k dcl nm ds false) (hv : so_p r cis k v st = some st')
    (hlink : Cond.fieldLink own index ref nm ds ∈ tb) (hsame : ref = dcl ∨ Cond.sameField ref dcl nm ds ∈ tb) (hd : parseFieldDescriptor ds = some ty) (hn : narrow ty v = v) (hfit : fits ty v = true) (hdg : decode cc pc = .ok (.putfield index, 3))
    (kk : ∀ (H1 : Heap) (locs1 : List Loc), ww_ D cl ac a0 st' H0 H1 locs1 → W p l e R s m args below meth c H1 locs1 cells slots Q (F0 m (pc + 3) ls rest)) : W p l e R s m args below meth c H locs cells slots Q (F0 m pc ls (v :: va_rf r :: rest)) := by
  obtain ⟨a, ci, fs, rfl, ha, hc, hl, rfl⟩ := so_p_some hv
  obtain ⟨C, T, N, ty0, ⟨g1, g2, g3, g4⟩, hkN, hT⟩ := hf ci hc
  obtain ⟨x1, x2, x3, x4, x5, x6⟩ := X
  have hap := va_apart (own := own) x5 g2 ty0 g3 g4 x6 g1
  have hat := hw.1.2.2 a _ ha
  have ha0 : a0 ≤ a := hat.1.elim id (fun ⟨_, _, z⟩ => by cases z)
  obtain ⟨r, h1, cell, q1, q2, q3, q4⟩ : va_at D cl (a, .inr (ci, fs)) H := hat.2
  have hr : r = (C, T, N) := Option.some.inj (h1.symm.trans g1)
  subst hr
  obtain ⟨hS, hfc, kC, hkC, hkind⟩ := x6.1 ci _ g1
  obtain ⟨cf, kf, fi, f, hi, hsl⟩ := hS k hkN
  have hi : s.fieldFound? (T k).1 (T k).2.1 (T k).2.2.1 = some (cf, kf, fi, f) := hi
  have hlay := x5 _ (g2 _ (u_in_lay hkN))
  unfold u_lay at hlay
  rw [if_neg (by rw [hT]; simp)] at hlay
  have hst := (u_facts hfc hkC (u_lays x5 g2 hkN) hi).1
  have h6 := u_store hfc hkC hkind hlay hi (by rw [hT]; exact hd) hn hfit
  have hi2 : s.fieldFound? ref nm ds = some (cf, kf, fi, f) := by
    have hi3 : s.fieldFound? dcl nm ds = some (cf, kf, fi, f) := by have := hi; rw [hT] at this; exact this
    rcases hsame with rfl | h
    · exact hi3
    · exact u_same (x5 _ h) _ hi3
  refine W.putK x1 x2 (f := f) (own := own) (ref := ref) (name := nm) (desc := ds) (index := index) ⟨x4, x5 _ hlink, ⟨_, _, _, hi2⟩, hst⟩ (by rw [q2]; exact h6) q1 q3 (by rw [hsl]; exact k2_hasslot (q4 k hkN)) rfl rfl hdg fun H' e1 e2 e3 => ?_
  rw [hsl] at e1
  exact kk H' _ ⟨wd_up hw.1 ⟨_, g1, t_OB.to (V := updV (vp_V fs) k v) ⟨_, e1, q2, q3, t_set q4 hap hkN v⟩ (fun j _ => vp_updV_set hl v j)⟩ e2 e3 ha0, va_S.put hw.2.1 e2 e3 ha0, hw.2.2⟩
/-- a final field, in its class's constructor -/
theorem rr_putF {cis : List Nat} {k index : Nat} {nm ds : String} {v : Value} {ty : FieldType} {r : Option Nat} (X : cx_ p s m args c cc nL own tb D cl tys) (hw : ww_ D cl ac a0 st H0 H locs) (hf : ff_ cl tb cis k own nm ds true) (hv : so_p r cis k v st = some st')
    (hlink : Cond.fieldLink own index own nm ds ∈ tb) (hin : meth.name = "<init>") (hd : parseFieldDescriptor ds = some ty) (hn : narrow ty v = v) (hfit : fits ty v = true) (hdg : decode cc pc = .ok (.putfield index, 3))
    (kk : ∀ (H1 : Heap) (locs1 : List Loc), ww_ D cl ac a0 st' H0 H1 locs1 → W p l e R s m args below meth c H1 locs1 cells slots Q (F0 m (pc + 3) ls rest)) : W p l e R s m args below meth c H locs cells slots Q (F0 m pc ls (v :: va_rf r :: rest)) := by
  obtain ⟨a, ci, fs, rfl, ha, hc, hl, rfl⟩ := so_p_some hv
  obtain ⟨C, T, N, ty0, ⟨g1, g2, g3, g4⟩, hkN, hT⟩ := hf ci hc
  obtain ⟨x1, x2, x3, x4, x5, x6⟩ := X
  have hap := va_apart (own := own) x5 g2 ty0 g3 g4 x6 g1
  have hat := hw.1.2.2 a _ ha
  have ha0 : a0 ≤ a := hat.1.elim id (fun ⟨_, _, z⟩ => by cases z)
  obtain ⟨r, h1, cell, q1, q2, q3, q4⟩ : va_at D cl (a, .inr (ci, fs)) H := hat.2
  have hr : r = (C, T, N) := Option.some.inj (h1.symm.trans g1)
  subst hr
  obtain ⟨hS, hfc, kC, hkC, hkind⟩ := x6.1 ci _ g1
  obtain ⟨cf, kf, fi, f, hi, hsl⟩ := hS k hkN
  have hi : s.fieldFound? (T k).1 (T k).2.1 (T k).2.2.1 = some (cf, kf, fi, f) := hi
  have hlay := x5 _ (g2 _ (u_in_lay hkN))
  unfold u_lay at hlay
  rw [if_pos (by rw [hT])] at hlay
  have hst := (u_facts hfc hkC (u_lays x5 g2 hkN) hi).1
  have hcf : m.cls = cf := by
    obtain ⟨_, _, c', _, _, _, -, -, hf', -, -, -, hown2, -⟩ := Cond.laysFinal_spec hlay
    have e1 : c' = cf := by have := hi.symm.trans hf'; simp at this; exact this.1.symm
    rw [hT] at hown2
    rw [← e1]
    exact Option.some.inj (x4.symm.trans hown2)
  have h6 := u_fits hfc hkC hkind (Or.inr hlay) hi (by rw [hT]; exact hd) hn hfit
  have hi2 : s.fieldFound? own nm ds = some (cf, kf, fi, f) := by have := hi; rw [hT] at this; exact this
  refine W.putFinK x1 x2 (own := own) (ref := own) (name := nm) (desc := ds) (index := index) x4 (x5 _ hlink) hi2 hst hcf hin (by rw [q2]; exact h6) q1 q3 (by rw [hsl]; exact k2_hasslot (q4 k hkN)) rfl rfl hdg fun H' e1 e2 e3 => ?_
  rw [hsl] at e1
  exact kk H' _ ⟨wd_up hw.1 ⟨_, g1, t_OB.to (V := updV (vp_V fs) k v) ⟨_, e1, q2, q3, t_set q4 hap hkN v⟩ (fun j _ => vp_updV_set hl v j)⟩ e2 e3 ha0, va_S.put hw.2.1 e2 e3 ha0, hw.2.2⟩
theorem rr_iald {t : Nat} {r : Option Nat} {x y : Int32} (X : cx_ p s m args c cc nL own tb D cl tys) (hw : ww_ D cl ac a0 st H0 H locs) (ht : tys[t]? = some (ac t, .int)) (hv : so_li r t x st = some y) (hdg : decode cc pc = .ok (.iaload, 1))
    (kk : W p l e R s m args below meth c H locs cells slots Q (F0 m (pc + 1) ls (.int y :: rest))) : W p l e R s m args below meth c H locs cells slots Q (F0 m pc ls (.int x :: va_rf r :: rest)) := by
  obtain ⟨a, n, f, rfl, ha, hin, rfl⟩ := so_li_some hv
  have hP : va_P D cl [(a, .inl (ac t, n, .inl f))] H := va_P1 (hw.1.2.2 a _ ha).2
  exact va_iald X.1 X.2.1 X.2.2.2.2.2 hP 0 t rfl ht hin hdg kk
theorem rr_iast {t : Nat} {r : Option Nat} {x y : Int32} (X : cx_ p s m args c cc nL own tb D cl tys) (hw : ww_ D cl ac a0 st H0 H locs) (ht : tys[t]? = some (ac t, .int)) (hv : so_si r t x y st = some st') (hdg : decode cc pc = .ok (.iastore, 1))
    (kk : ∀ (H1 : Heap) (locs1 : List Loc), ww_ D cl ac a0 st' H0 H1 locs1 → W p l e R s m args below meth c H1 locs1 cells slots Q (F0 m (pc + 1) ls rest)) : W p l e R s m args below meth c H locs cells slots Q (F0 m pc ls (.int y :: .int x :: va_rf r :: rest)) := by
  obtain ⟨a, n, f, rfl, ha, hin, rfl⟩ := so_si_some hv
  have hat := hw.1.2.2 a _ ha
  have ha0 : a0 ≤ a := hat.1.elim id (fun ⟨_, _, z⟩ => by cases z)
  have hc : H[a]? = some (vp_cell (ac t) (n, .inl f)) := hat.2
  refine W.iast X.1 X.2.1 hc ((X.2.2.2.2.2.2 t _ ht).1 n (fun j => .int (f j))) (fun q => by cases q) (by show ¬ (x < 0 ∨ (arrV _ _ _).slots.size ≤ _); rw [arrV_size]; exact hin) rfl rfl hdg fun H1 e1 z oq => ?_
  refine kk H1 _ ⟨wd_up hw.1 ?_ z oq ha0, va_S.put hw.2.1 z oq ha0, hw.2.2⟩
  show H1[a]? = some (vp_cell _ _)
  rw [e1, vp_cell_i, vp_cell_i, arrV_store]
  congr 2
  funext q
  by_cases hq : q = x.toNatClampNeg
  · subst hq
    simp [updV, upd]
  · simp [updV, upd, hq]
theorem rr_aald {ts : List Nat} {r y : Option Nat} {x : Int32} (X : cx_ p s m args c cc nL own tb D cl tys) (hw : ww_ D cl ac a0 st H0 H locs) (ht : ∀ t ∈ ts, ∃ E : String, tys[t]? = some (ac t, .object E)) (hv : so_lq r ts x st = some y) (hdg : decode cc pc = .ok (.aaload, 1))
    (kk : W p l e R s m args below meth c H locs cells slots Q (F0 m (pc + 1) ls (va_rf y :: rest))) : W p l e R s m args below meth c H locs cells slots Q (F0 m pc ls (.int x :: va_rf r :: rest)) := by
  obtain ⟨a, t, n, f, rfl, ha, hm, hin, rfl⟩ := so_lq_some hv
  obtain ⟨E, hE⟩ := ht t hm
  have hP : va_P D cl [(a, .inl (ac t, n, .inr (.inr (.inr (.inr f)))))] H := va_P1 (hw.1.2.2 a _ ha).2
  exact va_aldq X.1 X.2.1 X.2.2.2.2.2 hP 0 t rfl hE hin hdg kk
theorem rr_aast {ts cis : List Nat} {r y : Option Nat} {x : Int32} (X : cx_ p s m args c cc nL own tb D cl tys) (hw : ww_ D cl ac a0 st H0 H locs)
    (ht : ∀ t ∈ ts, ∃ E : String, tys[t]? = some (ac t, .object E) ∧ ∀ ci ∈ cis, ∃ q : vw_C, cl[ci]? = some q ∧ ∀ comp c0 : ClassId, s.vm.findClass E = some comp → s.vm.findClass q.1 = some c0 → s.vm.assignable c0 comp = true)
    (hv : so_sq r ts cis x y st = some st') (hdg : decode cc pc = .ok (.aastore, 1))
    (kk : ∀ (H1 : Heap) (locs1 : List Loc), ww_ D cl ac a0 st' H0 H1 locs1 → W p l e R s m args below meth c H1 locs1 cells slots Q (F0 m (pc + 1) ls rest)) : W p l e R s m args below meth c H locs cells slots Q (F0 m pc ls (va_rf y :: .int x :: va_rf r :: rest)) := by
  obtain ⟨a, t, n, f, rfl, ha, hm, hin, his, rfl⟩ := so_sq_some hv
  obtain ⟨E, hE, hasg⟩ := ht t hm
  have hlt : x.toNatClampNeg < n := Nat.not_le.mp fun q => hin (Or.inr q)
  have h0 : ¬ x < 0 := fun q => hin (Or.inl q)
  have hat := hw.1.2.2 a _ ha
  have ha0 : a0 ≤ a := hat.1.elim id (fun ⟨_, _, z⟩ => by cases z; exact absurd hlt (Nat.not_lt_zero _))
  have hc : H[a]? = some (vp_cell (ac t) (n, .inr (.inr (.inr (.inr f))))) := hat.2
  have hK := X.2.2.2.2.2
  have fin : ∀ (H1 : Heap), H1[a]? = some ((vp_cell (ac t) (n, .inr (.inr (.inr (.inr f))))).setSlot x.toNatClampNeg (va_rf y)) → va_at D cl (a, ce_v ac (.inr (.inl (t, n, va_up f x.toNatClampNeg y)))) H1 := by
    intro H1 e1
    show H1[a]? = some (vp_cell _ _)
    rw [e1, vp_cell_q, vp_cell_q, arrV_store]
    congr 2
    funext q
    by_cases hq : q = x.toNatClampNeg
    · subst hq
      simp [updV, va_up]
    · simp [updV, va_up, hq]
  cases y with
  | none =>
    refine va_WaastN (C := E) X.1 X.2.1 hc ((hK.2 t _ hE).1 n (fun j => va_rf (f j))) (fun h => by cases h) (by show ¬ (x < 0 ∨ (arrV _ _ _).slots.size ≤ _); rw [arrV_size]; exact hin) rfl rfl hdg fun H1 e1 z oq => ?_
    exact kk H1 _ ⟨wd_up hw.1 (fin H1 e1) z oq ha0, va_S.put hw.2.1 z oq ha0, hw.2.2⟩
  | some b =>
    obtain ⟨ci, fs, hb, hci⟩ := so_is_some his
    obtain ⟨q, hq, hg⟩ := hasg ci hci
    obtain ⟨q', hq', cellV, g1, g2, g3, -⟩ : va_at D cl (b, .inr (ci, fs)) H := (hw.1.2.2 b _ hb).2
    have hcls := (hK.1 ci q hq).2
    obtain ⟨kA, comp, k1, k2, k3, -⟩ := (hK.2 t _ hE).2
    obtain ⟨kE, hkE, -⟩ := Vm.findClass_spec k3
    obtain ⟨kC, hkC, -⟩ := hcls.2
    refine W.aast X.1 X.2.1 hc (fun q h => by cases h) (fun h => by cases h) k1 k2 rfl hkE ⟨h0, by show _ < (arrV _ _ _).slots.size; rw [arrV_size]; exact hlt⟩ g1 (fun q h => by rw [g3] at h; cases h) (by rw [g2]; exact hkC) (by rw [g2]; exact hg _ _ k3 hcls.1) rfl rfl hdg fun H1 e1 z oq => ?_
    exact kk H1 _ ⟨wd_up hw.1 (fin H1 e1) z oq ha0, va_S.put hw.2.1 z oq ha0, hw.2.2⟩
theorem rr_alen {ts : List Nat} {r : Option Nat} {x : Int32} (X : cx_ p s m args c cc nL own tb D cl tys) (hw : ww_ D cl ac a0 st H0 H locs) (ht : ∀ t ∈ ts, ∃ E : FieldType, tys[t]? = some (ac t, E)) (hv : so_n r ts st = some x) (hdg : decode cc pc = .ok (.arraylength, 1))
    (kk : W p l e R s m args below meth c H locs cells slots Q (F0 m (pc + 1) ls (.int x :: rest))) : W p l e R s m args below meth c H locs cells slots Q (F0 m pc ls (va_rf r :: rest)) := by
  unfold so_n at hv
  split at hv
  · cases hv
  · rename_i a
    split at hv
    · rename_i o ho
      obtain ⟨t, n, f⟩ := o
      split at hv
      · rename_i hm
        obtain ⟨E, hE⟩ := ht t hm
        have hP : va_P D cl [(a, .inl (ac t, n, .inl f))] H := va_P1 (hw.1.2.2 a _ ho).2
        exact va_alen X.1 X.2.1 X.2.2.2.2.2 hP 0 t rfl hE (Option.some.inj hv) hdg kk
      · cases hv
    · rename_i o ho
      obtain ⟨t, n, f⟩ := o
      split at hv
      · rename_i hm
        obtain ⟨E, hE⟩ := ht t hm
        have hP : va_P D cl [(a, .inl (ac t, n, .inr (.inr (.inr (.inr f)))))] H := va_P1 (hw.1.2.2 a _ ho).2
        exact va_alen X.1 X.2.1 X.2.2.2.2.2 hP 0 t rfl hE (Option.some.inj hv) hdg kk
      · cases hv
    · cases hv
theorem rr_new {ci index N : Nat} {C : String} {T : u_T} {ty : Nat → FieldType} {fs : List Value} (X : cx_ p s m args c cc nL own tb D cl tys) (hw : ww_ D cl ac a0 st H0 H locs) (hf : cf_ cl tb ci C T N ty) (hfs : ∀ j, j < N → defaultValue (ty j) = vp_V fs j)
    (hcl : Cond.classLink own index C ∈ tb) (hinst : Cond.instantiable C N ∈ tb) (hini : Cond.initialized C ∈ tb) (hr : cells + 1 ≤ R.cells ∧ slots + N ≤ R.slots) (hdg : decode cc pc = .ok (.new index, 3))
    (kk : ∀ H1 : Heap, ww_ D cl ac a0 (st_ad st (.inr (.inr (ci, fs)))) H0 H1 locs → W p l e R s m args below meth c H1 locs (cells + 1) (slots + N) Q (F0 m (pc + 3) ls (va_rf (some st.2) :: rest))) : W p l e R s m args below meth c H locs cells slots Q (F0 m pc ls rest) := by
  obtain ⟨g1, g2, g3, g4⟩ := hf
  obtain ⟨x1, x2, x3, x4, x5, x6⟩ := X
  have hKn := x6.1 ci _ g1
  refine W.newcK x1 x2 x4 (x5 _ hcl) (x5 _ hinst) (x5 _ hini) rfl hdg hr.1 hr.2 hKn.2.1 hw.1.1 fun H1 kC hkC e1 z1 o1 => ?_
  refine kk H1 ⟨wd_ad hw.1 ⟨_, g1, (u_born ty x5 g2 hKn hkC e1 g3).to hfs⟩ z1 o1, ⟨?_, ?_, hw.2.1.2.2⟩, hw.2.2⟩
  · have h1 := hw.2.1.1
    have h2 := hw.1.1
    omega
  · intro q h1 h2
    have h3 := hw.2.1.1
    have h4 := hw.1.1
    exact (o1 q (by omega)).trans (hw.2.1.2.1 q h1 h2)
theorem rr_newi {t N : Nat} {x : Int32} (X : cx_ p s m args c cc nL own tb D cl tys) (hw : ww_ D cl ac a0 st H0 H locs) (ht : tys[t]? = some (ac t, .int)) (hn : ¬ x < 0) (hN : x.toNatClampNeg = N) (hbytes : N * 4 ≤ 536870912)
    (harr : Cond.arrayClass .int ∈ tb) (hr : cells + 1 ≤ R.cells ∧ slots + N ≤ R.slots) (hdg : decode cc pc = .ok (.newarray .int, 2))
    (kk : ∀ H1 : Heap, ww_ D cl ac a0 (st_ad st (.inl (t, N, fun _ => 0))) H0 H1 locs → W p l e R s m args below meth c H1 locs (cells + 1) (slots + N) Q (F0 m (pc + 2) ls (va_rf (some st.2) :: rest))) : W p l e R s m args below meth c H locs cells slots Q (F0 m pc ls (.int x :: rest)) := by
  obtain ⟨x1, x2, x3, x4, x5, x6⟩ := X
  refine va_newaK (atype := .int) x1 x2 (x5 _ harr) rfl hdg rfl hn hN hbytes hr.1 hr.2 hw.1.1 fun H1 cA e1 z1 o1 hAr hNm => ?_
  have hNm2 : s.vm.findClass ("[" ++ FieldType.int.toString) = some (ac t) := (x6.2 t _ ht).2
  have hcA : cA = ac t := Option.some.inj (hNm.symm.trans hNm2)
  subst hcA
  refine kk H1 ⟨wd_ad hw.1 ?_ z1 o1, ⟨?_, ?_, hw.2.1.2.2⟩, hw.2.2⟩
  · exact e1
  · have h1 := hw.2.1.1
    have h2 := hw.1.1
    omega
  · intro q h1 h2
    have h3 := hw.2.1.1
    have h4 := hw.1.1
    exact (o1 q (by omega)).trans (hw.2.1.2.1 q h1 h2)
theorem rr_newq {t N index : Nat} {E : String} {x : Int32} (X : cx_ p s m args c cc nL own tb D cl tys) (hw : ww_ D cl ac a0 st H0 H locs) (ht : tys[t]? = some (ac t, .object E)) (hn : ¬ x < 0) (hN : x.toNatClampNeg = N) (hbytes : N * 4 ≤ 536870912)
    (hcl : Cond.classLink own index E ∈ tb) (hover : va_AO E s) (hr : cells + 1 ≤ R.cells ∧ slots + N ≤ R.slots) (hdg : decode cc pc = .ok (.anewarray index, 3))
    (kk : ∀ H1 : Heap, ww_ D cl ac a0 (st_ad st (.inr (.inl (t, N, fun _ => none)))) H0 H1 locs → W p l e R s m args below meth c H1 locs (cells + 1) (slots + N) Q (F0 m (pc + 3) ls (va_rf (some st.2) :: rest))) : W p l e R s m args below meth c H locs cells slots Q (F0 m pc ls (.int x :: rest)) := by
  obtain ⟨x1, x2, x3, x4, x5, x6⟩ := X
  subst hN
  refine W.anew x1 x2 x4 (x5 _ hcl) (va_AO.use hover) rfl hdg rfl hn hbytes hr.1 hr.2 fun cA kA comp f1 f2 f3 f4 => ?_
  obtain ⟨kA2, comp2, r1, r2, r3, r4⟩ := (x6.2 t _ ht).2
  have hcA : cA = ac t := Option.some.inj (f1.symm.trans r4)
  subst hcA
  have hz := hw.1.1
  have h1 := hw.2.1.1
  generalize hH1 : H.push ({ cls := ac t, slots := Array.replicate x.toNatClampNeg .null, vm := .none } : Cell) = H1
  have z1 : H1.size = st.2 + 1 := by rw [← hH1, Array.size_push, hz]
  have e1 : H1[st.2]? = some (arrV (ac t) x.toNatClampNeg (fun _ => .null)) := by rw [← hH1, ← hz, Array.getElem?_push_size, ← arrV_new]
  have o1 : ∀ q : Nat, q < st.2 → H1[q]? = H[q]? := fun q hq => by rw [← hH1, Array.getElem?_push, if_neg (by omega)]
  rw [hz]
  refine kk H1 ⟨wd_ad hw.1 ?_ z1 o1, ⟨by omega, ?_, hw.2.1.2.2⟩, hw.2.2⟩
  · exact e1
  · intro q h2 h3
    exact (o1 q (by omega)).trans (hw.2.1.2.1 q h2 h3)
end RRA
