/-! THE CLAIM OUT OF ONE WALK OF THE LAW'S BODY. Your part is whole_start (and what it stands on); all else here is the same for every law, but numbers. -/
def R_law : String := "PromiseVatsLaw"
def lw_P (b : Addr) (xs : List Int32) (args : Array Value) (s : State) : Prop := args = #[.ref b] ∧ s.IntsAt b xs ∧ xs.length ≤ 2049 ∧ (Jvm.Cond.and given_1 narrow_1).before args s = true
def lw_Q (_ : Array Value) (s : State) (o : Outcome) (t : State) : Prop := o = .returned (some (.int 1)) ∧ Framed s o t [] 600000 7302250
def lw_Z (below : List Frame) (a : Array Value) (s : State) : State → Prop := fun t => ∃ o, t.status = .running ∧ Ended t below o ∧ lw_Q a s o t
/-- the law's own end, with 1 on the stack, nothing written that was there before, its room as the claim has it -/
theorem lw_ret {p : Program} {l : Launch} {e : Env} {s : State} {m : MethodId} {below : List Frame} {meth : Method} {c : Code} {b : Nat} (hx : p.tables.exec = Jvm.exec) (hb : c.code = code) (hr : meth.sig.returnType = ret) (hlocks : meth.locks = false) {pc : Nat} {H : Heap} {ls : Array Slot} (hdg : decode code pc = .ok (.ireturn, 1)) : W p l e room_1 s m #[Value.ref b] below meth c H [] 600000 7302250 (lw_Z below #[Value.ref b] s) (F0 m pc ls [.int 1]) := by
  intro T hT X
  obtain ⟨fs, hret, hrun, hended, hW, hframe⟩ := X.leave (v := some (.int 1)) (hlocks := hlocks) (fun h => by rw [hr] at h; cases h)
  have hmeth' : T.vm.method? m = some meth := X.method'
  refine ⟨T.setFrames fs, ?_, .returned (some (.int 1)), hrun, hended, rfl, ⟨_, rfl⟩, hW, hframe⟩
  jvm_step X.here [X.here.top, hx, hb, hdg, hmeth', hr, ret, narrow_b1]
  (try refine ⟨rfl, ?_⟩); (try refine ⟨rfl, ?_⟩)
  first | (intro acts; rw [hret _ acts rfl rfl rfl]) | rw [hret _ _ rfl rfl rfl]
  exact Steps.refl _
/-- what holds at the law's entry: the machine, the code, the tables' words (any of lw_tbl by 'hts w (by decide +kernel)'), the script of L ints xs at the cell b, what the Statement gives of the start (any of its parts by flat_of_before) -/
def lw_At (p : Program) (s : State) (m : MethodId) (meth : Method) (c : Code) (b L : Nat) (xs : Nat → Int32) : Prop :=
  p.tables.exec = Jvm.exec ∧ c.code = code ∧ meth.sig.returnType = ret ∧ c.maxLocals = 4 ∧ s.vm.findClass R_law = some m.cls ∧ (∀ w ∈ lw_tbl, w.before #[Value.ref b] s = true) ∧ va_X b L xs s s.heap ∧ b < s.heap.size ∧ meth.locks = false ∧ (Jvm.Cond.and given_1 narrow_1).before #[Value.ref b] s = true
/-- a place of the law, as wk_ is one of a method: the answer is 1, the room is the claim's -/
def wl_ {α : Type} (p : Program) (l : Launch) (e : Env) (s : State) (m : MethodId) (below : List Frame) (meth : Method) (c : Code) (D : va_G) (ac : Nat → ClassId) (a0 : Nat) (gl : gl_T) (stF : st_S) (iT jT pc : Nat) (lv : α → List (Nat × Value)) (sk : α → List Value) (f : α → st_M Int32) : Prop :=
  ∀ (x : α) (st : st_S) (H : Heap) (locs : List Loc) (cells slots i j : Nat) (ls : Array Slot), ww_ D cl_ ac a0 st s.heap H locs → lh_ ls 4 (lv x) → f x st = some (1, stF, i, j) → cells + i = iT → slots + j = jT →
    W p l e room_1 s m #[Value.ref gl.2.2.1] below meth c H locs cells slots (lw_Z below #[Value.ref gl.2.2.1] s) (F0 m pc ls (sk x))
theorem wl_it {α : Type} {p : Program} {l : Launch} {e : Env} {s : State} {m : MethodId} {below : List Frame} {meth : Method} {c : Code} {D : va_G} {ac : Nat → ClassId} {a0 : Nat} {gl : gl_T} {stF : st_S} {iT jT pc : Nat} {lv : α → List (Nat × Value)} {sk : α → List Value} {F : (α → st_M Int32) → α → st_M Int32}
    (h : ∀ f : α → st_M Int32, wl_ p l e s m below meth c D ac a0 gl stF iT jT pc lv sk f → wl_ p l e s m below meth c D ac a0 gl stF iT jT pc lv sk (F f)) :
    ∀ n : Nat, wl_ p l e s m below meth c D ac a0 gl stF iT jT pc lv sk (st_it F n)
  | 0 => fun _ _ _ _ _ _ _ _ _ _ _ h1 _ _ => by cases h1
  | n + 1 => h _ (wl_it h n)
theorem le_end {p : Program} {l : Launch} {e : Env} {s : State} {m : MethodId} {below : List Frame} {meth : Method} {c : Code} {D : va_G} {ac : Nat → ClassId} {a0 : Nat} {gl : gl_T} {st : st_S} {H : Heap} {locs : List Loc} {cells slots iT jT pc : Nat} {ls : Array Slot} (X : cx_ p s m #[Value.ref gl.2.2.1] c code 4 "PromiseVatsLaw" tb_ D cl_ (ty_ ac)) (hw : ww_ D cl_ ac a0 st s.heap H locs) (hA0 : s.heap.size = a0) (hlk : meth.locks = false) (hret : meth.sig.returnType = ret) (hTi : iT ≤ 600000) (hTj : jT ≤ 7302250) (hci : cells + 0 = iT) (hcj : slots + 0 = jT) (hdg : decode code pc = .ok (.ireturn, 1)) :
    W p l e room_1 s m #[Value.ref gl.2.2.1] below meth c H locs cells slots (lw_Z below #[Value.ref gl.2.2.1] s) (F0 m pc ls [.int 1]) := by
  refine va_forget (fun q hq => by rw [hA0]; exact hw.2.1.2.2 q hq) ?_
  refine W.widen (k := 600000) (n := 7302250) (by omega) (by omega) ?_
  exact lw_ret X.1 X.2.1 hret hlk hdg
