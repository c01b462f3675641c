/-! The store: what the walks know of the heap. A cell is a row of ints, a row of references (their type's number, length, contents) or an object (its class's number, its fields). A store: what lies at each address, and how many cells the heap has. A program over it: its answer, the store behind it, the cells and the slots that it has made. -/
abbrev ce_E : Type := (Nat × Nat × (Nat → Int32)) ⊕ (Nat × Nat × (Nat → Option Nat)) ⊕ (Nat × List Value)
abbrev st_S : Type := (Nat → Option ce_E) × Nat
abbrev st_M (α : Type) : Type := st_S → Option (α × st_S × Nat × Nat)
def ce_v (ac : Nat → ClassId) (e : ce_E) : va_E := match e with
  | .inl x => .inl (ac x.1, x.2.1, .inl x.2.2)
  | .inr (.inl x) => .inl (ac x.1, x.2.1, .inr (.inr (.inr (.inr x.2.2))))
  | .inr (.inr o) => .inr o
/-- a row of no places: nobody can write into it -/
def ce_0 (e : ce_E) : Prop := ∃ (t : Nat) (f : Nat → Option Nat), e = .inr (.inl (t, 0, f))
def st_up (st : st_S) (a : Nat) (e : ce_E) : st_S := (fun q => if q = a then some e else st.1 q, st.2)
def st_ad (st : st_S) (e : ce_E) : st_S := (fun q => if q = st.2 then some e else st.1 q, st.2 + 1)
def st_r {α : Type} (a : α) : st_M α := fun st => some (a, st, 0, 0)
def st_b {α β : Type} (x : st_M α) (f : α → st_M β) : st_M β := fun st => match x st with
  | none => none
  | some (a, st1, i1, j1) => match f a st1 with
    | none => none
    | some (b, st2, i2, j2) => some (b, st2, i1 + i2, j1 + j2)
/-- a read, then the rest -/
def st_g {α β : Type} (f : st_S → Option α) (k : α → st_M β) : st_M β := fun st => (f st).bind (fun a => k a st)
/-- a write, then the rest -/
def st_w {β : Type} (f : st_S → Option st_S) (k : st_M β) : st_M β := fun st => (f st).bind k
/-- a new cell of j slots, then the rest -/
def st_n {β : Type} (e : ce_E) (j : Nat) (k : Nat → st_M β) : st_M β := fun st => match k st.2 (st_ad st e) with
  | none => none
  | some (b, st2, i2, j2) => some (b, st2, 1 + i2, j + j2)
theorem st_r_some {α : Type} {a r : α} {st stF : st_S} {i j : Nat} (h : st_r a st = some (r, stF, i, j)) : r = a ∧ stF = st ∧ i = 0 ∧ j = 0 := by
  simp only [st_r, Option.some.injEq, Prod.mk.injEq] at h
  exact ⟨h.1.symm, h.2.1.symm, h.2.2.1.symm, h.2.2.2.symm⟩
theorem st_b_some {α β : Type} {x : st_M α} {f : α → st_M β} {st stF : st_S} {r : β} {i j : Nat} (h : st_b x f st = some (r, stF, i, j)) :
    ∃ (a : α) (st1 : st_S) (i1 j1 i2 j2 : Nat), x st = some (a, st1, i1, j1) ∧ f a st1 = some (r, stF, i2, j2) ∧ i = i1 + i2 ∧ j = j1 + j2 := by
  unfold st_b at h
  split at h
  · cases h
  · rename_i a st1 i1 j1 hx
    split at h
    · cases h
    · rename_i b st2 i2 j2 hf
      simp only [Option.some.injEq, Prod.mk.injEq] at h
      obtain ⟨rfl, rfl, rfl, rfl⟩ := h
      exact ⟨a, st1, i1, j1, i2, j2, hx, hf, rfl, rfl⟩
theorem st_g_some {α β : Type} {f : st_S → Option α} {k : α → st_M β} {st : st_S} {x : β × st_S × Nat × Nat} (h : st_g f k st = some x) : ∃ a : α, f st = some a ∧ k a st = some x := Option.bind_eq_some_iff.mp h
theorem st_w_some {β : Type} {f : st_S → Option st_S} {k : st_M β} {st : st_S} {x : β × st_S × Nat × Nat} (h : st_w f k st = some x) : ∃ st1 : st_S, f st = some st1 ∧ k st1 = some x := Option.bind_eq_some_iff.mp h
theorem st_n_some {β : Type} {e : ce_E} {j0 : Nat} {k : Nat → st_M β} {st stF : st_S} {r : β} {i j : Nat} (h : st_n e j0 k st = some (r, stF, i, j)) :
    ∃ i2 j2 : Nat, k st.2 (st_ad st e) = some (r, stF, i2, j2) ∧ i = 1 + i2 ∧ j = j0 + j2 := by
  unfold st_n at h
  split at h
  · cases h
  · rename_i b st2 i2 j2 hk
    simp only [Option.some.injEq, Prod.mk.injEq] at h
    obtain ⟨rfl, rfl, rfl, rfl⟩ := h
    exact ⟨i2, j2, hk, rfl, rfl⟩
/-! what a program reads and writes -/
/-- a field of an object of one of the classes cis -/
def so_g (st : st_S) (r : Option Nat) (cis : List Nat) (k : Nat) : Option Value := match r with
  | none => none
  | some a => match st.1 a with
    | some (.inr (.inr o)) => if o.1 ∈ cis then o.2[k]? else none
    | _ => none
def so_vi (v : Value) : Option Int32 := match v with
  | .int x => some x
  | _ => none
def so_vq (v : Value) : Option (Option Nat) := match v with
  | .null => some none
  | .ref a => some (some a)
  | _ => none
def so_gi (r : Option Nat) (cis : List Nat) (k : Nat) (st : st_S) : Option Int32 := (so_g st r cis k).bind so_vi
def so_gq (r : Option Nat) (cis : List Nat) (k : Nat) (st : st_S) : Option (Option Nat) := (so_g st r cis k).bind so_vq
def so_p (r : Option Nat) (cis : List Nat) (k : Nat) (v : Value) (st : st_S) : Option st_S := match r with
  | none => none
  | some a => match st.1 a with
    | some (.inr (.inr o)) => if o.1 ∈ cis ∧ k < o.2.length then some (st_up st a (.inr (.inr (o.1, o.2.set k v)))) else none
    | _ => none
/-- the class of an object -/
def so_c (r : Option Nat) (st : st_S) : Option Nat := match r with
  | none => none
  | some a => match st.1 a with
    | some (.inr (.inr o)) => some o.1
    | _ => none
/-- rows of type t: a place read, a place written, the length -/
def so_li (r : Option Nat) (t : Nat) (x : Int32) (st : st_S) : Option Int32 := match r with
  | none => none
  | some a => match st.1 a with
    | some (.inl o) => if o.1 = t ∧ ¬ x < 0 ∧ x.toNatClampNeg < o.2.1 then some (o.2.2 x.toNatClampNeg) else none
    | _ => none
def so_si (r : Option Nat) (t : Nat) (x y : Int32) (st : st_S) : Option st_S := match r with
  | none => none
  | some a => match st.1 a with
    | some (.inl o) => if o.1 = t ∧ ¬ x < 0 ∧ x.toNatClampNeg < o.2.1 then some (st_up st a (.inl (o.1, o.2.1, upd o.2.2 x.toNatClampNeg y))) else none
    | _ => none
def so_lq (r : Option Nat) (ts : List Nat) (x : Int32) (st : st_S) : Option (Option Nat) := match r with
  | none => none
  | some a => match st.1 a with
    | some (.inr (.inl o)) => if o.1 ∈ ts ∧ ¬ x < 0 ∧ x.toNatClampNeg < o.2.1 then some (o.2.2 x.toNatClampNeg) else none
    | _ => none
/-- what is stored is null or an object of one of the classes cis -/
def so_is (st : st_S) (q : Option Nat) (cis : List Nat) : Bool := match q with
  | none => true
  | some b => match st.1 b with
    | some (.inr (.inr o)) => decide (o.1 ∈ cis)
    | _ => false
def so_sq (r : Option Nat) (ts : List Nat) (cis : List Nat) (x : Int32) (q : Option Nat) (st : st_S) : Option st_S := match r with
  | none => none
  | some a => match st.1 a with
    | some (.inr (.inl o)) => if o.1 ∈ ts ∧ ¬ x < 0 ∧ x.toNatClampNeg < o.2.1 ∧ so_is st q cis = true then some (st_up st a (.inr (.inl (o.1, o.2.1, va_up o.2.2 x.toNatClampNeg q)))) else none
    | _ => none
def so_n (r : Option Nat) (ts : List Nat) (st : st_S) : Option Int32 := match r with
  | none => none
  | some a => match st.1 a with
    | some (.inl o) => if o.1 ∈ ts then some (Int32.ofNat o.2.1) else none
    | some (.inr (.inl o)) => if o.1 ∈ ts then some (Int32.ofNat o.2.1) else none
    | _ => none
theorem so_g_some {st : st_S} {r : Option Nat} {cis : List Nat} {k : Nat} {v : Value} (h : so_g st r cis k = some v) : ∃ (a ci : Nat) (fs : List Value), r = some a ∧ st.1 a = some (.inr (.inr (ci, fs))) ∧ ci ∈ cis ∧ fs[k]? = some v := by
  unfold so_g at h
  split at h
  · cases h
  · rename_i a
    split at h
    · rename_i o ho
      obtain ⟨ci, fs⟩ := o
      split at h
      · rename_i hc
        exact ⟨a, ci, fs, rfl, ho, hc, h⟩
      · cases h
    · cases h
theorem so_gi_some {st : st_S} {r : Option Nat} {cis : List Nat} {k : Nat} {x : Int32} (h : so_gi r cis k st = some x) : so_g st r cis k = some (.int x) := by
  obtain ⟨v, h1, h2⟩ := Option.bind_eq_some_iff.mp h
  rw [h1]
  cases v <;> simp_all [so_vi]
theorem so_gq_some {st : st_S} {r : Option Nat} {cis : List Nat} {k : Nat} {x : Option Nat} (h : so_gq r cis k st = some x) : so_g st r cis k = some (va_rf x) := by
  obtain ⟨v, h1, h2⟩ := Option.bind_eq_some_iff.mp h
  rw [h1]
  cases v <;> simp_all [so_vq, va_rf] <;> (subst h2; rfl)
theorem so_p_some {st st' : st_S} {r : Option Nat} {cis : List Nat} {k : Nat} {v : Value} (h : so_p r cis k v st = some st') : ∃ (a ci : Nat) (fs : List Value), r = some a ∧ st.1 a = some (.inr (.inr (ci, fs))) ∧ ci ∈ cis ∧ k < fs.length ∧ st' = st_up st a (.inr (.inr (ci, fs.set k v))) := by
  unfold so_p at h
  split at h
  · cases h
  · rename_i a
    split at h
    · rename_i o ho
      obtain ⟨ci, fs⟩ := o
      split at h
      · rename_i hc
        exact ⟨a, ci, fs, rfl, ho, hc.1, hc.2, (Option.some.inj h).symm⟩
      · cases h
    · cases h
theorem so_c_some {st : st_S} {r : Option Nat} {ci : Nat} (h : so_c r st = some ci) : ∃ (a : Nat) (fs : List Value), r = some a ∧ st.1 a = some (.inr (.inr (ci, fs))) := by
  unfold so_c at h
  split at h
  · cases h
  · rename_i a
    split at h
    · rename_i o ho
      obtain ⟨cj, fs⟩ := o
      cases h
      exact ⟨a, fs, rfl, ho⟩
    · cases h
theorem so_li_some {st : st_S} {r : Option Nat} {t : Nat} {x y : Int32} (h : so_li r t x st = some y) : ∃ (a n : Nat) (f : Nat → Int32), r = some a ∧ st.1 a = some (.inl (t, n, f)) ∧ vp_in x n ∧ y = f x.toNatClampNeg := by
  unfold so_li at h
  split at h
  · cases h
  · rename_i a
    split at h
    · rename_i o ho
      obtain ⟨t', n, f⟩ := o
      split at h
      · rename_i hc
        obtain ⟨rfl, h1, h2⟩ := hc
        exact ⟨a, n, f, rfl, ho, fun z => z.elim h1 (fun z => Nat.not_le.mpr h2 z), (Option.some.inj h).symm⟩
      · cases h
    · cases h
theorem so_si_some {st st' : st_S} {r : Option Nat} {t : Nat} {x y : Int32} (h : so_si r t x y st = some st') : ∃ (a n : Nat) (f : Nat → Int32), r = some a ∧ st.1 a = some (.inl (t, n, f)) ∧ vp_in x n ∧ st' = st_up st a (.inl (t, n, upd f x.toNatClampNeg y)) := by
  unfold so_si at h
  split at h
  · cases h
  · rename_i a
    split at h
    · rename_i o ho
      obtain ⟨t', n, f⟩ := o
      split at h
      · rename_i hc
        obtain ⟨rfl, h1, h2⟩ := hc
        exact ⟨a, n, f, rfl, ho, fun z => z.elim h1 (fun z => Nat.not_le.mpr h2 z), (Option.some.inj h).symm⟩
      · cases h
    · cases h
theorem so_lq_some {st : st_S} {r : Option Nat} {ts : List Nat} {x : Int32} {y : Option Nat} (h : so_lq r ts x st = some y) : ∃ (a t n : Nat) (f : Nat → Option Nat), r = some a ∧ st.1 a = some (.inr (.inl (t, n, f))) ∧ t ∈ ts ∧ vp_in x n ∧ y = f x.toNatClampNeg := by
  unfold so_lq at h
  split at h
  · cases h
  · rename_i a
    split at h
    · rename_i o ho
      obtain ⟨t', n, f⟩ := o
      split at h
      · rename_i hc
        obtain ⟨h0, h1, h2⟩ := hc
        exact ⟨a, t', n, f, rfl, ho, h0, fun z => z.elim h1 (fun z => Nat.not_le.mpr h2 z), (Option.some.inj h).symm⟩
      · cases h
    · cases h
theorem so_sq_some {st st' : st_S} {r : Option Nat} {ts cis : List Nat} {x : Int32} {q : Option Nat} (h : so_sq r ts cis x q st = some st') : ∃ (a t n : Nat) (f : Nat → Option Nat), r = some a ∧ st.1 a = some (.inr (.inl (t, n, f))) ∧ t ∈ ts ∧ vp_in x n ∧ so_is st q cis = true ∧ st' = st_up st a (.inr (.inl (t, n, va_up f x.toNatClampNeg q))) := by
  unfold so_sq at h
  split at h
  · cases h
  · rename_i a
    split at h
    · rename_i o ho
      obtain ⟨t', n, f⟩ := o
      split at h
      · rename_i hc
        obtain ⟨h0, h1, h2, h3⟩ := hc
        exact ⟨a, t', n, f, rfl, ho, h0, fun z => z.elim h1 (fun z => Nat.not_le.mpr h2 z), h3, (Option.some.inj h).symm⟩
      · cases h
    · cases h
theorem so_is_some {st : st_S} {b : Nat} {cis : List Nat} (h : so_is st (some b) cis = true) : ∃ (ci : Nat) (fs : List Value), st.1 b = some (.inr (.inr (ci, fs))) ∧ ci ∈ cis := by
  unfold so_is at h
  split at h
  · rename_i z
    cases z
  · rename_i b' z
    cases z
    split at h
    · rename_i o ho
      exact ⟨o.1, o.2, ho, of_decide_eq_true h⟩
    · cases h
