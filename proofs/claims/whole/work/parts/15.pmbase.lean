/-! The reference on its own picture: its scalars and its rows, by the numbers of its fields. -/
abbrev ms_S : Type := (Nat → Int32) × (Nat → Nat → Int32)
abbrev pm_M (α : Type) : Type := ms_S → Option (α × ms_S)
/-- a row's type and length, by its field's number; 0 for what is no row -/
def mr_ : Nat → Nat × Nat
  | 3 => (0, 8)
  | 4 => (0, 64)
  | 5 => (0, 64)
  | 6 => (1, 201)
  | 7 => (2, 201)
  | 8 => (2, 201)
  | 9 => (0, 201)
  | 10 => (2, 201)
  | 11 => (1, 61)
  | 12 => (0, 61)
  | 13 => (0, 244)
  | 15 => (0, 804)
  | 16 => (0, 804)
  | 17 => (0, 3216)
  | 19 => (0, 200)
  | 20 => (0, 200)
  | 21 => (0, 200)
  | 22 => (0, 200)
  | 23 => (0, 200)
  | 25 => (1, 2100)
  | 26 => (3, 2100)
  | 27 => (0, 2100)
  | 28 => (3, 2100)
  | 29 => (3, 2100)
  | 31 => (0, 101)
  | 32 => (0, 4)
  | 33 => (0, 40)
  | _ => (0, 0)
def mk_a : List Nat := [3, 4, 5, 6, 7, 8, 9, 10, 11, 12, 13, 15, 16, 17, 19, 20, 21, 22, 23, 25, 26, 27, 28, 29, 31, 32, 33]
def pr_ {α : Type} (a : α) : pm_M α := fun M => some (a, M)
def pg_ {α β : Type} (f : ms_S → Option α) (k : α → pm_M β) : pm_M β := fun M => (f M).bind (fun a => k a M)
def pw_ {β : Type} (f : ms_S → Option ms_S) (k : pm_M β) : pm_M β := fun M => (f M).bind k
def pb_ {α β : Type} (x : pm_M α) (f : α → pm_M β) : pm_M β := fun M => (x M).bind (fun q => f q.1 q.2)
def pt_ {α β : Type} (F : (α → pm_M β) → α → pm_M β) : Nat → α → pm_M β
  | 0 => fun _ _ => none
  | n + 1 => F (pt_ F n)
def pi_ (k : Nat) (M : ms_S) : Option Int32 := some (M.1 k)
def pz_ (x : Int32) (_ : ms_S) : Option Unit := if x = 0 ∨ x = 1 then some () else none
def pl_ (k : Nat) (x : Int32) (M : ms_S) : Option Int32 := if ¬ x < 0 ∧ x.toNatClampNeg < (mr_ k).2 then some (M.2 k x.toNatClampNeg) else none
def pu_s (M : ms_S) (k : Nat) (v : Int32) : ms_S := (upd M.1 k v, M.2)
def pu_a (M : ms_S) (k i : Nat) (v : Int32) : ms_S := (M.1, fun q => if q = k then upd (M.2 k) i v else M.2 q)
def pp_ (k : Nat) (v : Int32) (M : ms_S) : Option ms_S := some (pu_s M k v)
def ps_ (k : Nat) (x y : Int32) (M : ms_S) : Option ms_S := if ¬ x < 0 ∧ x.toNatClampNeg < (mr_ k).2 then some (pu_a M k x.toNatClampNeg y) else none
/-- the fields of the reference's object -/
def ml_ (am : Nat → Nat) (sc : Nat → Int32) : List Value := (List.range 36).map (fun k => if k ∈ mk_a then .ref (am k) else .int (sc k))
/-- the store holds the picture M: the object at m0, its rows at am -/
def mv_ (m0 : Nat) (am : Nat → Nat) (M : ms_S) (st : st_S) : Prop :=
  st.1 m0 = some (.inr (.inr (10, ml_ am M.1))) ∧ (∀ k ∈ mk_a, st.1 (am k) = some (.inl ((mr_ k).1, (mr_ k).2, M.2 k))) ∧ (∀ k ∈ mk_a, am k ≠ m0) ∧ ∀ k ∈ mk_a, ∀ j ∈ mk_a, am k = am j → k = j
/-- an address that is none of the reference's cells -/
def mo_ (m0 : Nat) (am : Nat → Nat) (a : Nat) : Prop := a ≠ m0 ∧ ∀ k ∈ mk_a, a ≠ am k
/-- the program f over stores does what g does on pictures, makes nothing and touches nothing else -/
def pv_ {β : Type} (m0 : Nat) (am : Nat → Nat) (f : st_M β) (g : pm_M β) : Prop :=
  ∀ (M : ms_S) (st : st_S), mv_ m0 am M st → ∀ (r : β) (M' : ms_S), g M = some (r, M') → ∃ st' : st_S, f st = some (r, st', 0, 0) ∧ mv_ m0 am M' st' ∧ st'.2 = st.2 ∧ ∀ a, mo_ m0 am a → st'.1 a = st.1 a
section PVA
variable {m0 : Nat} {am : Nat → Nat} {α β : Type}
theorem pv_r {a : β} : pv_ m0 am (st_r a) (pr_ a) := by
  intro M st hM r M' h
  cases h
  exact ⟨st, rfl, hM, rfl, fun _ _ => rfl⟩
/-- a read that both do alike -/
theorem pv_g {f : st_S → Option α} {f' : ms_S → Option α} {F : α → st_M β} {G : α → pm_M β} (hf : ∀ (M : ms_S) (st : st_S) (x : α), mv_ m0 am M st → f' M = some x → f st = some x) (h : ∀ x, pv_ m0 am (F x) (G x)) : pv_ m0 am (st_g f F) (pg_ f' G) := by
  intro M st hM r M' hg
  obtain ⟨x, h1, h2⟩ := Option.bind_eq_some_iff.mp hg
  obtain ⟨st', h3, h4⟩ := h x M st hM r M' h2
  exact ⟨st', by rw [st_g, hf M st x hM h1]; exact h3, h4⟩
/-- a read that the picture needn't -/
theorem pv_k {f : st_S → Option α} {F : α → st_M β} {G : pm_M β} (x : α) (hf : ∀ (M : ms_S) (st : st_S), mv_ m0 am M st → f st = some x) (h : pv_ m0 am (F x) G) : pv_ m0 am (st_g f F) G := by
  intro M st hM r M' hg
  obtain ⟨st', h3, h4⟩ := h M st hM r M' hg
  exact ⟨st', by rw [st_g, hf M st hM]; exact h3, h4⟩
theorem pv_w {f : st_S → Option st_S} {f' : ms_S → Option ms_S} {F : st_M β} {G : pm_M β} (hf : ∀ (M : ms_S) (st : st_S) (M1 : ms_S), mv_ m0 am M st → f' M = some M1 → ∃ st1, f st = some st1 ∧ mv_ m0 am M1 st1 ∧ st1.2 = st.2 ∧ ∀ a, mo_ m0 am a → st1.1 a = st.1 a) (h : pv_ m0 am F G) : pv_ m0 am (st_w f F) (pw_ f' G) := by
  intro M st hM r M' hg
  obtain ⟨M1, h1, h2⟩ := Option.bind_eq_some_iff.mp hg
  obtain ⟨st1, e1, e2, e3, e4⟩ := hf M st M1 hM h1
  obtain ⟨st', h3, h4, h5, h6⟩ := h M1 st1 e2 r M' h2
  exact ⟨st', by rw [st_w, e1]; exact h3, h4, h5.trans e3, fun a ha => (h6 a ha).trans (e4 a ha)⟩
theorem pv_b {f : st_M α} {g : pm_M α} {F : α → st_M β} {G : α → pm_M β} (h1 : pv_ m0 am f g) (h : ∀ x, pv_ m0 am (F x) (G x)) : pv_ m0 am (st_b f F) (pb_ g G) := by
  intro M st hM r M' hg
  obtain ⟨q, h2, h3⟩ := Option.bind_eq_some_iff.mp hg
  obtain ⟨st1, e1, e2, e3, e4⟩ := h1 M st hM q.1 q.2 h2
  obtain ⟨st', h4, h5, h6, h7⟩ := h q.1 q.2 st1 e2 r M' h3
  refine ⟨st', ?_, h5, h6.trans e3, fun a ha => (h7 a ha).trans (e4 a ha)⟩
  rw [st_b, e1]
  simp only [h4]
theorem pv_if {c : Prop} [Decidable c] {A B : st_M β} {A' B' : pm_M β} (h1 : pv_ m0 am A A') (h2 : pv_ m0 am B B') : pv_ m0 am (if c then A else B) (if c then A' else B') := by
  by_cases hc : c
  · rw [if_pos hc, if_pos hc]
    exact h1
  · rw [if_neg hc, if_neg hc]
    exact h2
theorem pv_it {τ : Type} {F : (α → st_M β) → α → st_M β} {G : (τ → pm_M β) → τ → pm_M β} (φ : τ → α) (h : ∀ (f : α → st_M β) (g : τ → pm_M β), (∀ x, pv_ m0 am (f (φ x)) (g x)) → ∀ x, pv_ m0 am (F f (φ x)) (G g x)) : ∀ (n : Nat) (x : τ), pv_ m0 am (st_it F n (φ x)) (pt_ G n x)
  | 0, _ => fun _ _ _ _ _ h => by cases h
  | n + 1, x => h _ _ (pv_it φ h n) x
end PVA
