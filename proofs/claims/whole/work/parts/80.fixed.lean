/-! lists of types and classes, by their numbers -/
theorem tl_0 (ac : Nat → ClassId) : ∀ t ∈ ([0] : List Nat), ∃ E : FieldType, (ty_ ac)[t]? = some (ac t, E) := by
  intro t h
  rw [List.mem_singleton.mp h]
  exact ⟨_, rfl⟩
theorem tl_1 (ac : Nat → ClassId) : ∀ t ∈ ([1] : List Nat), ∃ E : FieldType, (ty_ ac)[t]? = some (ac t, E) := by
  intro t h
  rw [List.mem_singleton.mp h]
  exact ⟨_, rfl⟩
theorem tl_2 (ac : Nat → ClassId) : ∀ t ∈ ([2] : List Nat), ∃ E : FieldType, (ty_ ac)[t]? = some (ac t, E) := by
  intro t h
  rw [List.mem_singleton.mp h]
  exact ⟨_, rfl⟩
theorem tl_3 (ac : Nat → ClassId) : ∀ t ∈ ([3] : List Nat), ∃ E : FieldType, (ty_ ac)[t]? = some (ac t, E) := by
  intro t h
  rw [List.mem_singleton.mp h]
  exact ⟨_, rfl⟩
theorem tl_4 (ac : Nat → ClassId) : ∀ t ∈ ([4] : List Nat), ∃ E : FieldType, (ty_ ac)[t]? = some (ac t, E) := by
  intro t h
  rw [List.mem_singleton.mp h]
  exact ⟨_, rfl⟩
theorem tq_4 (ac : Nat → ClassId) : ∀ t ∈ ([4] : List Nat), ∃ E : String, (ty_ ac)[t]? = some (ac t, .object E) := by
  intro t h
  rw [List.mem_singleton.mp h]
  exact ⟨_, rfl⟩
theorem ta_4 {D : va_G} {ac : Nat → ClassId} {a0 : Nat} {gl : gl_T} {s : State} (hKs : kn_ D ac a0 gl s) : ∀ t ∈ ([4] : List Nat), ∃ E : String, (ty_ ac)[t]? = some (ac t, .object E) ∧ ∀ ci ∈ ([5] : List Nat), ∃ q : vw_C, cl_[ci]? = some q ∧ ∀ comp c0 : ClassId, s.vm.findClass E = some comp → s.vm.findClass q.1 = some c0 → s.vm.assignable c0 comp = true := by
  intro t h
  rw [List.mem_singleton.mp h]
  refine ⟨"PromiseVats$Vat", rfl, fun ci h2 => ?_⟩
  simp only [List.mem_cons, List.not_mem_nil, or_false] at h2
  rcases h2 with rfl
  · exact ⟨_, rfl, as_of hKs (ci := 5) rfl (Or.inl rfl)⟩
theorem to_4 {D : va_G} {ac : Nat → ClassId} {a0 : Nat} {gl : gl_T} {s : State} (hKs : kn_ D ac a0 gl s) : va_AO "PromiseVats$Vat" s := hKs.2.2.2.1 _ (by decide +kernel)
theorem tl_5 (ac : Nat → ClassId) : ∀ t ∈ ([5] : List Nat), ∃ E : FieldType, (ty_ ac)[t]? = some (ac t, E) := by
  intro t h
  rw [List.mem_singleton.mp h]
  exact ⟨_, rfl⟩
theorem tq_5 (ac : Nat → ClassId) : ∀ t ∈ ([5] : List Nat), ∃ E : String, (ty_ ac)[t]? = some (ac t, .object E) := by
  intro t h
  rw [List.mem_singleton.mp h]
  exact ⟨_, rfl⟩
theorem ta_5 {D : va_G} {ac : Nat → ClassId} {a0 : Nat} {gl : gl_T} {s : State} (hKs : kn_ D ac a0 gl s) : ∀ t ∈ ([5] : List Nat), ∃ E : String, (ty_ ac)[t]? = some (ac t, .object E) ∧ ∀ ci ∈ ([2] : List Nat), ∃ q : vw_C, cl_[ci]? = some q ∧ ∀ comp c0 : ClassId, s.vm.findClass E = some comp → s.vm.findClass q.1 = some c0 → s.vm.assignable c0 comp = true := by
  intro t h
  rw [List.mem_singleton.mp h]
  refine ⟨"PromiseVats$Program", rfl, fun ci h2 => ?_⟩
  simp only [List.mem_cons, List.not_mem_nil, or_false] at h2
  rcases h2 with rfl
  · exact ⟨_, rfl, as_of hKs (ci := 2) rfl (Or.inl rfl)⟩
theorem to_5 {D : va_G} {ac : Nat → ClassId} {a0 : Nat} {gl : gl_T} {s : State} (hKs : kn_ D ac a0 gl s) : va_AO "PromiseVats$Program" s := hKs.2.2.2.1 _ (by decide +kernel)
theorem tl_6 (ac : Nat → ClassId) : ∀ t ∈ ([6] : List Nat), ∃ E : FieldType, (ty_ ac)[t]? = some (ac t, E) := by
  intro t h
  rw [List.mem_singleton.mp h]
  exact ⟨_, rfl⟩
theorem tq_6 (ac : Nat → ClassId) : ∀ t ∈ ([6] : List Nat), ∃ E : String, (ty_ ac)[t]? = some (ac t, .object E) := by
  intro t h
  rw [List.mem_singleton.mp h]
  exact ⟨_, rfl⟩
theorem ta_6 {D : va_G} {ac : Nat → ClassId} {a0 : Nat} {gl : gl_T} {s : State} (hKs : kn_ D ac a0 gl s) : ∀ t ∈ ([6] : List Nat), ∃ E : String, (ty_ ac)[t]? = some (ac t, .object E) ∧ ∀ ci ∈ ([3, 4] : List Nat), ∃ q : vw_C, cl_[ci]? = some q ∧ ∀ comp c0 : ClassId, s.vm.findClass E = some comp → s.vm.findClass q.1 = some c0 → s.vm.assignable c0 comp = true := by
  intro t h
  rw [List.mem_singleton.mp h]
  refine ⟨"PromiseVats$Entity", rfl, fun ci h2 => ?_⟩
  simp only [List.mem_cons, List.not_mem_nil, or_false] at h2
  rcases h2 with rfl | rfl
  · exact ⟨_, rfl, as_of hKs (ci := 3) rfl (Or.inr (by decide +kernel))⟩
  · exact ⟨_, rfl, as_of hKs (ci := 4) rfl (Or.inr (by decide +kernel))⟩
theorem to_6 {D : va_G} {ac : Nat → ClassId} {a0 : Nat} {gl : gl_T} {s : State} (hKs : kn_ D ac a0 gl s) : va_AO "PromiseVats$Entity" s := hKs.2.2.2.1 _ (by decide +kernel)
theorem tl_7 (ac : Nat → ClassId) : ∀ t ∈ ([7] : List Nat), ∃ E : FieldType, (ty_ ac)[t]? = some (ac t, E) := by
  intro t h
  rw [List.mem_singleton.mp h]
  exact ⟨_, rfl⟩
theorem tq_7 (ac : Nat → ClassId) : ∀ t ∈ ([7] : List Nat), ∃ E : String, (ty_ ac)[t]? = some (ac t, .object E) := by
  intro t h
  rw [List.mem_singleton.mp h]
  exact ⟨_, rfl⟩
theorem ta_7 {D : va_G} {ac : Nat → ClassId} {a0 : Nat} {gl : gl_T} {s : State} (hKs : kn_ D ac a0 gl s) : ∀ t ∈ ([7] : List Nat), ∃ E : String, (ty_ ac)[t]? = some (ac t, .object E) ∧ ∀ ci ∈ ([4] : List Nat), ∃ q : vw_C, cl_[ci]? = some q ∧ ∀ comp c0 : ClassId, s.vm.findClass E = some comp → s.vm.findClass q.1 = some c0 → s.vm.assignable c0 comp = true := by
  intro t h
  rw [List.mem_singleton.mp h]
  refine ⟨"PromiseVats$Promise", rfl, fun ci h2 => ?_⟩
  simp only [List.mem_cons, List.not_mem_nil, or_false] at h2
  rcases h2 with rfl
  · exact ⟨_, rfl, as_of hKs (ci := 4) rfl (Or.inl rfl)⟩
theorem to_7 {D : va_G} {ac : Nat → ClassId} {a0 : Nat} {gl : gl_T} {s : State} (hKs : kn_ D ac a0 gl s) : va_AO "PromiseVats$Promise" s := hKs.2.2.2.1 _ (by decide +kernel)
theorem tl_8 (ac : Nat → ClassId) : ∀ t ∈ ([8] : List Nat), ∃ E : FieldType, (ty_ ac)[t]? = some (ac t, E) := by
  intro t h
  rw [List.mem_singleton.mp h]
  exact ⟨_, rfl⟩
theorem tq_8 (ac : Nat → ClassId) : ∀ t ∈ ([8] : List Nat), ∃ E : String, (ty_ ac)[t]? = some (ac t, .object E) := by
  intro t h
  rw [List.mem_singleton.mp h]
  exact ⟨_, rfl⟩
theorem ta_8 {D : va_G} {ac : Nat → ClassId} {a0 : Nat} {gl : gl_T} {s : State} (hKs : kn_ D ac a0 gl s) : ∀ t ∈ ([8] : List Nat), ∃ E : String, (ty_ ac)[t]? = some (ac t, .object E) ∧ ∀ ci ∈ ([7] : List Nat), ∃ q : vw_C, cl_[ci]? = some q ∧ ∀ comp c0 : ClassId, s.vm.findClass E = some comp → s.vm.findClass q.1 = some c0 → s.vm.assignable c0 comp = true := by
  intro t h
  rw [List.mem_singleton.mp h]
  refine ⟨"PromiseVats$Channel", rfl, fun ci h2 => ?_⟩
  simp only [List.mem_cons, List.not_mem_nil, or_false] at h2
  rcases h2 with rfl
  · exact ⟨_, rfl, as_of hKs (ci := 7) rfl (Or.inl rfl)⟩
theorem to_8 {D : va_G} {ac : Nat → ClassId} {a0 : Nat} {gl : gl_T} {s : State} (hKs : kn_ D ac a0 gl s) : va_AO "PromiseVats$Channel" s := hKs.2.2.2.1 _ (by decide +kernel)
theorem tl_9 (ac : Nat → ClassId) : ∀ t ∈ ([9] : List Nat), ∃ E : FieldType, (ty_ ac)[t]? = some (ac t, E) := by
  intro t h
  rw [List.mem_singleton.mp h]
  exact ⟨_, rfl⟩
theorem tq_9 (ac : Nat → ClassId) : ∀ t ∈ ([9] : List Nat), ∃ E : String, (ty_ ac)[t]? = some (ac t, .object E) := by
  intro t h
  rw [List.mem_singleton.mp h]
  exact ⟨_, rfl⟩
theorem ta_9 {D : va_G} {ac : Nat → ClassId} {a0 : Nat} {gl : gl_T} {s : State} (hKs : kn_ D ac a0 gl s) : ∀ t ∈ ([9] : List Nat), ∃ E : String, (ty_ ac)[t]? = some (ac t, .object E) ∧ ∀ ci ∈ ([8, 9] : List Nat), ∃ q : vw_C, cl_[ci]? = some q ∧ ∀ comp c0 : ClassId, s.vm.findClass E = some comp → s.vm.findClass q.1 = some c0 → s.vm.assignable c0 comp = true := by
  intro t h
  rw [List.mem_singleton.mp h]
  refine ⟨"java/lang/Object", rfl, fun ci h2 => ?_⟩
  simp only [List.mem_cons, List.not_mem_nil, or_false] at h2
  rcases h2 with rfl | rfl
  · exact ⟨_, rfl, as_of hKs (ci := 8) rfl (Or.inr (by decide +kernel))⟩
  · exact ⟨_, rfl, as_of hKs (ci := 9) rfl (Or.inr (by decide +kernel))⟩
theorem to_9 {D : va_G} {ac : Nat → ClassId} {a0 : Nat} {gl : gl_T} {s : State} (hKs : kn_ D ac a0 gl s) : va_AO "java/lang/Object" s := hKs.2.2.2.1 _ (by decide +kernel)
theorem ti_O_y {D : va_G} {ac : Nat → ClassId} {a0 : Nat} {gl : gl_T} {s : State} (_hKs : kn_ D ac a0 gl s) : cy_ cl_ [3] "PromiseVats$VatObject" s := by
  intro ci h
  rw [List.mem_singleton.mp h]
  exact ⟨_, rfl, Or.inl rfl⟩
theorem ti_O_n {D : va_G} {ac : Nat → ClassId} {a0 : Nat} {gl : gl_T} {s : State} (hKs : kn_ D ac a0 gl s) : cn_ cl_ [4] "PromiseVats$VatObject" s := by
  intro ci h
  rw [List.mem_singleton.mp h]
  exact ⟨_, rfl, hKs.2.2.1 ("PromiseVats$Promise", "PromiseVats$VatObject") (by decide +kernel)⟩
theorem ti_Q_y {D : va_G} {ac : Nat → ClassId} {a0 : Nat} {gl : gl_T} {s : State} (_hKs : kn_ D ac a0 gl s) : cy_ cl_ [4] "PromiseVats$Promise" s := by
  intro ci h
  rw [List.mem_singleton.mp h]
  exact ⟨_, rfl, Or.inl rfl⟩
theorem ti_Q_n {D : va_G} {ac : Nat → ClassId} {a0 : Nat} {gl : gl_T} {s : State} (hKs : kn_ D ac a0 gl s) : cn_ cl_ [3] "PromiseVats$Promise" s := by
  intro ci h
  rw [List.mem_singleton.mp h]
  exact ⟨_, rfl, hKs.2.2.1 ("PromiseVats$VatObject", "PromiseVats$Promise") (by decide +kernel)⟩
theorem ti_C_y {D : va_G} {ac : Nat → ClassId} {a0 : Nat} {gl : gl_T} {s : State} (_hKs : kn_ D ac a0 gl s) : cy_ cl_ [8] "PromiseVats$Call" s := by
  intro ci h
  rw [List.mem_singleton.mp h]
  exact ⟨_, rfl, Or.inl rfl⟩
theorem ti_M_y {D : va_G} {ac : Nat → ClassId} {a0 : Nat} {gl : gl_T} {s : State} (_hKs : kn_ D ac a0 gl s) : cy_ cl_ [9] "PromiseVats$Message" s := by
  intro ci h
  rw [List.mem_singleton.mp h]
  exact ⟨_, rfl, Or.inl rfl⟩
