/-! The JDK's list: clear, and a new one. -/
section LSC
variable {gl : gl_T} {st : st_S} {la ea cap : Nat} {xs : List Nat} {mc : Int32}
theorem li_new (h : st.1 la = some (.inr (.inr (6, cd_6)))) (hla : la ≠ gl.1) : ∃ st', al_init gl (some la) st = some ((), st', 0, 0) ∧ lp_ gl st' la gl.1 0 [] 0 ∧ st'.2 = st.2 ∧ ∀ a, a ≠ la → st'.1 a = st.1 a := by
  let s1 : st_S := st_up st la (.inr (.inr (6, [.null, .int 0, .int 0])))
  have h1 : s1.1 la = some (.inr (.inr (6, [.null, .int 0, .int 0]))) := up_s
  refine ⟨st_up s1 la (.inr (.inr (6, [.ref gl.1, .int 0, .int 0]))), ?_, ⟨up_s, hla, Nat.le_refl _, by decide, Or.inl ⟨rfl, rfl⟩⟩, rfl, fun a ha => (up_n ha).trans (up_n ha)⟩
  unfold al_init
  refine ru_g _ (og_c h) ?_
  refine ru_b (a := ()) (st1 := s1) (i1 := 0) (j1 := 0) (i2 := 0) (j2 := 0) ?_ ?_ rfl rfl
  · unfold ab_init
    refine ru_g _ (og_c h) ?_
    refine ru_b (a := ()) (st1 := st) (i1 := 0) (j1 := 0) (i2 := 0) (j2 := 0) ?_ ?_ rfl rfl
    · unfold aq_init
      exact ru_g _ (og_c h) ru_r
    · exact ru_w s1 (og_p (fs := cd_6) h (by simp) (by decide)) ru_r
  · exact ru_w _ (og_p (v := .ref gl.1) h1 (by simp) (by simp)) ru_r
theorem li_null {n : Nat} (hn : n ≤ cap) (hc : cap < 100000000) : ∀ (d k fuel : Nat) (st : st_S) (f : Nat → Option Nat), n - k = d → k ≤ n → d < fuel → st.1 ea = some (.inr (.inl (9, cap, f))) →
    ∃ st', st_it (fun rec27 => (fun x : Option Nat × Int32 × Int32 => al_clear_b27 gl rec27 x.1 x.2.1 x.2.2)) fuel (some ea, nI n, nI k) st = some ((), st', 0, 0) ∧ st'.1 ea = some (.inr (.inl (9, cap, fun i => if k ≤ i ∧ i < n then none else f i))) ∧ st'.2 = st.2 ∧ ∀ a, a ≠ ea → st'.1 a = st.1 a := by
  intro d
  induction d with
  | zero =>
    intro k fuel st f hd hk hf h
    obtain ⟨m, rfl⟩ : ∃ m, fuel = m + 1 := ⟨fuel - 1, by omega⟩
    have hkn : k = n := by omega
    subst hkn
    refine ⟨st, ?_, ?_, rfl, fun _ _ => rfl⟩
    · show al_clear_b27 gl _ (some ea) (nI k) (nI k) st = _
      unfold al_clear_b27
      exact ru_t (nI_le (Nat.le_refl _) (by omega)) ru_r
    · rw [h]
      congr 5
      funext i
      rw [if_neg (by omega)]
  | succ d ih =>
    intro k fuel st f hd hk hf h
    obtain ⟨m, rfl⟩ : ∃ m, fuel = m + 1 := ⟨fuel - 1, by omega⟩
    obtain ⟨st', e1, e2, e3, e4⟩ := ih (k + 1) m (st_up st ea (.inr (.inl (9, cap, va_up f k none)))) (va_up f k none) (by omega) (by omega) (by omega) up_s
    refine ⟨st', ?_, ?_, e3, fun a ha => (e4 a ha).trans (up_n ha)⟩
    · show al_clear_b27 gl _ (some ea) (nI n) (nI k) st = _
      unfold al_clear_b27
      refine ru_f (nI_ge (by omega) (by omega)) ?_
      refine ru_w _ (og_sq h (by simp) (by omega) (by omega) rfl) ?_
      rw [nI_1]
      exact e1
    · rw [e2]
      congr 5
      funext i
      by_cases hi : i = k
      · subst hi
        rw [if_neg (by omega), if_pos (by omega)]
        simp [va_up]
      · by_cases hj : k + 1 ≤ i ∧ i < n
        · rw [if_pos hj, if_pos (by omega)]
        · rw [if_neg hj, if_neg (by omega)]
          simp [va_up, hi]
theorem li_clear (h : lp_ gl st la ea cap xs mc) (hn : xs.length < 4000) : ∃ st', al_clear gl (some la) st = some ((), st', 0, 0) ∧ lp_ gl st' la ea cap [] (mc + 1) ∧ st'.2 = st.2 ∧ ∀ a, a ≠ la → a ≠ ea → st'.1 a = st.1 a := by
  obtain ⟨a1, a2, a3, a4, a5⟩ := h
  let s1 : st_S := st_up st la (.inr (.inr (6, [.ref ea, .int (nI xs.length), .int (mc + 1)])))
  have h1 : s1.1 la = some (.inr (.inr (6, [.ref ea, .int (nI xs.length), .int (mc + 1)]))) := up_s
  let s2 : st_S := st_up s1 la (.inr (.inr (6, [.ref ea, .int 0, .int (mc + 1)])))
  have h2 : s2.1 la = some (.inr (.inr (6, [.ref ea, .int 0, .int (mc + 1)]))) := up_s
  have start : ∀ x, st_it (fun rec27 => (fun x : Option Nat × Int32 × Int32 => al_clear_b27 gl rec27 x.1 x.2.1 x.2.2)) fu_ (some ea, nI xs.length, nI 0) s2 = some x → al_clear gl (some la) st = some x := by
    intro x hx
    unfold al_clear
    refine ru_g _ (og_i a1 (by simp) rfl) ?_
    refine ru_w s1 (og_p a1 (by simp) (by simp)) ?_
    refine ru_g _ (og_q (q := some ea) h1 (by simp) rfl) ?_
    refine ru_g _ (og_i h1 (by simp) rfl) ?_
    exact ru_w s2 (og_p h1 (by simp) (by simp)) hx
  rcases a5 with ⟨c0, ce⟩ | ⟨b1, b2, b3⟩
  · have hx0 : xs = [] := List.length_eq_zero_iff.mp (by omega)
    subst hx0
    refine ⟨s2, start _ ?_, ⟨h2, a2, Nat.zero_le _, a4, Or.inl ⟨c0, ce⟩⟩, rfl, fun a ha _ => (up_n ha).trans (up_n ha)⟩
    show al_clear_b27 gl _ (some ea) (nI 0) (nI 0) s2 = _
    unfold al_clear_b27
    exact ru_t (by decide) ru_r
  · have h2e : s2.1 ea = some (.inr (.inl (9, cap, fun i => xs[i]?))) := (up_n (Ne.symm a2)).trans ((up_n (Ne.symm a2)).trans b3)
    obtain ⟨st', e1, e2, e3, e4⟩ := li_null (gl := gl) a3 a4 (xs.length - 0) 0 fu_ s2 (fun i => xs[i]?) rfl (Nat.zero_le _) (by unfold fu_; omega) h2e
    refine ⟨st', start _ e1, ⟨(e4 la a2).trans h2, a2, Nat.zero_le _, a4, Or.inr ⟨b1, b2, ?_⟩⟩, e3, fun a ha hb => (e4 a hb).trans ((up_n ha).trans (up_n ha))⟩
    rw [e2]
    congr 5
    funext i
    by_cases hi : i < xs.length
    · rw [if_pos ⟨Nat.zero_le _, hi⟩]
      simp
    · rw [if_neg (by omega), List.getElem?_eq_none (by omega)]
      simp
end LSC
