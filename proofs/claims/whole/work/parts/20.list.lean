/-! The JDK's list over stores: what it holds, and what its methods do. -/
/-- the list at la holds the addresses xs, in the row at ea of cap places (or in the empty row of all empty lists) -/
def lp_ (gl : gl_T) (st : st_S) (la ea cap : Nat) (xs : List Nat) (mc : Int32) : Prop :=
  st.1 la = some (.inr (.inr (6, [.ref ea, .int (nI xs.length), .int mc]))) ∧ la ≠ ea ∧ xs.length ≤ cap ∧ cap < 100000000 ∧ ((cap = 0 ∧ ea = gl.1) ∨ (0 < cap ∧ ea ≠ gl.1 ∧ st.1 ea = some (.inr (.inl (9, cap, fun i => xs[i]?)))))
theorem lp_keep {gl : gl_T} {st st' : st_S} {la ea cap : Nat} {xs : List Nat} {mc : Int32} (h : lp_ gl st la ea cap xs mc) (h1 : st'.1 la = st.1 la) (h2 : cap ≠ 0 → st'.1 ea = st.1 ea) : lp_ gl st' la ea cap xs mc := by
  obtain ⟨a1, a2, a3, a4, a5⟩ := h
  refine ⟨h1.trans a1, a2, a3, a4, ?_⟩
  rcases a5 with a5 | ⟨b1, b2, b3⟩
  · exact Or.inl a5
  · exact Or.inr ⟨b1, b2, (h2 (by omega)).trans b3⟩
section LST
variable {gl : gl_T} {st : st_S} {la ea cap : Nat} {xs : List Nat} {mc : Int32}
theorem li_size (h : lp_ gl st la ea cap xs mc) : al_size gl (some la) st = some (nI xs.length, st, 0, 0) := by
  unfold al_size
  exact ru_g _ (og_i h.1 (by simp) rfl) ru_r
theorem li_empty (h : lp_ gl st la ea cap xs mc) : al_isEmpty gl (some la) st = some (if xs = [] then 1 else 0, st, 0, 0) := by
  unfold al_isEmpty
  refine ru_g _ (og_i h.1 (by simp) rfl) ?_
  cases xs with
  | nil => exact ru_t (by decide) rfl
  | cons x t =>
    refine ru_f ?_ ?_
    · exact nI_ne0 (by simp) (by have := h.2.2.1; have := h.2.2.2.1; omega)
    · rfl
theorem li_check {i n : Nat} (hi : i < n) (hn : n < 2 ^ 31) : ob_checkIndex gl (nI i) (nI n) st = some (nI i, st, 0, 0) := by
  unfold ob_checkIndex
  refine ru_b (a := nI i) (st1 := st) (i1 := 0) (j1 := 0) (i2 := 0) (j2 := 0) ?_ rfl rfl rfl
  unfold pc_checkIndex
  exact ru_f (nI_pos (by omega)) (ru_t (nI_lt hi hn) rfl)
theorem li_get (h : lp_ gl st la ea cap xs mc) {i : Nat} (hi : i < xs.length) : al_get gl (some la) (nI i) st = some (xs[i]?, st, 0, 0) := by
  obtain ⟨a1, a2, a3, a4, a5⟩ := h
  rcases a5 with a5 | ⟨b1, b2, b3⟩
  · omega
  unfold al_get
  refine ru_g _ (og_i a1 (by simp) rfl) ?_
  refine ru_b (i2 := 0) (j2 := 0) (li_check hi (by omega)) ?_ rfl rfl
  refine ru_g _ (og_m a1 (by simp)) ?_
  refine ru_b (a := xs[i]?) (st1 := st) (i1 := 0) (j1 := 0) (i2 := 0) (j2 := 0) ?_ rfl rfl rfl
  unfold al_elementData
  refine ru_g _ (og_q (q := some ea) a1 (by simp) rfl) ?_
  exact ru_g _ (og_lq b3 (by simp) (by omega) (by omega)) ru_r
/-- the front is taken off -/
theorem li_remove {x : Nat} {t : List Nat} (h : lp_ gl st la ea cap (x :: t) mc) (hel : ∀ q ∈ t, so_is st (some q) [8, 9] = true) (hla : ∀ q ∈ t, q ≠ la) :
    ∃ st', al_remove gl (some la) (nI 0) st = some (some x, st', 0, 0) ∧ lp_ gl st' la ea cap t (mc + 1) ∧ st'.2 = st.2 ∧ ∀ a, a ≠ la → a ≠ ea → st'.1 a = st.1 a := by
  obtain ⟨a1, a2, a3, a4, a5⟩ := h
  simp only [List.length_cons] at a1 a3
  rcases a5 with a5 | ⟨b1, b2, b3⟩
  · omega
  -- modCount, (the copy,) size, null
  have hsub : nI (t.length + 1) - 1 = nI t.length := nI_pred _
  let s1 : st_S := st_up st la (.inr (.inr (6, [.ref ea, .int (nI (t.length + 1)), .int (mc + 1)])))
  have h1 : s1.1 la = some (.inr (.inr (6, [.ref ea, .int (nI (t.length + 1)), .int (mc + 1)]))) := up_s
  have h1e : s1.1 ea = some (.inr (.inl (9, cap, fun i => (x :: t)[i]?))) := (up_n (Ne.symm a2)).trans b3
  let f2 : Nat → Option Nat := if t.length = 0 then (fun i => (x :: t)[i]?) else va_cpy (fun i => (x :: t)[i]?) (fun i => (x :: t)[i]?) 1 0 t.length
  let s2 : st_S := if t.length = 0 then s1 else st_up s1 ea (.inr (.inl (9, cap, f2)))
  have h2 : s2.1 la = some (.inr (.inr (6, [.ref ea, .int (nI (t.length + 1)), .int (mc + 1)]))) := by
    show (if t.length = 0 then s1 else st_up s1 ea _).1 la = _
    split
    · exact h1
    · exact (up_n a2).trans h1
  have h2e : s2.1 ea = some (.inr (.inl (9, cap, f2))) := by
    show (if t.length = 0 then s1 else st_up s1 ea _).1 ea = _
    split
    · rename_i hz
      have e9 : f2 = fun i => (x :: t)[i]? := if_pos hz
      rw [h1e, e9]
    · exact up_s
  let s3 : st_S := st_up s2 la (.inr (.inr (6, [.ref ea, .int (nI t.length), .int (mc + 1)])))
  have h3e : s3.1 ea = some (.inr (.inl (9, cap, f2))) := (up_n (Ne.symm a2)).trans h2e
  let s4 : st_S := st_up s3 ea (.inr (.inl (9, cap, va_up f2 t.length none)))
  have hend : al_fastRemove_b34 gl (some la) (some ea) (nI t.length) s2 = some ((), s4, 0, 0) := by
    unfold al_fastRemove_b34
    refine ru_w s3 (og_p h2 (by simp) (by simp)) ?_
    exact ru_w s4 (og_sq h3e (by simp) (by omega) (by omega) rfl) ru_r
  have hf : al_fastRemove gl (some la) (some ea) (nI 0) st = some ((), s4, 0, 0) := by
    unfold al_fastRemove
    refine ru_g _ (og_i a1 (by simp) rfl) ?_
    refine ru_w s1 (og_p a1 (by simp) (by simp)) ?_
    refine ru_g _ (og_i h1 (by simp) rfl) ?_
    rw [hsub]
    by_cases hz : t.length = 0
    · have e2 : s2 = s1 := if_pos hz
      rw [e2] at hend
      exact ru_t (by rw [hz]; decide) hend
    · refine ru_f (nI_nle (by omega) (by omega)) ?_
      have e0 : nI 0 + 1 = nI 1 := nI_1 0
      have e1 : nI t.length - nI 0 = nI t.length := by rw [pk_sub (Nat.zero_le _)]; rfl
      rw [e0, e1]
      have e2 : s2 = st_up s1 ea (.inr (.inl (9, cap, f2))) := if_neg hz
      have e3 : f2 = va_cpy (fun i => (x :: t)[i]?) (fun i => (x :: t)[i]?) 1 0 t.length := if_neg hz
      refine ru_w s2 ?_ hend
      rw [e2, e3]
      refine og_cq h1e h1e (by omega) (by omega) (by omega) (by omega) (by omega) (by omega) (fun i hi => ?_)
      have e4 : (x :: t)[1 + i]? = some t[i] := by
        rw [Nat.add_comm]
        simp [hi]
      rw [e4]
      have hm : t[i] ∈ t := List.getElem_mem hi
      have h5 := hel _ hm
      obtain ⟨ci, fs, h6, h7⟩ := so_is_some h5
      exact og_is ((up_n (hla _ hm)).trans h6) h7
  refine ⟨s4, ?_, ⟨?_, a2, by omega, a4, Or.inr ⟨b1, b2, ?_⟩⟩, ?_, fun a ha hb => ?_⟩
  · unfold al_remove
    refine ru_g _ (og_i a1 (by simp) rfl) ?_
    refine ru_b (i2 := 0) (j2 := 0) (li_check (n := t.length + 1) (by omega) (by omega)) ?_ rfl rfl
    refine ru_g _ (og_q (q := some ea) a1 (by simp) rfl) ?_
    refine ru_g _ (og_lq b3 (by simp) (by omega) (by omega)) ?_
    refine ru_g _ (og_m a1 (by simp)) ?_
    exact ru_b hf rfl rfl rfl
  · exact (up_n a2).trans up_s
  · have e5 : va_up f2 t.length none = fun i => t[i]? := by
      funext i
      by_cases hi : i = t.length
      · subst hi
        simp [va_up]
      · simp only [va_up, hi, if_false]
        show (if t.length = 0 then (fun i => (x :: t)[i]?) else va_cpy _ _ 1 0 t.length) i = _
        split
        · rename_i hz
          have ht : t = [] := List.length_eq_zero_iff.mp hz
          subst ht
          simp at hi
          cases i with
          | zero => exact absurd rfl hi
          | succ j => simp
        · by_cases hlt : i < t.length
          · rw [pk_cpy_in (Nat.zero_le _) (by omega)]
            rw [show 1 + (i - 0) = i + 1 by omega]
            simp
          · rw [pk_cpy_out (Or.inr (by omega))]
            rw [List.getElem?_eq_none (by simp; omega), List.getElem?_eq_none (by omega)]
    rw [← e5]
    exact up_s
  · show s2.2 = st.2
    show (if t.length = 0 then s1 else st_up s1 ea _).2 = _
    split <;> rfl
  · show (st_up s3 ea _).1 a = _
    rw [up_n hb]
    show (st_up s2 la _).1 a = _
    rw [up_n ha]
    show (if t.length = 0 then s1 else st_up s1 ea _).1 a = _
    split
    · exact up_n ha
    · rw [up_n hb]
      exact up_n ha
end LST
