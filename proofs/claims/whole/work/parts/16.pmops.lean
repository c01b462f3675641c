/-! the reference's operations on stores that hold its picture -/
section PVB
variable {m0 : Nat} {am : Nat → Nat}
theorem ml_s {am : Nat → Nat} {sc : Nat → Int32} {k : Nat} (hk : k < 36) (ha : k ∉ mk_a) : (ml_ am sc)[k]? = some (.int (sc k)) := by
  unfold ml_
  rw [List.getElem?_map, List.getElem?_range hk]
  simp [ha]
theorem ml_a {am : Nat → Nat} {sc : Nat → Int32} {k : Nat} (hk : k < 36) (ha : k ∈ mk_a) : (ml_ am sc)[k]? = some (.ref (am k)) := by
  unfold ml_
  rw [List.getElem?_map, List.getElem?_range hk]
  simp [ha]
theorem mk_lt : ∀ k ∈ mk_a, k < 36 := by decide
theorem ml_set {am : Nat → Nat} {sc : Nat → Int32} {k : Nat} {v : Int32} (hk : k < 36) (ha : k ∉ mk_a) : (ml_ am sc).set k (.int v) = ml_ am (upd sc k v) := by
  apply List.ext_getElem?
  intro j
  by_cases hj : j < 36
  · by_cases hjk : j = k
    · subst hjk
      rw [List.getElem?_set_self (by unfold ml_; simp; exact hj), ml_s hj ha]
      simp [upd]
    · rw [List.getElem?_set_ne (Ne.symm hjk)]
      unfold ml_
      rw [List.getElem?_map, List.getElem?_map, List.getElem?_range hj]
      simp [upd, hjk]
  · rw [List.getElem?_eq_none (by unfold ml_; simp; omega), List.getElem?_eq_none (by unfold ml_; simp; omega)]
theorem mv_gi {k : Nat} (hk : k < 36) (ha : k ∉ mk_a) (M : ms_S) (st : st_S) (x : Int32) (h : mv_ m0 am M st) (hx : pi_ k M = some x) : so_gi (some m0) [10] k st = some x := by
  cases hx
  unfold so_gi so_g
  simp only [h.1]
  simp [ml_s hk ha, so_vi]
theorem mv_gq {k : Nat} (ha : k ∈ mk_a) (M : ms_S) (st : st_S) (h : mv_ m0 am M st) : so_gq (some m0) [10] k st = some (some (am k)) := by
  unfold so_gq so_g
  simp only [h.1]
  simp [ml_a (mk_lt k ha) ha, so_vq]
theorem mv_cm (M : ms_S) (st : st_S) (h : mv_ m0 am M st) : so_cm (some m0) [10] st = some 10 := by
  unfold so_cm
  simp only [h.1]
  simp
theorem mv_z {x : Int32} (M : ms_S) (st : st_S) (u : Unit) (_ : mv_ m0 am M st) (hx : pz_ x M = some u) : so_z x st = some u := hx
theorem mv_li {k t : Nat} (ha : k ∈ mk_a) (ht : (mr_ k).1 = t) {x : Int32} (M : ms_S) (st : st_S) (y : Int32) (h : mv_ m0 am M st) (hx : pl_ k x M = some y) : so_li (some (am k)) t x st = some y := by
  unfold pl_ at hx
  unfold so_li
  simp only [h.2.1 k ha]
  split at hx
  · rename_i hc
    rw [if_pos ⟨ht, hc⟩]
    exact hx
  · cases hx
theorem mv_si {k t : Nat} (ha : k ∈ mk_a) (ht : (mr_ k).1 = t) {x y : Int32} (M : ms_S) (st : st_S) (M1 : ms_S) (h : mv_ m0 am M st) (hx : ps_ k x y M = some M1) : ∃ st1, so_si (some (am k)) t x y st = some st1 ∧ mv_ m0 am M1 st1 ∧ st1.2 = st.2 ∧ ∀ a, mo_ m0 am a → st1.1 a = st.1 a := by
  unfold ps_ at hx
  split at hx
  · rename_i hc
    cases hx
    obtain ⟨h1, h2, h3, h4⟩ := h
    refine ⟨st_up st (am k) (.inl ((mr_ k).1, (mr_ k).2, upd (M.2 k) x.toNatClampNeg y)), ?_, ⟨?_, fun j hj => ?_, h3, h4⟩, rfl, fun a hm => ?_⟩
    · unfold so_si
      simp only [h2 k ha]
      rw [if_pos ⟨ht, hc⟩]
    · show (if m0 = am k then _ else st.1 m0) = _
      rw [if_neg (Ne.symm (h3 k ha))]
      exact h1
    · show (if am j = am k then _ else st.1 (am j)) = _
      by_cases hjk : j = k
      · subst hjk
        rw [if_pos rfl]
        simp [pu_a]
      · rw [if_neg (fun z => hjk (h4 j hj k ha z)), h2 j hj]
        simp [pu_a, hjk]
    · show (if a = am k then _ else st.1 a) = _
      rw [if_neg (hm.2 k ha)]
  · cases hx
theorem mv_p {k : Nat} (hk : k < 36) (ha : k ∉ mk_a) {v : Int32} (M : ms_S) (st : st_S) (M1 : ms_S) (h : mv_ m0 am M st) (hx : pp_ k v M = some M1) : ∃ st1, so_p (some m0) [10] k (.int v) st = some st1 ∧ mv_ m0 am M1 st1 ∧ st1.2 = st.2 ∧ ∀ a, mo_ m0 am a → st1.1 a = st.1 a := by
  cases hx
  obtain ⟨h1, h2, h3, h4⟩ := h
  refine ⟨st_up st m0 (.inr (.inr (10, (ml_ am M.1).set k (.int v)))), ?_, ⟨?_, fun j hj => ?_, h3, h4⟩, rfl, fun a hm => ?_⟩
  · unfold so_p
    simp only [h1]
    rw [if_pos ⟨by simp, by unfold ml_; simp; exact hk⟩]
  · show (if m0 = m0 then _ else st.1 m0) = _
    rw [if_pos rfl, ml_set hk ha]
    rfl
  · show (if am j = m0 then _ else st.1 (am j)) = _
    rw [if_neg (h3 j hj)]
    exact h2 j hj
  · show (if a = m0 then _ else st.1 a) = _
    rw [if_neg hm.1]
end PVB
