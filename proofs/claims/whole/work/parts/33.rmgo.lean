/-! The reference's go. -/
/-- what is lost so far in this call, oldest first -/
def rx_ (lost : List Nat) (M : ms_S) : Prop := M.1 30 = nI lost.length ∧ lost.length ≤ 100 ∧ ∀ k q, lost[k]? = some q → M.2 31 k = nI q
/-- numbers of entities: homes are vats, what they are settled to is an entity or none -/
def zw_e (Z : zz_S) : Prop := ∀ e, e ≤ 200 → zh_ Z e < 4 ∧ et_ (ze_ Z e) ≤ 200
theorem pn_be {α β : Type} {M M1 : ms_S} {f : pm_M α} {k : α → pm_M β} {a : α} (h : f M = some (a, M1)) : pb_ f k M = k a M1 := by rw [pb_, h]; rfl
theorem pn_ge {α β : Type} {M : ms_S} {f : ms_S → Option α} {k : α → pm_M β} {a : α} (h : f M = some a) : pg_ f k M = k a M := by rw [pg_, h]; rfl
section RMI
variable {Z Z' : zz_S} {M M' : ms_S} {lost : List Nat}
theorem rx_f (h : rx_ lost M) (h1 : M'.1 30 = M.1 30) (h2 : M'.2 31 = M.2 31) : rx_ lost M' := by
  unfold rx_ at *
  rw [h1, h2]
  exact h
theorem z_follow_le (hz : zw_e Z) {h : Nat} : ∀ (n t : Nat), t ≤ 200 → z_follow Z h n t ≤ 200
  | 0, t, ht => ht
  | n + 1, t, ht => by
    unfold z_follow
    split
    · exact z_follow_le hz n _ (hz t ht).2
    · exact ht
theorem pm_go_it (he : rm_e Z M) (hz : zw_e Z) {h : Nat} (hh : h < 4) {x3 x4 x5 : Int32} : ∀ (n k t fuel : Nat), k + n = 101 → n < fuel → t ≤ 200 →
    pt_ (fun rec6 => (fun x : Int32 × Int32 × Int32 × Int32 × Int32 × Int32 => pm_go_b6 rec6 x.1 x.2.1 x.2.2.1 x.2.2.2.1 x.2.2.2.2.1 x.2.2.2.2.2)) fuel (nI h, x3, x4, x5, nI t, nI k) M = pm_go_b38 (nI h) x3 x4 x5 (nI (z_follow Z h n t)) M := by
  intro n
  induction n with
  | zero =>
    intro k t fuel hk hf ht
    obtain ⟨m, rfl⟩ : ∃ m, fuel = m + 1 := ⟨fuel - 1, by omega⟩
    show pm_go_b6 _ (nI h) x3 x4 x5 (nI t) (nI k) M = _
    unfold pm_go_b6
    have hlt : (100 : Int32) < nI k := show nI 100 < nI k from nI_lt (by omega) (by omega)
    rw [if_pos hlt]
    rfl
  | succ n ih =>
    intro k t fuel hk hf ht
    obtain ⟨m, rfl⟩ : ∃ m, fuel = m + 1 := ⟨fuel - 1, by omega⟩
    have hp := pm_passes_ok he hh ht (hz t ht).1
    show pm_go_b6 _ (nI h) x3 x4 x5 (nI t) (nI k) M = _
    unfold pm_go_b6
    have hlt : ¬ (100 : Int32) < nI k := show ¬ nI 100 < nI k from nI_nlt (by omega) (by omega)
    rw [if_neg hlt]
    rw [pn_be hp]
    unfold z_follow
    cases hc : zk_pass Z h t with
    | false =>
      rw [if_pos (by decide), if_neg (by decide)]
    | true =>
      rw [if_neg (by decide), if_pos rfl]
      rw [pn_ge (po_l (show t < (mr_ 9).2 by show t < 201; omega)), (he t ht).2.2.2.1]
      show pt_ _ m (nI h, x3, x4, x5, nI (et_ (ze_ Z t)), nI k + 1) M = _
      rw [nI_1]
      exact ih (k + 1) _ m (by omega) (by omega) (hz t ht).2
theorem pm_go_b72_ok (h : ri_ Z M) (hx : rx_ lost M) {q : Nat} (hq : q ≤ 200) (hr : lost.length < 100) : ∃ M', pm_go_b72 (nI q) M = some ((), M') ∧ ri_ Z M' ∧ rx_ (if 0 < q then lost ++ [q] else lost) M' ∧ ∀ k, k ≠ 30 → M'.1 k = M.1 k := by
  obtain ⟨h1, h2, h3, h4, h5, h6⟩ := h
  obtain ⟨x1, x2, x3⟩ := hx
  have hi : lost.length < (mr_ 31).2 := by show lost.length < 101; omega
  have stay : ∀ y : Int32, ri_ Z (pu_s (pu_a M 31 lost.length (nI q)) 30 y) := by
    intro y
    have e1 : ∀ k, k ≠ 30 → (pu_s (pu_a M 31 lost.length (nI q)) 30 y).1 k = M.1 k := fun k hk => by simp [pu_s, pu_a, upd, hk]
    have e2 : ∀ k, k ≠ 31 → (pu_s (pu_a M 31 lost.length (nI q)) 30 y).2 k = M.2 k := fun k hk => by simp [pu_s, pu_a, hk]
    refine ⟨fr_n h1 rfl (e1 _ (by decide)) (e1 _ (by decide)) (e1 _ (by decide)), fr_g h2 rfl ?_ ?_ ?_, fr_e h3 rfl ?_ ?_ ?_ ?_ ?_ ?_ ?_ ?_ ?_ ?_, fr_r h4 rfl (e1 _ (by decide)) ?_ ?_ ?_ ?_ ?_, fr_l h5 rfl (e1 _ (by decide)) ?_ ?_ ?_ ?_ ?_, fr_t h6 rfl ?_ ?_⟩ <;> exact e2 _ (by decide)
  have o1 : ∀ (y : Int32) (k : Nat), k ≠ 30 → (pu_s (pu_a M 31 lost.length (nI q)) 30 y).1 k = M.1 k := fun y k hk => by simp [pu_s, pu_a, upd, hk]
  by_cases h0 : 0 < q
  · refine ⟨pu_s (pu_a M 31 lost.length (nI q)) 30 (nI (lost.length + 1)), ?_, stay _, ?_, o1 _⟩
    · unfold pm_go_b72
      refine pn_g _ rfl ?_
      rw [x1]
      refine pn_w _ (po_s hi) ?_
      refine pn_f (nI_nle h0 (by omega)) ?_
      refine pn_g _ rfl ?_
      rw [pa_1, x1, nI_1]
      unfold pm_go_b102
      exact pn_w _ rfl rfl
    · rw [if_pos h0]
      refine ⟨by rw [ps_s]; simp, by simp; omega, fun k r hk => ?_⟩
      by_cases hkn : k = lost.length
      · subst hkn
        rw [List.getElem?_append_right (Nat.le_refl _)] at hk
        simp at hk
        subst hk
        simp [pu_s, pu_a, upd]
      · have hlt : k < lost.length := by
          have := (List.getElem?_eq_some_iff.mp hk).1
          simp at this
          omega
        rw [List.getElem?_append_left hlt] at hk
        rw [ps_a, pa_n (Or.inr hkn)]
        exact x3 k r hk
  · have hq0 : q = 0 := by omega
    subst hq0
    refine ⟨pu_s (pu_a M 31 lost.length (nI 0)) 30 (nI lost.length), ?_, stay _, ?_, o1 _⟩
    · unfold pm_go_b72
      refine pn_g _ rfl ?_
      rw [x1]
      refine pn_w _ (po_s hi) ?_
      refine pn_t (by decide) ?_
      refine pn_g _ rfl ?_
      rw [pa_1, x1]
      unfold pm_go_b102
      exact pn_w _ rfl rfl
    · rw [if_neg h0]
      refine ⟨by rw [ps_s], by omega, fun k r hk => ?_⟩
      have hlt : k < lost.length := (List.getElem?_eq_some_iff.mp hk).1
      rw [ps_a, pa_n (Or.inr (by omega))]
      exact x3 k r hk
end RMI
