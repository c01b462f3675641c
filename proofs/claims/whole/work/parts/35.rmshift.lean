/-! The reference's loops that close up: unrest, unmail; and oldest. -/
section RMK
variable {Z Z' : zz_S} {M M' : ms_S} {lost : List Nat}
theorem pm_unrest_it : ∀ (d k n fuel : Nat) (M : ms_S), n - k = d → k ≤ n → n < 200 → d < fuel → M.1 18 = nI n →
    ∃ M', pt_ (fun rec12 => (fun x : Int32 => pm_unrest_b12 rec12 x)) fuel (nI k) M = some ((), M') ∧ M'.1 = M.1 ∧ (∀ c, c < 19 ∨ 23 < c → M'.2 c = M.2 c) ∧ ∀ c, 19 ≤ c → c ≤ 23 → ∀ i, M'.2 c i = if k ≤ i ∧ i < n then M.2 c (i + 1) else M.2 c i := by
  intro d
  induction d with
  | zero =>
    intro k n fuel M hd hk hn hf h18
    obtain ⟨m, rfl⟩ : ∃ m, fuel = m + 1 := ⟨fuel - 1, by omega⟩
    refine ⟨M, ?_, rfl, fun _ _ => rfl, fun c _ _ i => by rw [if_neg (by omega)]⟩
    show pm_unrest_b12 _ (nI k) M = _
    unfold pm_unrest_b12
    refine pn_g _ rfl ?_
    rw [h18]
    exact pn_t (nI_le (by omega) (by omega)) rfl
  | succ d ih =>
    intro k n fuel M hd hk hn hf h18
    obtain ⟨m, rfl⟩ : ∃ m, fuel = m + 1 := ⟨fuel - 1, by omega⟩
    obtain ⟨N, hN⟩ : ∃ N, N = pu_a (pu_a (pu_a (pu_a (pu_a M 19 k (M.2 19 (k + 1))) 20 k (M.2 20 (k + 1))) 21 k (M.2 21 (k + 1))) 22 k (M.2 22 (k + 1))) 23 k (M.2 23 (k + 1)) := ⟨_, rfl⟩
    have hi : ∀ c, 19 ≤ c → c ≤ 23 → (mr_ c).2 = 200 := by
      intro c h1 h2
      have : c = 19 ∨ c = 20 ∨ c = 21 ∨ c = 22 ∨ c = 23 := by omega
      rcases this with rfl | rfl | rfl | rfl | rfl <;> rfl
    obtain ⟨M', e1, e2, e3, e4⟩ := ih (k + 1) n m N (by omega) (by omega) hn (by omega) (by rw [hN]; exact h18)
    have nC : ∀ c, 19 ≤ c → c ≤ 23 → N.2 c = upd (M.2 c) k (M.2 c (k + 1)) := by
      intro c h1 h2
      have : c = 19 ∨ c = 20 ∨ c = 21 ∨ c = 22 ∨ c = 23 := by omega
      rw [hN]
      rcases this with rfl | rfl | rfl | rfl | rfl <;> simp [pu_a]
    refine ⟨M', ?_, e2.trans (by rw [hN]; rfl), fun c hc => (e3 c hc).trans ?_, fun c h1 h2 i => ?_⟩
    · show pm_unrest_b12 _ (nI k) M = _
      unfold pm_unrest_b12
      refine pn_g _ rfl ?_
      rw [h18, nI_1]
      refine pn_f (nI_ge (by omega) (by omega)) ?_
      refine pn_g _ (po_l (by rw [hi 19 (by omega) (by omega)]; omega)) ?_
      refine pn_w _ (po_s (by rw [hi 19 (by omega) (by omega)]; omega)) ?_
      refine pn_g _ (po_l (by rw [hi 20 (by omega) (by omega)]; omega)) ?_
      refine pn_w _ (po_s (by rw [hi 20 (by omega) (by omega)]; omega)) ?_
      refine pn_g _ (po_l (by rw [hi 21 (by omega) (by omega)]; omega)) ?_
      refine pn_w _ (po_s (by rw [hi 21 (by omega) (by omega)]; omega)) ?_
      refine pn_g _ (po_l (by rw [hi 22 (by omega) (by omega)]; omega)) ?_
      refine pn_w _ (po_s (by rw [hi 22 (by omega) (by omega)]; omega)) ?_
      refine pn_g _ (po_l (by rw [hi 23 (by omega) (by omega)]; omega)) ?_
      refine pn_w _ (po_s (by rw [hi 23 (by omega) (by omega)]; omega)) ?_
      rw [hN] at e1
      exact e1
    · rw [hN]
      rw [pa_q (by omega), pa_q (by omega), pa_q (by omega), pa_q (by omega), pa_q (by omega)]
    · rw [e4 c h1 h2 i, nC c h1 h2]
      by_cases hik : i = k
      · subst hik
        rw [if_neg (by omega), if_pos (by omega)]
        simp [upd]
      · have hu : ∀ j, j ≠ k → upd (M.2 c) k (M.2 c (k + 1)) j = M.2 c j := fun j hj => by simp [upd, hj]
        by_cases hc : k ≤ i ∧ i < n
        · rw [if_pos (by omega), if_pos hc, hu _ (by omega)]
        · rw [if_neg (by omega), if_neg hc, hu _ hik]
theorem er_g {α : Type} {l : List α} {j i : Nat} : (l.eraseIdx j)[i]? = if i < j then l[i]? else l[i + 1]? := List.getElem?_eraseIdx
/-- the resting call j is taken out -/
theorem pm_unrest_ok (h : ri_ Z M) {j : Nat} (hj : j < (zr_ Z).length) (hl : (zr_ Z).length ≤ 200) : ∃ M', pm_unrest (nI j) M = some ((), M') ∧ ri_ (zj_r Z ((zr_ Z).eraseIdx j)) M' ∧ M'.1 30 = M.1 30 ∧ M'.2 31 = M.2 31 := by
  obtain ⟨h1, h2, h3, h4, h5, h6⟩ := h
  obtain ⟨n, hn⟩ : ∃ n, (zr_ Z).length = n + 1 := ⟨(zr_ Z).length - 1, by omega⟩
  obtain ⟨M', e1, e2, e3, e4⟩ := pm_unrest_it (n - j) j n fu_ (pu_s M 18 (nI n)) rfl (by omega) (by omega) (by unfold fu_; omega) ps_s
  have e5 : ∀ k, k ≠ 18 → M'.1 k = M.1 k := fun k hk => by rw [e2]; exact ps_n hk
  have e6 : ∀ c, c < 19 ∨ 23 < c → M'.2 c = M.2 c := fun c hc => e3 c hc
  refine ⟨M', ?_, ⟨fr_n h1 rfl (e5 _ (by decide)) (e5 _ (by decide)) (e5 _ (by decide)), fr_g h2 rfl ?_ ?_ ?_, fr_e h3 rfl ?_ ?_ ?_ ?_ ?_ ?_ ?_ ?_ ?_ ?_, ?_, fr_l h5 rfl (e5 _ (by decide)) ?_ ?_ ?_ ?_ ?_, fr_t h6 rfl ?_ ?_⟩, e5 _ (by decide), e6 _ (by decide)⟩
  case refine_1 =>
    unfold pm_unrest
    refine pn_g _ rfl ?_
    rw [h4.1, hn]
    have e0 : nI (n + 1) - 1 = nI n := by rw [← nI_1]; exact Int32.add_sub_cancel _ _
    rw [e0]
    exact pn_w _ rfl e1
  case refine_15 =>
    have e0 : zr_ (zj_r Z ((zr_ Z).eraseIdx j)) = (zr_ Z).eraseIdx j := rfl
    unfold rm_r
    rw [e0]
    refine ⟨?_, fun k r hkr => ?_⟩
    · rw [e2, ps_s, List.length_eraseIdx_of_lt hj, hn]
      rfl
    · have hlt := (List.getElem?_eq_some_iff.mp hkr).1
      rw [List.length_eraseIdx_of_lt hj] at hlt
      rw [er_g] at hkr
      rw [e4 19 (by decide) (by decide), e4 20 (by decide) (by decide), e4 21 (by decide) (by decide), e4 22 (by decide) (by decide), e4 23 (by decide) (by decide)]
      by_cases hkj : k < j
      · rw [if_pos hkj] at hkr
        rw [if_neg (by omega), if_neg (by omega), if_neg (by omega), if_neg (by omega), if_neg (by omega)]
        exact h4.2 k r hkr
      · rw [if_neg hkj] at hkr
        rw [if_pos (by omega), if_pos (by omega), if_pos (by omega), if_pos (by omega), if_pos (by omega)]
        exact h4.2 (k + 1) r hkr
  all_goals exact e6 _ (by decide)
end RMK
