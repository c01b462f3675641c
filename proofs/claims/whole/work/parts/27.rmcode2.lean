/-! The reference's code(..) and clear(..), whole. -/
theorem n_lt0 {x : Int32} : x < 0 ↔ ¬ 0 ≤ x := by
  rw [Int32.lt_iff_toInt_lt, Int32.le_iff_toInt_le]
  omega
theorem n_7l {x : Int32} : (7 : Int32) < x ↔ ¬ x < 8 := by
  rw [Int32.lt_iff_toInt_lt, Int32.lt_iff_toInt_lt]
  have h1 : (7 : Int32).toInt = 7 := by decide
  have h2 : (8 : Int32).toInt = 8 := by decide
  omega
theorem n_3l {x : Int32} : (3 : Int32) < x ↔ ¬ x < 4 := by
  rw [Int32.lt_iff_toInt_lt, Int32.lt_iff_toInt_lt]
  have h1 : (3 : Int32).toInt = 3 := by decide
  have h2 : (4 : Int32).toInt = 4 := by decide
  omega
theorem n_l7 {x : Int32} : x ≤ (7 : Int32) ↔ x < 8 := by
  rw [Int32.le_iff_toInt_le, Int32.lt_iff_toInt_lt]
  have h1 : (7 : Int32).toInt = 7 := by decide
  have h2 : (8 : Int32).toInt = 8 := by decide
  omega
theorem n_10 {x : Int32} : (10 : Int32) < x ↔ ¬ x ≤ 10 := by
  rw [Int32.lt_iff_toInt_lt, Int32.le_iff_toInt_le]
  omega
theorem n_g {g : Int32} (h0 : 0 ≤ g) (h8 : g < 8) : ∃ j : Nat, j < 8 ∧ g = nI j := by
  rcases in_8 g with h | h | h
  · exact h
  · exact absurd h0 (n_lt0.mp h)
  · have h3 := Int32.le_iff_toInt_le.mp h
    have h4 := Int32.lt_iff_toInt_lt.mp h8
    rw [nI_toInt (by decide)] at h3
    have h2 : (8 : Int32).toInt = 8 := by decide
    omega
section RMC
variable {Z : zz_S} {M : ms_S}
theorem pm_clear_ok (h : rm_ Z M) (g : Int32) : ∃ M', pm_clear g M = some (bi_ (z_clear Z g).2, M') ∧ rm_ (z_clear Z g).1 M' := by
  unfold z_clear
  by_cases hc : 0 ≤ g ∧ g < 8
  · rw [if_pos hc]
    obtain ⟨j, hj, rfl⟩ := n_g hc.1 hc.2
    have e : (nI j).toNatClampNeg = j := nI_clamp (by omega)
    rw [e]
    exact pm_clear_y h hj
  · rw [if_neg hc]
    refine ⟨M, ?_, h⟩
    refine pm_clear_n ?_
    by_cases h0 : g < 0
    · exact Or.inl h0
    · refine Or.inr ?_
      have h1 : ¬ g < 8 := fun z => hc ⟨by rw [n_lt0] at h0; exact Classical.not_not.mp h0, z⟩
      exact Int32.not_lt.mp h1
theorem pm_code_ok (h : rm_ Z M) (hz : zw_n Z) (g op x : Int32) : ∃ M', pm_code g op x M = some (bi_ (z_code Z g op x).2, M') ∧ rm_ (z_code Z g op x).1 M' := by
  have no : ∀ {P : Prop}, (¬ P → ¬ (0 ≤ g ∧ g < 8 ∧ 0 ≤ op ∧ op ≤ 10 ∧ (zg_ Z g.toNatClampNeg).length < 8 ∧ ((op = 3 ∨ op = 4 ∨ op = 7) → 0 ≤ x ∧ x < 4) ∧ ((op = 6 ∨ op = 8) → 0 ≤ x ∧ x < 8))) → ¬ P → pm_code g op x M = some (0, M) → ∃ M', pm_code g op x M = some (bi_ (z_code Z g op x).2, M') ∧ rm_ (z_code Z g op x).1 M' := by
    intro P h1 h2 h3
    unfold z_code
    rw [if_neg (h1 h2)]
    exact ⟨M, h3, h⟩
  by_cases c1 : 0 ≤ g
  case neg => exact no (fun z w => z w.1) c1 (by unfold pm_code; exact pn_t (n_lt0.mpr c1) rfl)
  by_cases c2 : g < 8
  case neg => exact no (fun z w => z w.2.1) c2 (by unfold pm_code; exact pn_f (fun z => n_lt0.mp z c1) (pn_t (n_7l.mpr c2) rfl))
  by_cases c3 : 0 ≤ op
  case neg => exact no (fun z w => z w.2.2.1) c3 (by unfold pm_code; exact pn_f (fun z => n_lt0.mp z c1) (pn_f (fun z => n_7l.mp z c2) (pn_t (n_lt0.mpr c3) rfl)))
  by_cases c4 : op ≤ 10
  case neg => exact no (fun z w => z w.2.2.2.1) c4 (by unfold pm_code; exact pn_f (fun z => n_lt0.mp z c1) (pn_f (fun z => n_7l.mp z c2) (pn_f (fun z => n_lt0.mp z c3) (pn_t (n_10.mpr c4) rfl))))
  obtain ⟨j, hj, rfl⟩ := n_g c1 c2
  have e : (nI j).toNatClampNeg = j := nI_clamp (by omega)
  have hlen := (h.2.1 j hj).1
  have hl8 := hz.2.2.2.2.2 j hj
  have front : ∀ y, (if M.2 3 j < (8 : Int32) then
      (if op = (3 : Int32) then (pm_code_b49 (nI j) op x) else (if op = (4 : Int32) then (pm_code_b49 (nI j) op x) else (if op = (7 : Int32) then (pm_code_b49 (nI j) op x) else (pm_code_b54 (nI j) op x (0 : Int32)))))
      else (pm_code_b31 )) M = some y → pm_code (nI j) op x M = some y := by
    intro y hy
    unfold pm_code
    refine pn_f (fun z => n_lt0.mp z c1) (pn_f (fun z => n_7l.mp z c2) (pn_f (fun z => n_lt0.mp z c3) (pn_f (fun z => n_10.mp z c4) ?_)))
    exact pn_g _ (po_l (show j < (mr_ 3).2 from hj)) hy
  by_cases c5 : (zg_ Z j).length < 8
  case neg =>
    refine no (fun z w => z (by rw [e] at w; exact w.2.2.2.2.1)) c5 (front _ (pn_f ?_ rfl))
    rw [hlen]
    show ¬ nI (zg_ Z j).length < nI 8
    exact nI_nlt (by omega) (by omega)
  have c5' : M.2 3 j < (8 : Int32) := by
    rw [hlen]
    exact nI_lt (b := 8) c5 (by decide)
  obtain ⟨M', hM1, hM2⟩ := pm_code_b94_y h hz hj c5 op x
  by_cases c6 : (op = 3 ∨ op = 4 ∨ op = 7) → 0 ≤ x ∧ x < 4
  case neg =>
    refine no (fun z w => z w.2.2.2.2.2.1) c6 (front _ (pn_t c5' ?_))
    obtain ⟨hop, hx⟩ : (op = 3 ∨ op = 4 ∨ op = 7) ∧ ¬ (0 ≤ x ∧ x < 4) := Classical.not_imp.mp c6
    have h49 : pm_code_b49 (nI j) op x M = some (0, M) := by
      unfold pm_code_b49 pm_code_b54
      refine pn_f (by decide) ?_
      by_cases hx0 : x < 0
      · exact pn_t hx0 rfl
      · exact pn_f hx0 (pn_t (n_3l.mpr (fun z => hx ⟨Classical.not_not.mp (fun q => hx0 (n_lt0.mpr q)), z⟩)) rfl)
    rcases hop with rfl | rfl | rfl
    · exact pn_t rfl h49
    · exact pn_f (by decide) (pn_t rfl h49)
    · exact pn_f (by decide) (pn_f (by decide) (pn_t rfl h49))
  by_cases c7 : (op = 6 ∨ op = 8) → 0 ≤ x ∧ x < 8
  case neg =>
    refine no (fun z w => z w.2.2.2.2.2.2) c7 (front _ (pn_t c5' ?_))
    obtain ⟨hop, hx⟩ : (op = 6 ∨ op = 8) ∧ ¬ (0 ≤ x ∧ x < 8) := Classical.not_imp.mp c7
    have h82 : pm_code_b82 (nI j) op x M = some (0, M) := by
      unfold pm_code_b82
      by_cases hx0 : x < 0
      · exact pn_t hx0 rfl
      · exact pn_f hx0 (pn_f (fun z => hx ⟨Classical.not_not.mp (fun q => hx0 (n_lt0.mpr q)), n_l7.mp z⟩) rfl)
    have h70 : pm_code_b70 (nI j) op x M = some (0, M) := by
      unfold pm_code_b70
      rcases hop with rfl | rfl
      · exact pn_t rfl h82
      · exact pn_f (by decide) (pn_t rfl h82)
    have h54 : pm_code_b54 (nI j) op x 0 M = some (0, M) := by
      unfold pm_code_b54
      exact pn_t rfl h70
    rcases hop with rfl | rfl
    · exact pn_f (by decide) (pn_f (by decide) (pn_f (by decide) h54))
    · exact pn_f (by decide) (pn_f (by decide) (pn_f (by decide) h54))
  have h70 : pm_code_b70 (nI j) op x M = some (1, M') := by
    unfold pm_code_b70
    have h82 : (op = 6 ∨ op = 8) → pm_code_b82 (nI j) op x M = some (1, M') := by
      intro hop
      obtain ⟨h1, h2⟩ := c7 hop
      unfold pm_code_b82
      exact pn_f (fun z => n_lt0.mp z h1) (pn_t (n_l7.mpr h2) hM1)
    by_cases o6 : op = 6
    · exact pn_t o6 (h82 (Or.inl o6))
    · refine pn_f o6 ?_
      by_cases o8 : op = 8
      · exact pn_t o8 (h82 (Or.inr o8))
      · exact pn_f o8 hM1
  have h49 : (op = 3 ∨ op = 4 ∨ op = 7) → pm_code_b49 (nI j) op x M = some (1, M') := by
    intro hop
    obtain ⟨h1, h2⟩ := c6 hop
    unfold pm_code_b49 pm_code_b54
    exact pn_f (by decide) (pn_f (fun z => n_lt0.mp z h1) (pn_f (fun z => n_3l.mp z h2) h70))
  refine ⟨M', ?_, ?_⟩
  · unfold z_code
    rw [e, if_pos ⟨c1, c2, c3, c4, c5, c6, c7⟩]
    refine front _ (pn_t c5' ?_)
    by_cases o3 : op = 3
    · exact pn_t o3 (h49 (Or.inl o3))
    · refine pn_f o3 ?_
      by_cases o4 : op = 4
      · exact pn_t o4 (h49 (Or.inr (Or.inl o4)))
      · refine pn_f o4 ?_
        by_cases o7 : op = 7
        · exact pn_t o7 (h49 (Or.inr (Or.inr o7)))
        · refine pn_f o7 ?_
          unfold pm_code_b54
          exact pn_t rfl h70
  · unfold z_code
    rw [e, if_pos ⟨c1, c2, c3, c4, c5, c6, c7⟩]
    exact hM2
end RMC
