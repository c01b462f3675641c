/-! The reference's oldest. -/
section RMM
variable {Z Z' : zz_S} {M M' : ms_S} {lost : List Nat}
theorem m16_ {x : Nat} (h : x < 128) : nI x - nI x / (16 : Int32) * (16 : Int32) = nI (x % 16) := by
  have : ∀ x, x < 128 → nI x - nI x / (16 : Int32) * (16 : Int32) = nI (x % 16) := by decide +kernel
  exact this x h
theorem d16_ {x : Nat} (h : x < 128) : nI x / (16 : Int32) = nI (x / 16) := by
  have : ∀ x, x < 128 → nI x / (16 : Int32) = nI (x / 16) := by decide +kernel
  exact this x h
theorem pm_oldest_it (h : rm_l Z M) (hw : zw_l Z) (hl : (zl_ Z).length ≤ 2100) {a b : Nat} (ha : a < 4) (hb : b < 4) : ∀ (d k fuel : Nat), (zl_ Z).length - k = d → k ≤ (zl_ Z).length → d < fuel →
    (z_old a b ((zl_ Z).drop k) = none ∧ pt_ (fun rec2 => (fun x : Int32 × Int32 => pm_oldest_b2 rec2 x.1 x.2)) fuel (nI (4 * a + b), nI k) M = some (-1, M)) ∨
    ∃ i r, (zl_ Z)[k + i]? = some r ∧ z_old a b ((zl_ Z).drop k) = some (r, ((zl_ Z).drop k).eraseIdx i) ∧ r.2.1 = a ∧ r.2.2.1 = b ∧ pt_ (fun rec2 => (fun x : Int32 × Int32 => pm_oldest_b2 rec2 x.1 x.2)) fuel (nI (4 * a + b), nI k) M = some (nI (k + i), M) := by
  intro d
  induction d with
  | zero =>
    intro k fuel hd hk hf
    obtain ⟨m, rfl⟩ : ∃ m, fuel = m + 1 := ⟨fuel - 1, by omega⟩
    refine Or.inl ⟨by rw [List.drop_eq_nil_of_le (by omega)]; rfl, ?_⟩
    show pm_oldest_b2 _ (nI (4 * a + b)) (nI k) M = _
    unfold pm_oldest_b2
    refine pn_g _ rfl ?_
    rw [h.1]
    refine pn_t (nI_le (by omega) (by omega)) ?_
    unfold pm_oldest_b29
    refine pn_g _ rfl ?_
    rw [h.1]
    exact pn_t (nI_le (by omega) (by omega)) rfl
  | succ d ih =>
    intro k fuel hd hk hf
    obtain ⟨m, rfl⟩ : ∃ m, fuel = m + 1 := ⟨fuel - 1, by omega⟩
    have hlt : k < (zl_ Z).length := by omega
    have hx : (zl_ Z)[k]? = some (zl_ Z)[k] := List.getElem?_eq_getElem hlt
    have hrow := h.2 k _ hx
    have hpl := hw _ (List.getElem_mem hlt)
    generalize hre : (zl_ Z)[k] = r at hx hrow hpl
    obtain ⟨w1, w2, w3, w4, w5, w6, w7⟩ := hpl
    have hnl : ¬ nI (zl_ Z).length ≤ nI k := nI_ge (by omega) (by omega)
    have ik : k < (mr_ 25).2 := by show k < 2100; omega
    have hm : (16 * r.1 + (4 * r.2.1 + r.2.2.1)) % 16 = 4 * r.2.1 + r.2.2.1 := by omega
    rw [dr_s hx]
    by_cases hc : r.2.1 = a ∧ r.2.2.1 = b
    · refine Or.inr ⟨0, r, hx, ?_, hc.1, hc.2, ?_⟩
      · unfold z_old
        rw [if_pos hc]
        rfl
      · show pm_oldest_b2 _ (nI (4 * a + b)) (nI k) M = _
        unfold pm_oldest_b2
        refine pn_g _ rfl ?_
        rw [h.1]
        refine pn_f hnl ?_
        refine pn_g _ (po_l ik) ?_
        rw [hrow.1, m16_ (by omega), hm, hc.1, hc.2]
        refine pn_t rfl ?_
        unfold pm_oldest_b29
        refine pn_g _ rfl ?_
        rw [h.1]
        exact pn_f hnl rfl
    · have step : ∀ {x : Int32}, pt_ (fun rec2 => (fun x : Int32 × Int32 => pm_oldest_b2 rec2 x.1 x.2)) m (nI (4 * a + b), nI (k + 1)) M = some (x, M) → pt_ (fun rec2 => (fun x : Int32 × Int32 => pm_oldest_b2 rec2 x.1 x.2)) (m + 1) (nI (4 * a + b), nI k) M = some (x, M) := by
        intro x hg
        show pm_oldest_b2 _ (nI (4 * a + b)) (nI k) M = _
        unfold pm_oldest_b2
        refine pn_g _ rfl ?_
        rw [h.1]
        refine pn_f hnl ?_
        refine pn_g _ (po_l ik) ?_
        rw [hrow.1, m16_ (by omega), hm]
        refine pn_f (fun z => hc ?_) ?_
        · have := (nI_eq (by omega) (by omega)).mp z
          omega
        · rw [nI_1]
          exact hg
      rcases ih (k + 1) m (by omega) (by omega) (by omega) with ⟨g1, g2⟩ | ⟨i, q, g1, g2, g3, g4, g5⟩
      · refine Or.inl ⟨?_, step g2⟩
        unfold z_old
        rw [if_neg hc, g1]
        rfl
      · refine Or.inr ⟨i + 1, q, by rw [show k + (i + 1) = k + 1 + i by omega]; exact g1, ?_, g3, g4, by rw [show k + (i + 1) = k + 1 + i by omega]; exact step g5⟩
        unfold z_old
        rw [if_neg hc, g2]
        rfl
theorem pm_oldest_ok (h : rm_l Z M) (hw : zw_l Z) (hl : (zl_ Z).length ≤ 2100) {a b : Nat} (ha : a < 4) (hb : b < 4) :
    (z_old a b (zl_ Z) = none ∧ pm_oldest (nI (4 * a + b)) M = some (-1, M)) ∨
    ∃ i r, (zl_ Z)[i]? = some r ∧ z_old a b (zl_ Z) = some (r, (zl_ Z).eraseIdx i) ∧ r.2.1 = a ∧ r.2.2.1 = b ∧ pm_oldest (nI (4 * a + b)) M = some (nI i, M) := by
  have := pm_oldest_it h hw hl ha hb ((zl_ Z).length - 0) 0 fu_ rfl (Nat.zero_le _) (by unfold fu_; omega)
  simp only [Nat.zero_add, List.drop_zero] at this
  exact this
end RMM
