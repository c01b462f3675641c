/-! The reference's code(..), and what it asks of entities. -/
section RMB
variable {Z : zz_S} {M : ms_S}
theorem i_le {x : Int32} {a : Nat} (ha : a < 1000000) (h0 : ¬ x < 0) (h : x ≤ nI a) : ∃ j : Nat, j ≤ a ∧ x = nI j := by
  rcases pk_ix x (n := a + 1) (by omega) with h1 | h1 | ⟨j, h1, h2⟩
  · exact absurd h1 h0
  · have h3 := Int32.le_iff_toInt_le.mp h1
    have h4 := Int32.le_iff_toInt_le.mp h
    rw [nI_toInt (by omega)] at h3
    rw [nI_toInt (by omega)] at h4
    omega
  · exact ⟨j, by omega, h2⟩
theorem pm_code_b94_y (h : rm_ Z M) (hz : zw_n Z) {g : Nat} (hg : g < 8) (hl : (zg_ Z g).length < 8) (op x : Int32) : ∃ M', pm_code_b94 (nI g) op x M = some (1, M') ∧ rm_ (zj_g Z g (zg_ Z g ++ [(op, x)])) M' := by
  obtain ⟨h1, h2, h3, h4, h5, h6, h7⟩ := h
  have hlen := (h2 g hg).1
  have e8 : (8 : Int32) * nI g + nI (zg_ Z g).length = nI (8 * g + (zg_ Z g).length) := by
    rw [show (8 : Int32) = nI 8 from rfl, pk_mul, nI_add]
  obtain ⟨M', hM'⟩ : ∃ M', M' = pu_a (pu_a (pu_a M 4 (8 * g + (zg_ Z g).length) op) 5 (8 * g + (zg_ Z g).length) x) 3 g (nI (zg_ Z g).length + 1) := ⟨_, rfl⟩
  have r3 : ∀ j, M'.2 3 j = if j = g then nI (zg_ Z g).length + 1 else M.2 3 j := by intro j; rw [hM']; simp [pu_a, upd]
  have r4 : ∀ j, M'.2 4 j = if j = 8 * g + (zg_ Z g).length then op else M.2 4 j := by intro j; rw [hM']; simp [pu_a, upd]
  have r5 : ∀ j, M'.2 5 j = if j = 8 * g + (zg_ Z g).length then x else M.2 5 j := by intro j; rw [hM']; simp [pu_a, upd]
  have rr : ∀ q j, q ≠ 3 → q ≠ 4 → q ≠ 5 → M'.2 q j = M.2 q j := by intro q j a1 a2 a3; rw [hM']; simp [pu_a, a1, a2, a3]
  have r1 : M'.1 = M.1 := by rw [hM']; rfl
  refine ⟨M', ?_, ?_⟩
  · rw [hM']
    unfold pm_code_b94
    refine pn_g _ (po_l (show g < (mr_ 3).2 from hg)) ?_
    rw [hlen, e8]
    refine pn_w _ (po_s (show _ < (mr_ 4).2 by show _ < 64; omega)) ?_
    refine pn_w _ (po_s (show _ < (mr_ 5).2 by show _ < 64; omega)) ?_
    refine pn_g _ (po_l (show g < (mr_ 3).2 from hg)) ?_
    rw [pa_n (Or.inl (by decide)), pa_n (Or.inl (by decide)), hlen]
    exact pn_w _ (po_s (show g < (mr_ 3).2 from hg)) rfl
  · refine ⟨?_, fun k hk => ?_, fun e he => ?_, ?_, ?_, ?_, by rw [r1]; exact h7⟩
    · unfold rm_n
      rw [r1]
      exact h1
    · by_cases hkg : k = g
      · subst hkg
        have e0 : zg_ (zj_g Z k (zg_ Z k ++ [(op, x)])) k = zg_ Z k ++ [(op, x)] := by simp [zg_, zj_g, va_up]
        rw [e0]
        refine ⟨by rw [r3, if_pos rfl, nI_1]; simp, fun i q hq => ?_⟩
        rw [r4, r5]
        by_cases hi : i < (zg_ Z k).length
        · rw [List.getElem?_append_left hi] at hq
          rw [if_neg (by omega), if_neg (by omega)]
          exact (h2 k hk).2 i q hq
        · have hi2 : i = (zg_ Z k).length := by
            have := (List.getElem?_eq_some_iff.mp hq).1
            simp at this
            omega
          subst hi2
          rw [List.getElem?_append_right (Nat.le_refl _)] at hq
          simp at hq
          subst hq
          rw [if_pos rfl, if_pos rfl]
          exact ⟨rfl, rfl⟩
      · have e0 : zg_ (zj_g Z g (zg_ Z g ++ [(op, x)])) k = zg_ Z k := by simp [zg_, zj_g, va_up, hkg]
        rw [e0]
        refine ⟨by rw [r3, if_neg hkg]; exact (h2 k hk).1, fun i q hq => ?_⟩
        have hi : i < (zg_ Z k).length := (List.getElem?_eq_some_iff.mp hq).1
        have hk8 := hz.2.2.2.2.2 k hk
        have hg8 := hz.2.2.2.2.2 g hg
        rw [r4, r5, if_neg (by omega), if_neg (by omega)]
        exact (h2 k hk).2 i q hq
    · have h8 := h3 e he
      rw [rr 6 _ (by decide) (by decide) (by decide), rr 7 _ (by decide) (by decide) (by decide), rr 8 _ (by decide) (by decide) (by decide), rr 9 _ (by decide) (by decide) (by decide), rr 11 _ (by decide) (by decide) (by decide), rr 12 _ (by decide) (by decide) (by decide)]
      refine ⟨h8.1, h8.2.1, h8.2.2.1, h8.2.2.2.1, fun b hb => ?_, fun a b ha hb => ?_, fun h60 => ⟨(h8.2.2.2.2.2.2 h60).1, (h8.2.2.2.2.2.2 h60).2.1, fun s hs => ?_⟩⟩
      · rw [rr 15 _ (by decide) (by decide) (by decide), rr 16 _ (by decide) (by decide) (by decide)]
        exact h8.2.2.2.2.1 b hb
      · rw [rr 17 _ (by decide) (by decide) (by decide)]
        exact h8.2.2.2.2.2.1 a b ha hb
      · rw [rr 13 _ (by decide) (by decide) (by decide)]
        exact (h8.2.2.2.2.2.2 h60).2.2 s hs
    · refine ⟨by rw [r1]; exact h4.1, fun k r hr => ?_⟩
      rw [rr 19 _ (by decide) (by decide) (by decide), rr 20 _ (by decide) (by decide) (by decide), rr 21 _ (by decide) (by decide) (by decide), rr 22 _ (by decide) (by decide) (by decide), rr 23 _ (by decide) (by decide) (by decide)]
      exact h4.2 k r hr
    · refine ⟨by rw [r1]; exact h5.1, fun k r hr => ?_⟩
      rw [rr 25 _ (by decide) (by decide) (by decide), rr 26 _ (by decide) (by decide) (by decide), rr 27 _ (by decide) (by decide) (by decide), rr 28 _ (by decide) (by decide) (by decide), rr 29 _ (by decide) (by decide) (by decide)]
      exact h5.2 k r hr
    · intro v hv
      rw [rr 32 _ (by decide) (by decide) (by decide)]
      refine ⟨(h6 v hv).1, fun k y hk hy => ?_⟩
      rw [rr 33 _ (by decide) (by decide) (by decide)]
      exact (h6 v hv).2 k y hk hy
theorem pm_made_y (h : rm_n Z M) (hz : zw_n Z) {e : Nat} (he : zk_made Z e = true) : pm_made (nI e) M = some (1, M) := by
  obtain ⟨h0, h1, h2⟩ := h
  obtain ⟨z1, z2, z3, z4, z5, -⟩ := hz
  unfold zk_made at he
  simp only [Bool.or_eq_true, Bool.and_eq_true, decide_eq_true_eq] at he
  unfold pm_made
  rcases he with he | he
  · refine pn_f (show ¬ nI e < nI 1 from nI_nlt he.1 (by omega)) ?_
    refine pn_g _ rfl ?_
    rw [h1]
    exact pn_t (nI_le he.2 (by omega)) rfl
  · refine pn_f (show ¬ nI e < nI 1 from nI_nlt (by omega) (by omega)) ?_
    refine pn_g _ rfl ?_
    rw [h1]
    refine pn_f (nI_ge (by omega) (by omega)) ?_
    unfold pm_made_b13
    refine pn_f (show ¬ nI e < nI 101 from nI_nlt he.1 (by omega)) ?_
    refine pn_g _ rfl ?_
    rw [h2, show (100 : Int32) = nI 100 from rfl, nI_add]
    exact pn_f (nI_nlt he.2 (by omega)) rfl
theorem pm_made_n (h : rm_n Z M) (hz : zw_n Z) {x : Int32} (hx : ∀ e, x = nI e → e ≤ 200 → zk_made Z e = false) : pm_made x M = some (0, M) := by
  obtain ⟨h0, h1, h2⟩ := h
  obtain ⟨z1, z2, z3, z4, z5, -⟩ := hz
  have small : ∀ {a : Nat}, a ≤ 200 → ¬ x < 0 → x ≤ nI a → ∃ j, j ≤ a ∧ x = nI j := fun ha h3 h4 => i_le (by omega) h3 h4
  have neg : x < 0 → x.toInt < 0 := fun z => by have := Int32.lt_iff_toInt_lt.mp z; simpa using this
  unfold pm_made
  have h13 : (∀ e, x = nI e → e ≤ 200 → ¬ (101 ≤ e ∧ e ≤ 100 + zp_ Z)) → pm_made_b13 x M = some (0, M) := by
    intro hh
    unfold pm_made_b13
    by_cases c1 : x < (101 : Int32)
    · exact pn_t c1 rfl
    · refine pn_f c1 ?_
      refine pn_g _ rfl ?_
      rw [h2, show (100 : Int32) = nI 100 from rfl, nI_add]
      by_cases c2 : nI (100 + zp_ Z) < x
      · exact pn_t c2 rfl
      · refine absurd ?_ (fun z : False => z)
        have hn : ¬ x < 0 := by
          intro z
          have h5 := neg z
          have h6 := Int32.le_iff_toInt_le.mp (Int32.not_lt.mp c1)
          rw [show (101 : Int32) = nI 101 from rfl, nI_toInt (by decide)] at h6
          omega
        obtain ⟨j, hj, rfl⟩ := small (by omega) hn (Int32.not_lt.mp c2)
        have h7 : ¬ j < 101 := fun z => c1 (show nI j < nI 101 from nI_lt z (by decide))
        exact hh j rfl (by omega) ⟨by omega, hj⟩
  have cut : ∀ e, x = nI e → e ≤ 200 → ¬ (101 ≤ e ∧ e ≤ 100 + zp_ Z) := by
    intro e he1 he2 he3
    have := hx e he1 he2
    unfold zk_made at this
    simp only [Bool.or_eq_false_iff, Bool.and_eq_false_iff, decide_eq_false_iff_not] at this
    rcases this.2 with h | h <;> omega
  by_cases c0 : x < (1 : Int32)
  · exact pn_t c0 (h13 cut)
  · refine pn_f c0 ?_
    refine pn_g _ rfl ?_
    rw [h1]
    by_cases c1 : x ≤ nI (zo_ Z)
    · refine absurd ?_ (fun z : False => z)
      have hn : ¬ x < 0 := by
        intro z
        have h5 := neg z
        have h6 := Int32.le_iff_toInt_le.mp (Int32.not_lt.mp c0)
        rw [show (1 : Int32) = nI 1 from rfl, nI_toInt (by decide)] at h6
        omega
      obtain ⟨j, hj, rfl⟩ := small (by omega) hn c1
      have h7 : ¬ j < 1 := fun z => c0 (show nI j < nI 1 from nI_lt z (by decide))
      have := hx j rfl (by omega)
      unfold zk_made at this
      simp only [Bool.or_eq_false_iff, Bool.and_eq_false_iff, decide_eq_false_iff_not] at this
      rcases this.1 with h | h <;> omega
    · exact pn_f c1 (h13 cut)
end RMB
