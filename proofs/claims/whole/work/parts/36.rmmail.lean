/-! The reference's unmail and oldest. -/
/-- numbers of messages within their bounds -/
def zw_l (Z : zz_S) : Prop := ∀ r ∈ zl_ Z, 1 ≤ r.1 ∧ r.1 ≤ 5 ∧ r.2.1 < 4 ∧ r.2.2.1 < 4 ∧ r.2.2.2.1 ≤ 200 ∧ r.2.2.2.2.2.1 ≤ 200 ∧ r.2.2.2.2.2.2 ≤ 200
section RML
variable {Z Z' : zz_S} {M M' : ms_S} {lost : List Nat}
theorem pm_unmail_it : ∀ (d k n fuel : Nat) (M : ms_S), n - k = d → k ≤ n → n < 2100 → d < fuel → M.1 24 = nI n →
    (∀ i, k < i → i ≤ n → (M.2 25 i).toInt8.toInt32 = M.2 25 i ∧ (M.2 26 i).toInt16.toInt32 = M.2 26 i ∧ (M.2 28 i).toInt16.toInt32 = M.2 28 i ∧ (M.2 29 i).toInt16.toInt32 = M.2 29 i) →
    ∃ M', pt_ (fun rec12 => (fun x : Int32 => pm_unmail_b12 rec12 x)) fuel (nI k) M = some ((), M') ∧ M'.1 = M.1 ∧ (∀ c, c < 25 ∨ 29 < c → M'.2 c = M.2 c) ∧ ∀ c, 25 ≤ c → c ≤ 29 → ∀ i, M'.2 c i = if k ≤ i ∧ i < n then M.2 c (i + 1) else M.2 c i := by
  intro d
  induction d with
  | zero =>
    intro k n fuel M hd hk hn hf h18 hb
    obtain ⟨m, rfl⟩ : ∃ m, fuel = m + 1 := ⟨fuel - 1, by omega⟩
    refine ⟨M, ?_, rfl, fun _ _ => rfl, fun c _ _ i => by rw [if_neg (by omega)]⟩
    show pm_unmail_b12 _ (nI k) M = _
    unfold pm_unmail_b12
    refine pn_g _ rfl ?_
    rw [h18]
    exact pn_t (nI_le (by omega) (by omega)) rfl
  | succ d ih =>
    intro k n fuel M hd hk hn hf h18 hb
    obtain ⟨m, rfl⟩ : ∃ m, fuel = m + 1 := ⟨fuel - 1, by omega⟩
    obtain ⟨N, hN⟩ : ∃ N, N = pu_a (pu_a (pu_a (pu_a (pu_a M 25 k (M.2 25 (k + 1))) 26 k (M.2 26 (k + 1))) 27 k (M.2 27 (k + 1))) 28 k (M.2 28 (k + 1))) 29 k (M.2 29 (k + 1)) := ⟨_, rfl⟩
    have hi : ∀ c, 25 ≤ c → c ≤ 29 → (mr_ c).2 = 2100 := by
      intro c h1 h2
      have : c = 25 ∨ c = 26 ∨ c = 27 ∨ c = 28 ∨ c = 29 := by omega
      rcases this with rfl | rfl | rfl | rfl | rfl <;> rfl
    have nC : ∀ c, 25 ≤ c → c ≤ 29 → N.2 c = upd (M.2 c) k (M.2 c (k + 1)) := by
      intro c h1 h2
      have : c = 25 ∨ c = 26 ∨ c = 27 ∨ c = 28 ∨ c = 29 := by omega
      rw [hN]
      rcases this with rfl | rfl | rfl | rfl | rfl <;> simp [pu_a]
    have nb : ∀ i, k + 1 < i → i ≤ n → (N.2 25 i).toInt8.toInt32 = N.2 25 i ∧ (N.2 26 i).toInt16.toInt32 = N.2 26 i ∧ (N.2 28 i).toInt16.toInt32 = N.2 28 i ∧ (N.2 29 i).toInt16.toInt32 = N.2 29 i := by
      intro i h1 h2
      have hu : ∀ c, upd (M.2 c) k (M.2 c (k + 1)) i = M.2 c i := fun c => by simp [upd, show i ≠ k by omega]
      rw [nC 25 (by decide) (by decide), nC 26 (by decide) (by decide), nC 28 (by decide) (by decide), nC 29 (by decide) (by decide), hu, hu, hu, hu]
      exact hb i (by omega) h2
    obtain ⟨M', e1, e2, e3, e4⟩ := ih (k + 1) n m N (by omega) (by omega) hn (by omega) (by rw [hN]; exact h18) nb
    obtain ⟨b1, b2, b3, b4⟩ := hb (k + 1) (by omega) (by omega)
    refine ⟨M', ?_, e2.trans (by rw [hN]; rfl), fun c hc => (e3 c hc).trans ?_, fun c h1 h2 i => ?_⟩
    · show pm_unmail_b12 _ (nI k) M = _
      unfold pm_unmail_b12
      refine pn_g _ rfl ?_
      rw [h18, nI_1]
      refine pn_f (nI_ge (by omega) (by omega)) ?_
      refine pn_g _ (po_l (by rw [hi 25 (by omega) (by omega)]; omega)) ?_
      rw [b1]
      refine pn_w _ (po_s (by rw [hi 25 (by omega) (by omega)]; omega)) ?_
      refine pn_g _ (po_l (by rw [hi 26 (by omega) (by omega)]; omega)) ?_
      rw [pa_q (by decide), b2]
      refine pn_w _ (po_s (by rw [hi 26 (by omega) (by omega)]; omega)) ?_
      refine pn_g _ (po_l (by rw [hi 27 (by omega) (by omega)]; omega)) ?_
      refine pn_w _ (po_s (by rw [hi 27 (by omega) (by omega)]; omega)) ?_
      refine pn_g _ (po_l (by rw [hi 28 (by omega) (by omega)]; omega)) ?_
      rw [pa_q (q := 28) (by decide), pa_q (q := 28) (by decide), pa_q (q := 28) (by decide), b3]
      refine pn_w _ (po_s (by rw [hi 28 (by omega) (by omega)]; omega)) ?_
      refine pn_g _ (po_l (by rw [hi 29 (by omega) (by omega)]; omega)) ?_
      rw [pa_q (q := 29) (by decide), pa_q (q := 29) (by decide), pa_q (q := 29) (by decide), pa_q (q := 29) (by decide), b4]
      refine pn_w _ (po_s (by rw [hi 29 (by omega) (by omega)]; omega)) ?_
      rw [hN] at e1
      exact e1
    · rw [hN]
      rw [pa_q (by omega), pa_q (by omega), pa_q (by omega), pa_q (by omega), pa_q (by omega)]
    · rw [e4 c h1 h2 i, nC c h1 h2]
      by_cases hik : i = k
      · subst hik
        rw [if_neg (by omega), if_pos (by omega)]
        simp [upd]
      · have hu : ∀ j, j ≠ k → upd (M.2 c) k (M.2 c (k + 1)) j = M.2 c j := fun j hj => by simp [upd, hj]
        by_cases hc : k ≤ i ∧ i < n
        · rw [if_pos (by omega), if_pos hc, hu _ (by omega)]
        · rw [if_neg (by omega), if_neg hc, hu _ hik]
/-- the message j is taken out -/
theorem pm_unmail_ok (h : ri_ Z M) (hw : zw_l Z) {j : Nat} (hj : j < (zl_ Z).length) (hl : (zl_ Z).length ≤ 2100) : ∃ M', pm_unmail (nI j) M = some ((), M') ∧ ri_ (zj_l Z ((zl_ Z).eraseIdx j)) M' ∧ M'.1 30 = M.1 30 ∧ M'.2 31 = M.2 31 := by
  obtain ⟨h1, h2, h3, h4, h5, h6⟩ := h
  obtain ⟨n, hn⟩ : ∃ n, (zl_ Z).length = n + 1 := ⟨(zl_ Z).length - 1, by omega⟩
  have hb : ∀ i, j < i → i ≤ n → (M.2 25 i).toInt8.toInt32 = M.2 25 i ∧ (M.2 26 i).toInt16.toInt32 = M.2 26 i ∧ (M.2 28 i).toInt16.toInt32 = M.2 28 i ∧ (M.2 29 i).toInt16.toInt32 = M.2 29 i := by
    intro i _ hi
    have hlt : i < (zl_ Z).length := by omega
    obtain ⟨a1, a2, -, a4, a5⟩ := h5.2 i _ (List.getElem?_eq_getElem hlt)
    obtain ⟨w1, w2, w3, w4, w5, w6, w7⟩ := hw _ (List.getElem_mem hlt)
    rw [a1, a2, a4, a5]
    exact ⟨b8_ (by omega), b16_ (by omega), b16_ (by omega), b16_ (by omega)⟩
  obtain ⟨M', e1, e2, e3, e4⟩ := pm_unmail_it (n - j) j n fu_ (pu_s M 24 (nI n)) rfl (by omega) (by omega) (by unfold fu_; omega) ps_s hb
  have e5 : ∀ k, k ≠ 24 → M'.1 k = M.1 k := fun k hk => by rw [e2]; exact ps_n hk
  have e6 : ∀ c, c < 25 ∨ 29 < c → M'.2 c = M.2 c := fun c hc => e3 c hc
  refine ⟨M', ?_, ⟨fr_n h1 rfl (e5 _ (by decide)) (e5 _ (by decide)) (e5 _ (by decide)), fr_g h2 rfl ?_ ?_ ?_, fr_e h3 rfl ?_ ?_ ?_ ?_ ?_ ?_ ?_ ?_ ?_ ?_, fr_r h4 rfl (e5 _ (by decide)) ?_ ?_ ?_ ?_ ?_, ?_, fr_t h6 rfl ?_ ?_⟩, e5 _ (by decide), e6 _ (by decide)⟩
  case refine_1 =>
    unfold pm_unmail
    refine pn_g _ rfl ?_
    rw [h5.1, hn]
    have e0 : nI (n + 1) - 1 = nI n := by rw [← nI_1]; exact Int32.add_sub_cancel _ _
    rw [e0]
    exact pn_w _ rfl e1
  case refine_20 =>
    have e0 : zl_ (zj_l Z ((zl_ Z).eraseIdx j)) = (zl_ Z).eraseIdx j := rfl
    unfold rm_l
    rw [e0]
    refine ⟨?_, fun k r hkr => ?_⟩
    · rw [e2, ps_s, List.length_eraseIdx_of_lt hj, hn]
      rfl
    · have hlt := (List.getElem?_eq_some_iff.mp hkr).1
      rw [List.length_eraseIdx_of_lt hj] at hlt
      rw [er_g] at hkr
      rw [e4 25 (by decide) (by decide), e4 26 (by decide) (by decide), e4 27 (by decide) (by decide), e4 28 (by decide) (by decide), e4 29 (by decide) (by decide)]
      by_cases hkj : k < j
      · rw [if_pos hkj] at hkr
        rw [if_neg (by omega), if_neg (by omega), if_neg (by omega), if_neg (by omega), if_neg (by omega)]
        exact h5.2 k r hkr
      · rw [if_neg hkj] at hkr
        rw [if_pos (by omega), if_pos (by omega), if_pos (by omega), if_pos (by omega), if_pos (by omega)]
        exact h5.2 (k + 1) r hkr
  all_goals exact e6 _ (by decide)
end RML
