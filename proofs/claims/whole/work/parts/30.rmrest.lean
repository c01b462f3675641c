/-! The reference's unpack, rest, passes. -/
section RMF
variable {Z Z' : zz_S} {M M' : ms_S}
theorem pm_unpack_ok (h : ri_ Z M) {a b e : Nat} (ha : a < 4) (hb : b < 4) (he : e ≤ 200) (hh : zh_ Z e < 4) (hr : (zl_ Z).length < 2100) :
    ∃ M', pm_unpack (nI a) (nI b) (nI e) M = some ((), M') ∧ ri_ (z_unpack Z a b e) M' ∧ (∀ k, k ≠ 24 → M'.1 k = M.1 k) ∧ M'.2 31 = M.2 31 := by
  unfold pm_unpack z_unpack
  by_cases h0 : e = 0
  · subst h0
    exact ⟨M, pn_t rfl rfl, by rw [if_pos (Or.inl rfl)]; exact h, fun _ _ => rfl, rfl⟩
  · have h8 := h.2.2.1 e he
    have hn0 : ¬ nI e = 0 := nI_ne0 (by omega) (by omega)
    have hi : e < (mr_ 6).2 := by show e < 201; omega
    by_cases h1 : zh_ Z e = b
    · refine ⟨M, ?_, by rw [if_pos (Or.inr h1)]; exact h, fun _ _ => rfl, rfl⟩
      refine pn_f hn0 (pn_g _ (po_l hi) ?_)
      rw [h8.1]
      exact pn_t (by rw [h1]) rfl
    · rw [if_neg (show ¬ (e = 0 ∨ zh_ Z e = b) from fun z => z.elim h0 h1)]
      have hne : ¬ nI (zh_ Z e) = nI b := fun z => h1 ((nI_eq (by omega) (by omega)).mp z)
      have e4 : (4 : Int32) * nI e + nI b = nI (4 * e + b) := by rw [show (4 : Int32) = nI 4 from rfl, pk_mul, nI_add]
      have hi2 : 4 * e + b < (mr_ 16).2 := by show 4 * e + b < 804; omega
      have hM1 := ri_e h (Or.inr (Or.inl rfl)) (ue_i h.2.2.1 he hb (ei_ (ze_ Z e) b + 1))
      have hm6 : (pu_a M 16 (4 * e + b) (Int32.ofInt (ei_ (ze_ Z e) b + 1))).2 6 e = nI (zh_ Z e) := by rw [pa_q (by decide)]; exact h8.1
      have front : ∀ y, (if nI (zh_ Z e) = nI a then pr_ () else (pg_ (pl_ 6 (nI e)) fun t4 => pb_ (pm_post (5 : Int32) (((4 : Int32) * nI b) + t4) (nI e) (nI a) (0 : Int32) (0 : Int32)) fun _ => pr_ ())) (pu_a M 16 (4 * e + b) (Int32.ofInt (ei_ (ze_ Z e) b + 1))) = some y →
          (if nI e = 0 then (pr_ ()) else (pg_ (pl_ 6 (nI e)) fun t1 => if t1 = nI b then (pr_ ()) else (pg_ (pl_ 16 (((4 : Int32) * nI e) + nI b)) fun t2 => pw_ (ps_ 16 (((4 : Int32) * nI e) + nI b) (t2 + (1 : Int32))) (pg_ (pl_ 6 (nI e)) fun t3 => if t3 = nI a then (pr_ ()) else (pg_ (pl_ 6 (nI e)) fun t4 => pb_ (pm_post (5 : Int32) (((4 : Int32) * nI b) + t4) (nI e) (nI a) (0 : Int32) (0 : Int32)) fun _ => pr_ ()))))) M = some y := by
        intro y hy
        refine pn_f hn0 (pn_g _ (po_l hi) ?_)
        rw [h8.1]
        refine pn_f hne ?_
        rw [e4]
        refine pn_g _ (po_l hi2) ?_
        rw [(h8.2.2.2.2.1 b hb).2, oi_1]
        refine pn_w _ (po_s hi2) ?_
        refine pn_g _ (po_l hi) ?_
        rw [hm6]
        exact hy
      by_cases h2 : zh_ Z e = a
      · refine ⟨_, front _ (pn_t (by rw [h2]) rfl), ?_, fun _ _ => rfl, pa_q (by decide)⟩
        show ri_ (if zh_ Z e ≠ a then _ else _) _
        rw [if_neg (fun z => z h2)]
        exact hM1
      · obtain ⟨M', g1, g2, g3, g4⟩ := pm_post_ok hM1 (kind := 5) (a := b) (b := zh_ Z e) (what := e) (e := 0) (q := 0) (v := nI a) (by omega) hb hh he (by omega) (by omega) hr
        refine ⟨M', front _ (pn_f (fun z => h2 ((nI_eq (by omega) (by omega)).mp z)) ?_), ?_, (fun k hk => by rw [g3]; simp [upd, hk, pu_a]), g4.trans (pa_q (by decide))⟩
        · refine pn_g _ (po_l hi) ?_
          rw [hm6]
          have e5 : (4 : Int32) * nI b + nI (zh_ Z e) = nI (4 * b + zh_ Z e) := by rw [show (4 : Int32) = nI 4 from rfl, pk_mul, nI_add]
          rw [e5]
          exact pn_b () g1 rfl
        · show ri_ (if zh_ Z e ≠ a then _ else _) _
          rw [if_pos h2]
          exact g2
/-- a call comes to rest: there is room for it -/
theorem pm_rest_ok (h : ri_ Z M) {w t e q : Nat} {v : Int32} (hr : (zr_ Z).length < 200) :
    ∃ M', pm_rest (nI w) (nI t) v (nI e) (nI q) M = some ((), M') ∧ ri_ (zj_r Z (zr_ Z ++ [(w, t, v, e, q)])) M' ∧ M'.1 = upd M.1 18 (nI ((zr_ Z).length + 1)) ∧ M'.2 31 = M.2 31 := by
  obtain ⟨h1, h2, h3, h4, h5, h6⟩ := h
  have hm := h4.1
  obtain ⟨n, hn⟩ : ∃ n, n = (zr_ Z).length := ⟨_, rfl⟩
  rw [← hn] at hm hr ⊢
  obtain ⟨M', hM'⟩ : ∃ M', M' = pu_s (pu_a (pu_a (pu_a (pu_a (pu_a M 19 n (nI w)) 20 n (nI t)) 21 n v) 22 n (nI e)) 23 n (nI q)) 18 (nI (n + 1)) := ⟨_, rfl⟩
  have r19 : M'.2 19 = upd (M.2 19) n (nI w) := by rw [hM']; simp [pu_s, pu_a]
  have r20 : M'.2 20 = upd (M.2 20) n (nI t) := by rw [hM']; simp [pu_s, pu_a]
  have r21 : M'.2 21 = upd (M.2 21) n v := by rw [hM']; simp [pu_s, pu_a]
  have r22 : M'.2 22 = upd (M.2 22) n (nI e) := by rw [hM']; simp [pu_s, pu_a]
  have r23 : M'.2 23 = upd (M.2 23) n (nI q) := by rw [hM']; simp [pu_s, pu_a]
  have rr : ∀ k, k ≠ 19 → k ≠ 20 → k ≠ 21 → k ≠ 22 → k ≠ 23 → M'.2 k = M.2 k := by intro k a1 a2 a3 a4 a5; rw [hM']; simp [pu_s, pu_a, a1, a2, a3, a4, a5]
  have r1 : M'.1 = upd M.1 18 (nI (n + 1)) := by rw [hM']; rfl
  have rs : ∀ k, k ≠ 18 → M'.1 k = M.1 k := by intro k hk; rw [r1]; simp [upd, hk]
  refine ⟨M', ?_, ⟨fr_n h1 rfl (rs _ (by decide)) (rs _ (by decide)) (rs _ (by decide)), fr_g h2 rfl (rr _ (by decide) (by decide) (by decide) (by decide) (by decide)) (rr _ (by decide) (by decide) (by decide) (by decide) (by decide)) (rr _ (by decide) (by decide) (by decide) (by decide) (by decide)), ?_, ?_, ?_, ?_⟩, r1, rr _ (by decide) (by decide) (by decide) (by decide) (by decide)⟩
  · rw [hM']
    unfold pm_rest
    refine pn_g _ rfl ?_
    rw [hm]
    refine pn_w _ (po_s (show n < (mr_ 19).2 from hr)) ?_
    refine pn_g _ rfl ?_
    rw [pa_1, hm]
    refine pn_w _ (po_s (show n < (mr_ 20).2 from hr)) ?_
    refine pn_g _ rfl ?_
    rw [pa_1, pa_1, hm]
    refine pn_w _ (po_s (show n < (mr_ 21).2 from hr)) ?_
    refine pn_g _ rfl ?_
    rw [pa_1, pa_1, pa_1, hm]
    refine pn_w _ (po_s (show n < (mr_ 22).2 from hr)) ?_
    refine pn_g _ rfl ?_
    rw [pa_1, pa_1, pa_1, pa_1, hm]
    refine pn_w _ (po_s (show n < (mr_ 23).2 from hr)) ?_
    refine pn_g _ rfl ?_
    rw [pa_1, pa_1, pa_1, pa_1, pa_1, hm, nI_1]
    exact pn_w _ rfl rfl
  · refine fr_e h3 rfl ?_ ?_ ?_ ?_ ?_ ?_ ?_ ?_ ?_ ?_ <;> exact rr _ (by decide) (by decide) (by decide) (by decide) (by decide)
  · have e0 : zr_ (zj_r Z (zr_ Z ++ [(w, t, v, e, q)])) = zr_ Z ++ [(w, t, v, e, q)] := rfl
    unfold rm_r
    rw [e0]
    refine ⟨by rw [r1]; simp [upd, hn], fun k r hkr => ?_⟩
    rw [r19, r20, r21, r22, r23]
    by_cases hkn : k = n
    · subst hkn
      rw [hn, List.getElem?_append_right (Nat.le_refl _)] at hkr
      simp at hkr
      subst hkr
      simp [upd]
    · have hlt : k < (zr_ Z).length := by
        have := (List.getElem?_eq_some_iff.mp hkr).1
        simp at this
        omega
      rw [List.getElem?_append_left hlt] at hkr
      simp only [upd, hkn, if_false]
      exact h4.2 k r hkr
  · refine fr_l h5 rfl (rs _ (by decide)) ?_ ?_ ?_ ?_ ?_ <;> exact rr _ (by decide) (by decide) (by decide) (by decide) (by decide)
  · exact fr_t h6 rfl (rr _ (by decide) (by decide) (by decide) (by decide) (by decide)) (rr _ (by decide) (by decide) (by decide) (by decide) (by decide))
theorem pm_passes_ok (h : rm_e Z M) {w t : Nat} (hw : w < 4) (ht : t ≤ 200) (hh : zh_ Z t < 4) : pm_passes (nI w) (nI t) M = some (bi_ (zk_pass Z w t), M) := by
  have h8 := h t ht
  have hi6 : t < (mr_ 6).2 := by show t < 201; omega
  have hi8 : t < (mr_ 8).2 := by show t < 201; omega
  unfold pm_passes zk_pass
  by_cases h1 : t ≤ 100
  · rw [show decide (100 < t) = false by simp; omega]
    exact pn_t (show nI t ≤ nI 100 from nI_le h1 (by decide)) rfl
  · rw [show decide (100 < t) = true by simp; omega]
    refine pn_f (show ¬ nI t ≤ nI 100 from nI_ge (by omega) (by omega)) (pn_g _ (po_l hi6) ?_)
    rw [h8.1]
    by_cases h2 : zh_ Z t = w
    · rw [show decide (zh_ Z t = w) = true by simp [h2]]
      refine pn_t (by rw [h2]) (pn_g _ (po_l hi8) ?_)
      rw [h8.2.2.1]
      cases hs : es_ (ze_ Z t) with
      | false => exact pn_t rfl rfl
      | true => exact pn_f (by decide) rfl
    · rw [show decide (zh_ Z t = w) = false by simp [h2]]
      exact pn_f (fun z => h2 ((nI_eq (by omega) (by omega)).mp z)) rfl
end RMF
