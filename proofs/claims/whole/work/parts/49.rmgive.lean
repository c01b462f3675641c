/-! The reference's give, inbox, poke, put, fresh. -/
section RGV
variable {Z Z' : zz_S} {M M' : ms_S}
theorem ri_f (h : ri_ Z M) (hn : rm_n Z' M') (he : rm_e Z' M') (hg : zg_ Z' = zg_ Z) (hr : zr_ Z' = zr_ Z) (hl : zl_ Z' = zl_ Z) (ht : zt_ Z' = zt_ Z) (h18 : M'.1 18 = M.1 18) (h24 : M'.1 24 = M.1 24) (hm : ∀ k, k < 6 ∨ 18 ≤ k → M'.2 k = M.2 k) : ri_ Z' M' := by
  obtain ⟨h1, h2, h3, h4, h5, h6⟩ := h
  have m := fun k (hk : k < 6 ∨ 18 ≤ k) => hm k hk
  exact ⟨hn, fr_g h2 hg (m 3 (by decide)) (m 4 (by decide)) (m 5 (by decide)), he, fr_r h4 hr h18 (m 19 (by decide)) (m 20 (by decide)) (m 21 (by decide)) (m 22 (by decide)) (m 23 (by decide)), fr_l h5 hl h24 (m 25 (by decide)) (m 26 (by decide)) (m 27 (by decide)) (m 28 (by decide)) (m 29 (by decide)), fr_t h6 ht (m 32 (by decide)) (m 33 (by decide))⟩
theorem ri_u (h : ri_ Z M) {e k i : Nat} {E : ze_E} {y : Int32} (hk : 6 ≤ k ∧ k < 18) (he : rm_e (zj_e Z e E) (pu_a M k i y)) : ri_ (zj_e Z e E) (pu_a M k i y) :=
  ri_f h (fr_n h.1 rfl rfl rfl rfl) he rfl rfl rfl rfl rfl rfl (fun j hj => pa_q (by omega))
theorem ue_l (h : rm_e Z M) {e s u : Nat} (hs : s < 4) : rm_e (zj_e Z e (ej_l (ze_ Z e) s u)) (pu_a M 13 (4 * e + s) (nI u)) := by
  intro f hf
  have h8 := h f hf
  by_cases hfe : f = e
  · subst hfe
    unfold zh_
    rw [ze_s]
    refine ⟨h8.1, h8.2.1, h8.2.2.1, h8.2.2.2.1, h8.2.2.2.2.1, h8.2.2.2.2.2.1, fun h60 => ⟨(h8.2.2.2.2.2.2 h60).1, (h8.2.2.2.2.2.2 h60).2.1, fun c hc => ?_⟩⟩
    by_cases hcb : c = s
    · subst hcb
      rw [pa_s]
      simp [ej_l, el_, va_up]
    · rw [pa_n (Or.inr (by omega)), (h8.2.2.2.2.2.2 h60).2.2 c hc]
      simp [ej_l, el_, va_up, hcb]
  · unfold zh_
    rw [ze_n hfe]
    refine ⟨h8.1, h8.2.1, h8.2.2.1, h8.2.2.2.1, h8.2.2.2.2.1, h8.2.2.2.2.2.1, fun h60 => ⟨(h8.2.2.2.2.2.2 h60).1, (h8.2.2.2.2.2.2 h60).2.1, fun c hc => ?_⟩⟩
    rw [pa_n (Or.inr (by omega))]
    exact (h8.2.2.2.2.2.2 h60).2.2 c hc
theorem ue_n (h : rm_e Z M) {e : Nat} {v : Int32} : rm_e (zj_e Z e (ej_n (ze_ Z e) v)) (pu_a M 12 e v) := by
  intro f hf
  have h8 := h f hf
  by_cases hfe : f = e
  · subst hfe
    unfold zh_
    rw [ze_s]
    exact ⟨h8.1, h8.2.1, h8.2.2.1, h8.2.2.2.1, h8.2.2.2.2.1, h8.2.2.2.2.2.1, fun h60 => ⟨(h8.2.2.2.2.2.2 h60).1, pa_s, (h8.2.2.2.2.2.2 h60).2.2⟩⟩
  · unfold zh_
    rw [ze_n hfe]
    refine ⟨h8.1, h8.2.1, h8.2.2.1, h8.2.2.2.1, h8.2.2.2.2.1, h8.2.2.2.2.2.1, fun h60 => ⟨(h8.2.2.2.2.2.2 h60).1, ?_, (h8.2.2.2.2.2.2 h60).2.2⟩⟩
    rw [pa_n (Or.inr hfe)]
    exact (h8.2.2.2.2.2.2 h60).2.1
theorem e4_ (a b : Nat) : (4 : Int32) * nI a + nI b = nI (4 * a + b) := by rw [show (4 : Int32) = nI 4 from rfl, pk_mul, nI_add]
theorem rm_m (h : ri_ Z M) (h0 : M.1 30 = 0) : rm_ Z M := ⟨h.1, h.2.1, h.2.2.1, h.2.2.2.1, h.2.2.2.2.1, h.2.2.2.2.2, h0⟩
theorem pm_give_ok (h : rm_ Z M) (hz : zw_n Z) {v s w : Nat} (hv : v < zn_ Z) (hw : w < zn_ Z) (hs : s < 4) : ∃ M', pm_give (nI v) (nI s) (nI w) M = some (1, M') ∧ rm_ (z_give Z v s w) M' := by
  have h4 := hz.2.1
  have hi := rm_i h
  have hM1 := ri_u hi (e := v + 1) (by decide) (ue_l hi.2.2.1 (e := v + 1) (u := w + 1) hs)
  have front : ∀ y, (if nI v = nI w then pm_give_b79 else
      (pg_ (pl_ 15 (((4 : Int32) * (nI w + (1 : Int32))) + nI v)) fun t3 => pw_ (ps_ 15 (((4 : Int32) * (nI w + (1 : Int32))) + nI v) (t3 + (1 : Int32))) (
      pg_ (pl_ 16 (((4 : Int32) * (nI w + (1 : Int32))) + nI v)) fun t4 => pw_ (ps_ 16 (((4 : Int32) * (nI w + (1 : Int32))) + nI v) (t4 + (1 : Int32))) (pm_give_b79 )))) (pu_a M 13 (4 * (v + 1) + s) (nI (w + 1))) = some y → pm_give (nI v) (nI s) (nI w) M = some y := by
    intro y hy
    unfold pm_give
    refine pn_b _ (pm_vat_y h.1 hz hv) (pn_f (by decide) ?_)
    refine pn_b _ (pm_vat_y h.1 hz hw) (pn_f (by decide) ?_)
    refine pn_f (nI_pos (by omega)) ?_
    refine pn_t (show nI s ≤ nI 3 from nI_le (by omega) (by decide)) ?_
    rw [nI_1 v, e4_]
    refine pn_w _ (po_s (show 4 * (v + 1) + s < (mr_ 13).2 by show _ < 244; omega)) ?_
    rw [nI_1 w] at hy ⊢
    exact hy
  unfold z_give
  by_cases hvw : v = w
  · refine ⟨_, front _ (pn_t (by rw [hvw]) rfl), ?_⟩
    rw [if_pos hvw]
    exact rm_m hM1 h.2.2.2.2.2.2
  · dsimp only
    rw [if_neg hvw]
    generalize zj_e Z (v + 1) (ej_l (ze_ Z (v + 1)) s (w + 1)) = Z1 at hM1 ⊢
    have hc : (pu_a M 13 (4 * (v + 1) + s) (nI (w + 1))).1 30 = 0 := h.2.2.2.2.2.2
    generalize pu_a M 13 (4 * (v + 1) + s) (nI (w + 1)) = M1 at hM1 hc front
    have hv4 : v < 4 := by omega
    have hw1 : w + 1 ≤ 200 := by omega
    have hM2 := ri_u hM1 (by decide) (ue_x hM1.2.2.1 hw1 hv4 1)
    have hM3 := ri_u hM2 (by decide) (ue_i hM2.2.2.1 hw1 hv4 (ei_ (ze_ (zj_e Z1 (w + 1) (ej_x (ze_ Z1 (w + 1)) v 1)) (w + 1)) v + 1))
    refine ⟨_, front _ ?_, rm_m hM3 hc⟩
    refine pn_f (fun z => hvw ((nI_eq (by omega) (by omega)).mp z)) ?_
    rw [nI_1 w, e4_]
    have j15 : 4 * (w + 1) + v < (mr_ 15).2 := by show _ < 804; omega
    have j16 : 4 * (w + 1) + v < (mr_ 16).2 := by show _ < 804; omega
    refine pn_g _ (po_l j15) ?_
    rw [((hM1.2.2.1 _ hw1).2.2.2.2.1 v hv4).1, oi_1]
    refine pn_w _ (po_s j15) ?_
    refine pn_g _ (po_l j16) ?_
    rw [((hM2.2.2.1 _ hw1).2.2.2.2.1 v hv4).2, oi_1]
    exact pn_w _ (po_s j16) rfl
theorem pm_give_n (h : rm_n Z M) (hz : zw_n Z) {v s w : Int32} (hv : ¬ (zk_vat Z v ∧ zk_vat Z w ∧ 0 ≤ s ∧ s < 4)) : pm_give v s w M = some (0, M) := by
  have h4 := hz.2.1
  have vat : ∀ x : Int32, (∃ j, j < zn_ Z ∧ x = nI j) ∨ pm_vat x M = some (0, M) := by
    intro x
    by_cases hx : ∃ j, j < zn_ Z ∧ x = nI j
    · exact Or.inl hx
    · exact Or.inr (pm_vat_n h hz (fun j hj hxj => hx ⟨j, hj, hxj⟩))
  unfold pm_give
  rcases vat v with ⟨j, hj, rfl⟩ | h0
  · refine pn_b _ (pm_vat_y h hz hj) (pn_f (by decide) ?_)
    rcases vat w with ⟨i, hi, rfl⟩ | h0
    · refine pn_b _ (pm_vat_y h hz hi) (pn_f (by decide) ?_)
      by_cases hs : s < 0
      · exact pn_t hs rfl
      · refine pn_f hs ?_
        refine pn_f (fun z => hv ⟨⟨nI_pos' (by omega), by rw [nI_clamp (by omega)]; exact hj⟩, ⟨nI_pos' (by omega), by rw [nI_clamp (by omega)]; exact hi⟩, ?_, ?_⟩) rfl
        · exact Classical.byContradiction (fun c => hs (n_lt0.mpr c))
        · exact Classical.byContradiction (fun c => absurd z (fun z2 => by
            have := n_3l.mpr c
            exact absurd (Int32.lt_of_lt_of_le this z2) (by decide)))
    · exact pn_b _ h0 (pn_t rfl rfl)
  · exact pn_b _ h0 (pn_t rfl rfl)
end RGV
