/-! The reference's go, whole. -/
section RMJ
variable {Z Z' : zz_S} {M M' : ms_S} {lost : List Nat}
theorem zh_pack {a b e t : Nat} : zh_ (z_pack Z a b e) t = zh_ Z t := by
  unfold z_pack
  split
  · rfl
  · split
    · unfold zh_
      by_cases ht : t = e
      · subst ht
        rw [ze_s]
        rfl
      · rw [ze_n ht]
    · split <;> rfl
theorem zl_pack {a b e : Nat} : (zl_ (z_pack Z a b e)).length ≤ (zl_ Z).length + 1 := by
  unfold z_pack
  split
  · omega
  · split
    · show (zl_ Z).length ≤ _
      omega
    · split
      · show (zl_ Z ++ [_]).length ≤ _
        simp
      · omega
theorem pm_go_b108_ok (h : ri_ Z M) (hx : rx_ lost M) (hz : zw_e Z) {w t e q : Nat} {v : Int32} (hw : w < 4) (h0 : t ≠ 0) (ht : t ≤ 200) (he : e ≤ 200) (hq : q ≤ 200) (hr : (zr_ Z).length < 200) (hl : (zl_ Z).length + 1 < 2100) :
    ∃ M', pm_go_b108 (nI w) v (nI e) (nI q) (nI t) M = some ((), M') ∧ ri_ (if zh_ Z t ≠ w then z_post (z_pack Z w (zh_ Z t) e) 1 w (zh_ Z t) t v e q else zj_r Z (zr_ Z ++ [(if 100 < t then t else w, t, v, e, q)])) M' ∧ rx_ lost M' := by
  have h8 := h.2.2.1 t ht
  have hh := (hz t ht).1
  have hi : t < (mr_ 6).2 := by show t < 201; omega
  unfold pm_go_b108
  by_cases h1 : zh_ Z t = w
  · rw [if_neg (show ¬ (zh_ Z t ≠ w) from fun z => z h1)]
    obtain ⟨M', g1, g2, g3, g4⟩ := pm_rest_ok h (w := if 100 < t then t else w) (t := t) (e := e) (q := q) (v := v) hr
    refine ⟨M', ?_, g2, rx_f hx (by rw [g3]; simp [upd]) g4⟩
    refine pn_g _ (po_l hi) ?_
    rw [h8.1]
    refine pn_t (by rw [h1]) ?_
    by_cases h100 : t ≤ 100
    · refine pn_t (show nI t ≤ nI 100 from nI_le h100 (by decide)) ?_
      rw [if_neg (by omega)] at g1
      unfold pm_go_b173
      exact pn_b () g1 rfl
    · refine pn_f (show ¬ nI t ≤ nI 100 from nI_ge (by omega) (by omega)) ?_
      rw [if_pos (by omega)] at g1
      unfold pm_go_b173
      exact pn_b () g1 rfl
  · rw [if_pos (show zh_ Z t ≠ w from h1)]
    obtain ⟨M1, g1, g2, g3, g4⟩ := pm_pack_ok h (a := w) (b := zh_ Z t) (e := e) hw hh he (hz e he).1 (by omega)
    have hl2 := zl_pack (Z := Z) (a := w) (b := zh_ Z t) (e := e)
    obtain ⟨M2, k1, k2, k3, k4⟩ := pm_post_ok g2 (kind := 1) (a := w) (b := zh_ Z t) (what := t) (e := e) (q := q) (v := v) (by omega) hw hh ht he hq (by omega)
    refine ⟨M2, ?_, k2, rx_f (rx_f hx (g3 30 (by decide)) g4) (by rw [k3]; simp [upd]) k4⟩
    refine pn_g _ (po_l hi) ?_
    rw [h8.1]
    refine pn_f (fun z => h1 ((nI_eq (by omega) (by omega)).mp z)) ?_
    refine pn_g _ (po_l hi) ?_
    rw [h8.1]
    refine pn_b () g1 ?_
    refine pn_g _ (po_l hi) ?_
    have h9 := (g2.2.2.1 t ht).1
    rw [zh_pack] at h9
    rw [h9]
    have e4 : (4 : Int32) * nI w + nI (zh_ Z t) = nI (4 * w + zh_ Z t) := by rw [show (4 : Int32) = nI 4 from rfl, pk_mul, nI_add]
    rw [e4]
    exact pn_b () k1 rfl
theorem pm_go_ok (h : ri_ Z M) (hx : rx_ lost M) (hz : zw_e Z) {w u e q : Nat} {v : Int32} (hw : w < 4) (hu : u ≤ 200) (he : e ≤ 200) (hq : q ≤ 200) (hr : (zr_ Z).length < 200) (hp : ∀ r ∈ zr_ Z, r.1 < 1000) (hl : (zl_ Z).length + 1 < 2100) (hlo : lost.length < 100) :
    ∃ M', pm_go (nI w) (nI u) v (nI e) (nI q) M = some ((), M') ∧ ri_ (z_go Z lost w u v e q).1 M' ∧ rx_ (z_go Z lost w u v e q).2 M' := by
  have hit := pm_go_it h.2.2.1 hz hw (x3 := v) (x4 := nI e) (x5 := nI q) 101 0 u fu_ (by omega) (by unfold fu_; omega) hu
  have ht := z_follow_le hz (h := w) 101 u hu
  unfold z_go
  generalize z_follow Z w 101 u = t at hit ht ⊢
  have run : ∀ {M' : ms_S}, pm_go_b38 (nI w) v (nI e) (nI q) (nI t) M = some ((), M') → pm_go (nI w) (nI u) v (nI e) (nI q) M = some ((), M') := fun hb => (show pm_go (nI w) (nI u) v (nI e) (nI q) M = _ from hit).trans hb
  have h8 := h.2.2.1 t ht
  have hh := (hz t ht).1
  have hi : t < (mr_ 6).2 := by show t < 201; omega
  obtain ⟨L, l1, l2, l3, -⟩ := pm_go_b72_ok h hx hq hlo
  by_cases h0 : t = 0
  · subst h0
    refine ⟨L, run (by unfold pm_go_b38; exact pn_t rfl l1), ?_, ?_⟩
    · rw [if_pos (Or.inl rfl)]
      exact l2
    · rw [if_pos (Or.inl rfl)]
      exact l3
  · obtain ⟨B, b1, b2, b3⟩ := pm_go_b108_ok h hx hz hw h0 ht he hq hr hl (v := v)
    have hn0 : ¬ nI t = 0 := nI_ne0 (by omega) (by omega)
    by_cases hc : 100 < t ∧ zh_ Z t = w ∧ 8 ≤ z_waits Z t
    · refine ⟨L, run ?_, ?_, ?_⟩
      · unfold pm_go_b38
        refine pn_f hn0 (pn_f (show ¬ nI t ≤ nI 100 from nI_ge hc.1 (by omega)) (pn_g _ (po_l hi) ?_))
        rw [h8.1]
        refine pn_t (by rw [hc.2.1]) (pn_b _ (pm_waits_ok h.2.2.2.1 (by omega) hp (by omega)) ?_)
        have hwl : z_waits Z t ≤ (zr_ Z).length := List.length_filter_le _ _
        exact pn_f (show ¬ nI (z_waits Z t) < nI 8 from nI_nlt hc.2.2 (by omega)) l1
      · rw [if_pos (Or.inr hc)]
        exact l2
      · rw [if_pos (Or.inr hc)]
        exact l3
    · have hno : ¬ (t = 0 ∨ (100 < t ∧ zh_ Z t = w ∧ 8 ≤ z_waits Z t)) := fun z => z.elim h0 hc
      refine ⟨B, run ?_, ?_, ?_⟩
      · unfold pm_go_b38
        refine pn_f hn0 ?_
        by_cases h100 : t ≤ 100
        · exact pn_t (show nI t ≤ nI 100 from nI_le h100 (by decide)) b1
        · refine pn_f (show ¬ nI t ≤ nI 100 from nI_ge (by omega) (by omega)) (pn_g _ (po_l hi) ?_)
          rw [h8.1]
          by_cases h1 : zh_ Z t = w
          · refine pn_t (by rw [h1]) (pn_b _ (pm_waits_ok h.2.2.2.1 (by omega) hp (by omega)) ?_)
            have h8w : z_waits Z t < 8 := Nat.not_le.mp (fun z => hc ⟨by omega, h1, z⟩)
            exact pn_t (show nI (z_waits Z t) < nI 8 from nI_lt h8w (by decide)) b1
          · exact pn_f (fun z => h1 ((nI_eq (by omega) (by omega)).mp z)) b1
      · rw [if_neg hno]
        by_cases h1 : zh_ Z t ≠ w
        · rw [if_pos h1] at b2 ⊢
          exact b2
        · rw [if_neg h1] at b2 ⊢
          exact b2
      · rw [if_neg hno]
        by_cases h1 : zh_ Z t ≠ w
        · rw [if_pos h1]
          exact b3
        · rw [if_neg h1]
          exact b3
end RMJ
