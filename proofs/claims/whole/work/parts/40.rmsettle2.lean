/-! The reference's settle, whole. -/
section RMO
variable {Z Z' : zz_S} {M M' : ms_S} {lost : List Nat}
theorem ue_s (h : rm_e Z M) {p u : Nat} : rm_e (zj_e Z p (ej_s (ze_ Z p) u)) (pu_a (pu_a M 8 p 1) 9 p (nI u)) := by
  intro f hf
  have h8 := h f hf
  by_cases hfe : f = p
  · subst hfe
    unfold zh_
    rw [ze_s]
    refine ⟨h8.1, h8.2.1, ?_, ?_, h8.2.2.2.2.1, h8.2.2.2.2.2.1, h8.2.2.2.2.2.2⟩
    · rw [pa_n (Or.inl (by decide)), pa_s]
      rfl
    · rw [pa_s]
      rfl
  · unfold zh_
    rw [ze_n hfe]
    refine ⟨h8.1, h8.2.1, ?_, ?_, h8.2.2.2.2.1, h8.2.2.2.2.2.1, h8.2.2.2.2.2.2⟩
    · rw [pa_n (Or.inl (by decide)), pa_n (Or.inr hfe)]
      exact h8.2.2.1
    · rw [pa_n (Or.inr hfe), pa_n (Or.inl (by decide))]
      exact h8.2.2.2.1
theorem ri_s (h : ri_ Z M) {p u : Nat} : ri_ (zj_e Z p (ej_s (ze_ Z p) u)) (pu_a (pu_a M 8 p 1) 9 p (nI u)) := by
  obtain ⟨h1, h2, h3, h4, h5, h6⟩ := h
  have rr : ∀ k, k ≠ 8 → k ≠ 9 → (pu_a (pu_a M 8 p 1) 9 p (nI u)).2 k = M.2 k := fun k a b => by rw [pa_q b, pa_q a]
  refine ⟨fr_n h1 rfl rfl rfl rfl, fr_g h2 rfl ?_ ?_ ?_, ue_s h3, fr_r h4 rfl rfl ?_ ?_ ?_ ?_ ?_, fr_l h5 rfl rfl ?_ ?_ ?_ ?_ ?_, fr_t h6 rfl ?_ ?_⟩ <;> exact rr _ (by decide) (by decide)
theorem z_meet_follow {p u w : Nat} : ∀ (n t : Nat), z_meet Z w p n t = false → z_follow (zj_e Z p (ej_s (ze_ Z p) u)) w n t ≠ p
  | 0, t, h => by
    unfold z_meet at h
    unfold z_follow
    simpa using h
  | n + 1, t, h => by
    unfold z_meet at h
    by_cases ht : t = p
    · rw [if_pos ht] at h
      cases h
    · rw [if_neg ht] at h
      unfold z_follow
      have e1 : zk_pass (zj_e Z p (ej_s (ze_ Z p) u)) w t = zk_pass Z w t := by
        unfold zk_pass zh_
        rw [ze_n ht]
      rw [e1, ze_n ht]
      by_cases hc : zk_pass Z w t = true
      · rw [if_pos hc] at h ⊢
        exact z_meet_follow n _ h
      · rw [if_neg hc]
        exact ht
theorem z_follow_0 {w : Nat} : ∀ n, z_follow Z w n 0 = 0
  | 0 => rfl
  | n + 1 => by
    unfold z_follow
    rw [if_neg (by simp [zk_pass])]
theorem pm_settle_it (he : rm_e Z M) (hz : zw_e Z) {w p : Nat} (hw : w < 4) (hp : p ≤ 200) {x3 : Int32} : ∀ (n k t fuel : Nat), k + n = 101 → n < fuel → t ≤ 200 →
    ∃ y, pt_ (fun rec72 => (fun x : Int32 × Int32 × Int32 × Int32 × Int32 => pm_settle_b72 rec72 x.1 x.2.1 x.2.2.1 x.2.2.2.1 x.2.2.2.2)) fuel (nI w, nI p, x3, nI t, nI k) M = pm_settle_b110 (nI w) (nI p) x3 y M ∧ (y = nI p ↔ z_meet Z w p n t = true) := by
  intro n
  induction n with
  | zero =>
    intro k t fuel hk hf ht
    obtain ⟨m, rfl⟩ : ∃ m, fuel = m + 1 := ⟨fuel - 1, by omega⟩
    refine ⟨nI t, ?_, ?_⟩
    · show pm_settle_b72 _ (nI w) (nI p) x3 (nI t) (nI k) M = _
      unfold pm_settle_b72
      have hlt : (100 : Int32) < nI k := show nI 100 < nI k from nI_lt (by omega) (by omega)
      rw [if_pos hlt]
    · unfold z_meet
      rw [decide_eq_true_iff]
      exact nI_eq (by omega) (by omega)
  | succ n ih =>
    intro k t fuel hk hf ht
    obtain ⟨m, rfl⟩ : ∃ m, fuel = m + 1 := ⟨fuel - 1, by omega⟩
    have hp' := pm_passes_ok he hw ht (hz t ht).1
    have hlt : ¬ (100 : Int32) < nI k := show ¬ nI 100 < nI k from nI_nlt (by omega) (by omega)
    unfold z_meet
    by_cases htp : t = p
    · refine ⟨nI t, ?_, by rw [if_pos htp, htp]; exact ⟨fun _ => rfl, fun _ => rfl⟩⟩
      show pm_settle_b72 _ (nI w) (nI p) x3 (nI t) (nI k) M = _
      unfold pm_settle_b72
      rw [if_neg hlt, if_pos (by rw [htp])]
    · have hne : ¬ nI t = nI p := fun z => htp ((nI_eq (by omega) (by omega)).mp z)
      rw [if_neg htp]
      cases hc : zk_pass Z w t with
      | false =>
        refine ⟨nI t, ?_, ?_⟩
        · show pm_settle_b72 _ (nI w) (nI p) x3 (nI t) (nI k) M = _
          unfold pm_settle_b72
          rw [if_neg hlt, if_neg hne, pn_be hp', hc, if_pos (by decide)]
        · rw [if_neg (by decide)]
          exact ⟨fun z => absurd z hne, fun z => by cases z⟩
      | true =>
        obtain ⟨y, y1, y2⟩ := ih (k + 1) (et_ (ze_ Z t)) m (by omega) (by omega) (hz t ht).2
        refine ⟨y, ?_, by rw [if_pos rfl]; exact y2⟩
        show pm_settle_b72 _ (nI w) (nI p) x3 (nI t) (nI k) M = _
        unfold pm_settle_b72
        rw [if_neg hlt, if_neg hne, pn_be hp', hc, if_neg (by decide)]
        rw [pn_ge (po_l (show t < (mr_ 9).2 by show t < 201; omega)), (he t ht).2.2.2.1, nI_1]
        exact y1
theorem pm_settle_b133_ok (h : ri_ Z M) (hx : rx_ lost M) (hz : zw_e Z) (hr : zw_r Z) {w p u : Nat} (hw : w < 4) (hp : 100 < p) (hp2 : p ≤ 200) (hu : u ≤ 200) (hfo : z_follow (zj_e Z p (ej_s (ze_ Z p) u)) w 101 u ≠ p)
    (hlen : (zr_ Z).length ≤ 200) (hzl : (zl_ Z).length + 2 * z_waits Z p < 2100) (hlo : lost.length + z_waits Z p ≤ 100) :
    ∃ M', pm_settle_b133 (nI w) (nI p) (nI u) (nI p) (pu_a M 8 p 1) = some ((), M') ∧ ri_ (zs_fold w u p (zj_e Z p (ej_s (ze_ Z p) u)) lost).1 M' ∧ rx_ (zs_fold w u p (zj_e Z p (ej_s (ze_ Z p) u)) lost).2 M' := by
  obtain ⟨Z1, hZ1⟩ : ∃ Z1, Z1 = zj_e Z p (ej_s (ze_ Z p) u) := ⟨_, rfl⟩
  have h1 := ri_s h (p := p) (u := u)
  have e1 : zr_ Z1 = zr_ Z := by rw [hZ1]; rfl
  have e2 : zl_ Z1 = zl_ Z := by rw [hZ1]; rfl
  have e3 : z_waits Z1 p = z_waits Z p := by unfold z_waits; rw [e1]
  have e4 : et_ (ze_ Z1 p) = u := by rw [hZ1, ze_s]; rfl
  have e5 : zw_e Z1 := by
    intro f hf
    rw [hZ1]
    unfold zh_
    by_cases hfp : f = p
    · subst hfp
      rw [ze_s]
      exact ⟨(hz f hf).1, hu⟩
    · rw [ze_n hfp]
      exact hz f hf
  have e6 : zw_r Z1 := by unfold zw_r; rw [e1]; exact hr
  rw [← hZ1] at h1 hfo ⊢
  have hlt : z_waits Z p ≤ (zr_ Z).length := List.length_filter_le _ _
  obtain ⟨M', k1, k2, k3⟩ := pm_settle_l hw hp hp2 hu (2 * z_waits Z1 p + ((zr_ Z1).length - 0)) 0 fu_ Z1 _ lost (Nat.le_refl _) (by rw [e1, e3]; unfold fu_; omega) (Nat.zero_le _) h1 (rx_f hx rfl (by rw [pa_q (by decide), pa_q (by decide)])) e5 e6 e4 hfo (by simp) (by rw [e1]; exact hlen) (by rw [e2, e3]; exact hzl) (by rw [e3]; exact hlo)
  refine ⟨M', ?_, k2, k3⟩
  unfold pm_settle_b133
  exact pn_w _ (po_s (show p < (mr_ 9).2 by show p < 201; omega)) k1
theorem pm_settle_ok (h : ri_ Z M) (hx : rx_ lost M) (hz : zw_e Z) (hr : zw_r Z) {w p ref : Nat} (hw : w < 4) (hp : p = 0 ∨ 100 < p) (hp2 : p ≤ 200) (href : ref ≤ 200)
    (hlen : (zr_ Z).length ≤ 200) (hzl : (zl_ Z).length + 2 * z_waits Z p + 1 < 2100) (hlo : lost.length + z_waits Z p ≤ 100) :
    ∃ M', pm_settle (nI w) (nI p) (nI ref) M = some ((), M') ∧ ri_ (z_settle Z lost w p ref).1 M' ∧ rx_ (z_settle Z lost w p ref).2 M' := by
  unfold z_settle pm_settle
  by_cases h0 : p = 0
  · subst h0
    rw [if_pos rfl]
    exact ⟨M, pn_t rfl rfl, h, hx⟩
  · rw [if_neg h0]
    have h100 : 100 < p := by omega
    have hn0 : ¬ nI p = 0 := nI_ne0 (by omega) (by omega)
    have h8 := h.2.2.1 p hp2
    have hh := (hz p hp2).1
    have i6 : p < (mr_ 6).2 := by show p < 201; omega
    have i7 : p < (mr_ 7).2 := by show p < 201; omega
    have i8 : p < (mr_ 8).2 := by show p < 201; omega
    by_cases h1 : zh_ Z p = w
    · rw [if_neg (show ¬ zh_ Z p ≠ w from fun z => z h1)]
      have go : ∀ {X : zz_S × List Nat}, (∃ M', (pg_ (pl_ 7 (nI p)) fun t2 => if t2 = 0 then (pg_ (pl_ 8 (nI p)) fun t3 => if t3 = 0 then (pt_ (fun rec72 => (fun x : Int32 × Int32 × Int32 × Int32 × Int32 => pm_settle_b72 rec72 x.1 x.2.1 x.2.2.1 x.2.2.2.1 x.2.2.2.2)) fu_ (nI w, nI p, nI ref, nI ref, (0 : Int32))) else (pr_ ())) else (pr_ ())) M = some ((), M') ∧ ri_ X.1 M' ∧ rx_ X.2 M') →
          ∃ M', (if nI p = 0 then (pr_ ()) else (pg_ (pl_ 6 (nI p)) fun t1 => if t1 = nI w then (pg_ (pl_ 7 (nI p)) fun t2 => if t2 = 0 then (pg_ (pl_ 8 (nI p)) fun t3 => if t3 = 0 then (pt_ (fun rec72 => (fun x : Int32 × Int32 × Int32 × Int32 × Int32 => pm_settle_b72 rec72 x.1 x.2.1 x.2.2.1 x.2.2.2.1 x.2.2.2.2)) fu_ (nI w, nI p, nI ref, nI ref, (0 : Int32))) else (pr_ ())) else (pr_ ())) else (pg_ (pl_ 6 (nI p)) fun t4 => pb_ (pm_pack (nI w) t4 (nI ref)) fun _ => pg_ (pl_ 6 (nI p)) fun t6 => pb_ (pm_post (2 : Int32) (((4 : Int32) * nI w) + t6) (nI p) (0 : Int32) (nI ref) (0 : Int32)) fun _ => pr_ ()))) M = some ((), M') ∧ ri_ X.1 M' ∧ rx_ X.2 M' := by
        rintro X ⟨M', a, b, c⟩
        refine ⟨M', pn_f hn0 (pn_g _ (po_l i6) ?_), b, c⟩
        rw [h8.1]
        exact pn_t (by rw [h1]) a
      refine go ?_
      cases hg : eg_ (ze_ Z p) with
      | true =>
        rw [if_pos (Or.inl rfl)]
        refine ⟨M, pn_g _ (po_l i7) ?_, h, hx⟩
        rw [h8.2.1, hg]
        exact pn_f (by decide) rfl
      | false =>
        cases hs : es_ (ze_ Z p) with
        | true =>
          rw [if_pos (Or.inr rfl)]
          refine ⟨M, pn_g _ (po_l i7) ?_, h, hx⟩
          rw [h8.2.1, hg]
          refine pn_t (by decide) (pn_g _ (po_l i8) ?_)
          rw [h8.2.2.1, hs]
          exact pn_f (by decide) rfl
        | false =>
          rw [if_neg (by simp)]
          obtain ⟨y, y1, y2⟩ := pm_settle_it h.2.2.1 hz hw hp2 (x3 := nI ref) 101 0 ref fu_ (by omega) (by unfold fu_; omega) href
          have key : ∃ M', pm_settle_b110 (nI w) (nI p) (nI ref) y M = some ((), M') ∧ ri_ (zs_fold w (if z_meet Z w p 101 ref = true then 0 else ref) p (zj_e Z p (ej_s (ze_ Z p) (if z_meet Z w p 101 ref = true then 0 else ref))) lost).1 M' ∧ rx_ (zs_fold w (if z_meet Z w p 101 ref = true then 0 else ref) p (zj_e Z p (ej_s (ze_ Z p) (if z_meet Z w p 101 ref = true then 0 else ref))) lost).2 M' := by
            by_cases hm : z_meet Z w p 101 ref = true
            · rw [if_pos hm]
              obtain ⟨M', k1, k2, k3⟩ := pm_settle_b133_ok h hx hz hr hw h100 hp2 (u := 0) (by omega) (by rw [z_follow_0]; omega) hlen (by omega) hlo
              refine ⟨M', ?_, k2, k3⟩
              unfold pm_settle_b110
              refine pn_g () (by simp [pz_]) (pn_w _ (po_s i8) ?_)
              exact pn_t (y2.mpr hm) k1
            · rw [if_neg hm]
              obtain ⟨M', k1, k2, k3⟩ := pm_settle_b133_ok h hx hz hr hw h100 hp2 href (z_meet_follow 101 ref (by simpa using hm)) hlen (by omega) hlo
              refine ⟨M', ?_, k2, k3⟩
              unfold pm_settle_b110
              refine pn_g () (by simp [pz_]) (pn_w _ (po_s i8) ?_)
              exact pn_f (fun z => hm (y2.mp z)) k1
          obtain ⟨M', k1, k2, k3⟩ := key
          refine ⟨M', ?_, k2, k3⟩
          refine pn_g _ (po_l i7) ?_
          rw [h8.2.1, hg]
          refine pn_t (by decide) (pn_g _ (po_l i8) ?_)
          rw [h8.2.2.1, hs]
          exact pn_t (by decide) (y1.trans k1)
    · rw [if_pos (show zh_ Z p ≠ w from h1)]
      obtain ⟨M1, g1, g2, g3, g4⟩ := pm_pack_ok h (a := w) (b := zh_ Z p) (e := ref) hw hh href (hz ref href).1 (by omega)
      have hl2 := zl_pack (Z := Z) (a := w) (b := zh_ Z p) (e := ref)
      obtain ⟨M2, k1, k2, k3, k4⟩ := pm_post_ok g2 (kind := 2) (a := w) (b := zh_ Z p) (what := p) (e := ref) (q := 0) (v := 0) (by omega) hw hh hp2 href (by omega) (by omega)
      refine ⟨M2, ?_, k2, rx_f (rx_f hx (g3 30 (by decide)) g4) (by rw [k3]; simp [upd]) k4⟩
      refine pn_f hn0 (pn_g _ (po_l i6) ?_)
      rw [h8.1]
      refine pn_f (fun z => h1 ((nI_eq (by omega) (by omega)).mp z)) ?_
      refine pn_g _ (po_l i6) ?_
      rw [h8.1]
      refine pn_b () g1 ?_
      refine pn_g _ (po_l i6) ?_
      have h9 := (g2.2.2.1 p hp2).1
      rw [zh_pack] at h9
      rw [h9]
      have e4 : (4 : Int32) * nI w + nI (zh_ Z p) = nI (4 * w + zh_ Z p) := by rw [show (4 : Int32) = nI 4 from rfl, pk_mul, nI_add]
      rw [e4]
      exact pn_b () k1 rfl
end RMO
