/-! The reference's inbox, poke, put, fresh. -/
section RPK
variable {Z Z' : zz_S} {M M' : ms_S}
theorem pm_inbox_it (h : rm_r Z M) (hn : rm_n Z M) (hz : zw_n Z) (hl : (zr_ Z).length ≤ 200) (hp : ∀ r ∈ zr_ Z, r.1 < 1000) {t : Nat} (ht : t < zn_ Z) : ∀ (d k c fuel : Nat), (zr_ Z).length - k = d → k ≤ (zr_ Z).length → d < fuel → c ≤ k →
    pt_ (fun rec4 => (fun x : Int32 × Int32 × Int32 => pm_inbox_b4 rec4 x.1 x.2.1 x.2.2)) fuel (nI t, nI c, nI k) M = some (nI (c + (((zr_ Z).drop k).filter (fun r => r.1 == t)).length), M) := by
  have h4 := hz.2.1
  intro d
  induction d with
  | zero =>
    intro k c fuel hd hk hf hc
    obtain ⟨m, rfl⟩ : ∃ m, fuel = m + 1 := ⟨fuel - 1, by omega⟩
    have hkl : k = (zr_ Z).length := by omega
    show pm_inbox_b4 _ (nI t) (nI c) (nI k) M = _
    unfold pm_inbox_b4
    refine pn_g _ rfl ?_
    rw [h.1]
    refine pn_t (nI_le (by omega) (by omega)) ?_
    rw [List.drop_eq_nil_of_le (by omega)]
    rfl
  | succ d ih =>
    intro k c fuel hd hk hf hc
    obtain ⟨m, rfl⟩ : ∃ m, fuel = m + 1 := ⟨fuel - 1, by omega⟩
    have hlt : k < (zr_ Z).length := by omega
    have hx : (zr_ Z)[k]? = some (zr_ Z)[k] := List.getElem?_eq_getElem hlt
    have hrow := h.2 k _ hx
    have hpl := hp _ (List.getElem_mem hlt)
    show pm_inbox_b4 _ (nI t) (nI c) (nI k) M = _
    unfold pm_inbox_b4
    refine pn_g _ rfl ?_
    rw [h.1]
    refine pn_f (nI_ge (by omega) (by omega)) ?_
    refine pn_b _ (pm_vat_y hn hz ht) (pn_f (by decide) ?_)
    refine pn_g _ (po_l (show k < (mr_ 19).2 by show k < 200; omega)) ?_
    rw [hrow.1, dr_s hx, List.filter_cons]
    unfold pm_inbox_b37
    by_cases he : (zr_ Z)[k].1 = t
    · refine pn_t (by rw [he]) ?_
      rw [nI_1, nI_1, if_pos (by simp [he])]
      refine (ih (k + 1) (c + 1) m (by omega) (by omega) (by omega) (by omega)).trans ?_
      rw [List.length_cons]
      congr 3
      omega
    · refine pn_f (fun z => he ((nI_eq (by omega) (by omega)).mp z)) ?_
      rw [nI_1, if_neg (by simp [he])]
      exact ih (k + 1) c m (by omega) (by omega) (by omega) (by omega)
theorem pm_inbox_ok (h : rm_r Z M) (hn : rm_n Z M) (hz : zw_n Z) (hl : (zr_ Z).length ≤ 200) (hp : ∀ r ∈ zr_ Z, r.1 < 1000) {t : Nat} (ht : t < zn_ Z) : pm_inbox (nI t) M = some (nI (z_inbox Z t), M) := by
  unfold pm_inbox
  have := pm_inbox_it h hn hz hl hp ht ((zr_ Z).length - 0) 0 0 fu_ rfl (Nat.zero_le _) (by unfold fu_; omega) (by omega)
  rw [Nat.zero_add, List.drop_zero] at this
  exact this
theorem vat_or (hn : rm_n Z M) (hz : zw_n Z) (x : Int32) : (∃ j, j < zn_ Z ∧ x = nI j) ∨ pm_vat x M = some (0, M) := by
  by_cases hx : ∃ j, j < zn_ Z ∧ x = nI j
  · exact Or.inl hx
  · exact Or.inr (pm_vat_n hn hz (fun j hj hxj => hx ⟨j, hj, hxj⟩))
theorem vat_k {x : Int32} (hz : zw_n Z) : zk_vat Z x ↔ ∃ j, j < zn_ Z ∧ x = nI j := by
  have h4 := hz.2.1
  constructor
  · rintro ⟨h1, h2⟩
    obtain ⟨j, hj, rfl⟩ := nI_of (x := x) (fun c => n_lt0.mp c h1)
    rw [nI_clamp hj] at h2
    exact ⟨j, h2, rfl⟩
  · rintro ⟨j, hj, rfl⟩
    exact ⟨nI_pos' (by omega), by rw [nI_clamp (by omega)]; exact hj⟩
theorem pm_inbox_n (hr : rm_r Z M) (hl : (zr_ Z).length ≤ 200) {x : Int32} (h0 : pm_vat x M = some (0, M)) : pm_inbox x M = some (0, M) := by
  unfold pm_inbox
  show pm_inbox_b4 _ x 0 0 M = _
  unfold pm_inbox_b4
  refine pn_g _ rfl ?_
  by_cases hc : M.1 18 ≤ 0
  · exact pn_t hc rfl
  · exact pn_f hc (pn_b _ h0 (pn_t rfl rfl))
theorem pm_poke_ok (h : rm_ Z M) (hz : zw_n Z) (hl : (zr_ Z).length < 200) (hp : ∀ r ∈ zr_ Z, r.1 < 1000) {v : Nat} (hv : v < zn_ Z) (x : Int32) : ∃ M', pm_poke (nI v) x M = some (bi_ (z_poke Z v x).2, M') ∧ rm_ (z_poke Z v x).1 M' := by
  have h4 := hz.2.1
  have hib := pm_inbox_ok h.2.2.2.1 h.1 hz (by omega) hp hv
  have hle : z_inbox Z v ≤ 200 := Nat.le_trans (List.length_filter_le _ _) (by omega)
  unfold z_poke
  by_cases hc : z_inbox Z v < 20
  · rw [if_pos hc]
    obtain ⟨M', g1, g2, g3, g4⟩ := pm_rest_ok (rm_i h) (w := v) (t := v + 1) (v := x) (e := 0) (q := 0) hl
    refine ⟨M', ?_, rm_m g2 (by rw [g3]; simp [upd]; exact h.2.2.2.2.2.2)⟩
    unfold pm_poke
    refine pn_b _ (pm_vat_y h.1 hz hv) (pn_f (by decide) ?_)
    refine pn_b _ hib ?_
    refine pn_t (show nI (z_inbox Z v) < nI 20 from nI_lt hc (by decide)) ?_
    rw [nI_1]
    exact pn_b _ g1 rfl
  · rw [if_neg hc]
    refine ⟨M, ?_, h⟩
    unfold pm_poke
    refine pn_b _ (pm_vat_y h.1 hz hv) (pn_f (by decide) ?_)
    refine pn_b _ hib ?_
    exact pn_f (show ¬ nI (z_inbox Z v) < nI 20 from nI_nlt (by omega) (by omega)) rfl
theorem pm_poke_n {v x : Int32} (h0 : pm_vat v M = some (0, M)) : pm_poke v x M = some (0, M) := pn_b _ h0 (pn_t rfl rfl)
theorem m10_ {x : Nat} (h : x < 1000000) : nI x - nI x / (10 : Int32) * (10 : Int32) = nI (x % 10) := by
  rw [show (10 : Int32) = nI 10 from rfl, pk_div (by omega) (by decide) (by decide), pk_mul]
  have : nI x = nI (x % 10) + nI (x / 10 * 10) := by rw [nI_add]; congr 1; omega
  conv => lhs; rw [this]
  rw [Int32.add_sub_cancel]
/-- one more output -/
theorem rt_put (h : rm_t Z M) {v : Nat} {x : Int32} (hb : (zt_ Z v).length < 100000) : rm_t (zj_t Z v (x :: zt_ Z v)) (pu_a (pu_a M 33 (10 * v + (zt_ Z v).length % 10) x) 32 v (nI ((zt_ Z v).length + 1))) := by
  intro w hw
  obtain ⟨h1, h2⟩ := h w hw
  by_cases hvw : w = v
  · subst hvw
    have e1 : zt_ (zj_t Z w (x :: zt_ Z w)) w = x :: zt_ Z w := by simp [zt_, zj_t, va_up]
    rw [e1]
    refine ⟨pa_s, fun k y hk hy => ?_⟩
    rw [pa_q (by decide)]
    cases k with
    | zero =>
      cases hy
      rw [show (x :: zt_ Z w).length - 1 - 0 = (zt_ Z w).length by simp, pa_s]
    | succ k =>
      have hy2 : (zt_ Z w)[k]? = some y := by simpa using hy
      have hkl := (List.getElem?_eq_some_iff.mp hy2).1
      rw [show (x :: zt_ Z w).length - 1 - (k + 1) = (zt_ Z w).length - 1 - k by simp; omega, pa_n (Or.inr (by omega))]
      exact h2 k y (by omega) hy2
  · have e1 : zt_ (zj_t Z v (x :: zt_ Z v)) w = zt_ Z w := by simp [zt_, zj_t, va_up, hvw]
    rw [e1]
    refine ⟨?_, fun k y hk hy => ?_⟩
    · rw [pa_n (Or.inr hvw), pa_q (by decide)]
      exact h1
    · rw [pa_q (by decide), pa_n (Or.inr (by omega))]
      exact h2 k y hk hy
theorem pm_put_ok (h : rm_ Z M) {v : Nat} (hv : v < 4) (hb : (zt_ Z v).length < 100000) : ∃ M', pm_put (nI v) M = some ((), M') ∧ rm_ (zj_t Z v (M.1 34 :: zt_ Z v)) M' ∧ M'.1 = M.1 := by
  refine ⟨pu_a (pu_a M 33 (10 * v + (zt_ Z v).length % 10) (M.1 34)) 32 v (nI ((zt_ Z v).length + 1)), ?_, ?_, rfl⟩
  · unfold pm_put
    have j32 : v < (mr_ 32).2 := by show v < 4; omega
    refine pn_g _ (po_l j32) ?_
    refine pn_g _ rfl ?_
    rw [(h.2.2.2.2.2.1 v hv).1, m10_ (by omega), show (10 : Int32) * nI v = nI (10 * v) by rw [show (10 : Int32) = nI 10 from rfl, pk_mul], nI_add]
    refine pn_w _ (po_s (show 10 * v + (zt_ Z v).length % 10 < (mr_ 33).2 by show _ < 40; omega)) ?_
    refine pn_g _ (po_l j32) ?_
    rw [pa_q (by decide), (h.2.2.2.2.2.1 v hv).1, nI_1]
    exact pn_w _ (po_s j32) rfl
  · obtain ⟨h1, h2, h3, h4, h5, h6, h7⟩ := h
    have m : ∀ k, k ≠ 32 → k ≠ 33 → (pu_a (pu_a M 33 (10 * v + (zt_ Z v).length % 10) (M.1 34)) 32 v (nI ((zt_ Z v).length + 1))).2 k = M.2 k := fun k a b => by rw [pa_q a, pa_q b]
    exact ⟨fr_n h1 rfl rfl rfl rfl, fr_g h2 rfl (m 3 (by decide) (by decide)) (m 4 (by decide) (by decide)) (m 5 (by decide) (by decide)), fr_e h3 rfl (m 6 (by decide) (by decide)) (m 7 (by decide) (by decide)) (m 8 (by decide) (by decide)) (m 9 (by decide) (by decide)) (m 11 (by decide) (by decide)) (m 12 (by decide) (by decide)) (m 13 (by decide) (by decide)) (m 15 (by decide) (by decide)) (m 16 (by decide) (by decide)) (m 17 (by decide) (by decide)), fr_r h4 rfl rfl (m 19 (by decide) (by decide)) (m 20 (by decide) (by decide)) (m 21 (by decide) (by decide)) (m 22 (by decide) (by decide)) (m 23 (by decide) (by decide)), fr_l h5 rfl rfl (m 25 (by decide) (by decide)) (m 26 (by decide) (by decide)) (m 27 (by decide) (by decide)) (m 28 (by decide) (by decide)) (m 29 (by decide) (by decide)), rt_put h6 hb, h7⟩
/-- a new entity where there was none -/
theorem ue_new (h : rm_e Z M) {e hm g : Nat} {x : Int32} {r : Nat} (h0 : ze_ Z e = e0_) (he : e ≤ 60) :
    rm_e (zj_e Z e (hm, false, false, 0, g, x, va_up (fun _ => 0) 0 r, fun _ => 0, fun _ => 0, fun _ _ => 0)) (pu_a (pu_a (pu_a (pu_a M 6 e (nI hm)) 11 e (nI g)) 12 e x) 13 (4 * e) (nI r)) := by
  intro f hf
  have h8 := h f hf
  by_cases hfe : f = e
  · subst hfe
    unfold zh_ at h8 ⊢
    rw [ze_s]
    rw [h0] at h8
    obtain ⟨k1, k2, k3, k4, k5, k6, k7⟩ := h8
    refine ⟨show (pu_a M 6 f (nI hm)).2 6 f = nI hm from pa_s, k2, k3, k4, k5, k6, fun h60 => ⟨show (pu_a M 11 f (nI g)).2 11 f = nI g from pa_s, show (pu_a M 12 f x).2 12 f = x from pa_s, fun s hs => ?_⟩⟩
    by_cases hs0 : s = 0
    · subst hs0
      exact pa_s
    · rw [pa_n (Or.inr (by omega))]
      show M.2 13 (4 * f + s) = nI (va_up (fun _ => 0) 0 r s)
      rw [va_up_ne _ _ hs0]
      exact (k7 h60).2.2 s hs
  · unfold zh_ at h8 ⊢
    rw [ze_n hfe]
    obtain ⟨k1, k2, k3, k4, k5, k6, k7⟩ := h8
    refine ⟨?_, k2, k3, k4, k5, k6, fun h60 => ⟨?_, ?_, fun s hs => ?_⟩⟩
    · show (pu_a M 6 e (nI hm)).2 6 f = _
      rw [pa_n (Or.inr hfe)]
      exact k1
    · show (pu_a M 11 e (nI g)).2 11 f = _
      rw [pa_n (Or.inr hfe)]
      exact (k7 h60).1
    · show (pu_a M 12 e x).2 12 f = _
      rw [pa_n (Or.inr hfe)]
      exact (k7 h60).2.1
    · rw [pa_n (Or.inr (by omega))]
      exact (k7 h60).2.2 s hs
theorem pm_fresh_ok (h : rm_ Z M) (hz : zw_n Z) (h0 : zo_ Z < 60 → ze_ Z (zo_ Z + 1) = e0_) {v g r : Nat} {x : Int32} (hv : v < 4) (hg : g < 8) (h34 : M.1 34 = x) (h35 : M.1 35 = nI r) :
    ∃ M', pm_fresh (nI v) (nI g) M = some (nI (z_fresh Z v g x r).2, M') ∧ rm_ (z_fresh Z v g x r).1 M' ∧ ∀ k, 2 < k → M'.1 k = M.1 k := by
  have h60 := hz.2.2.2.1
  unfold z_fresh
  by_cases hc : 60 ≤ zo_ Z
  · rw [if_pos hc]
    refine ⟨M, ?_, h, fun _ _ => rfl⟩
    unfold pm_fresh
    refine pn_g _ rfl ?_
    rw [h.1.2.1]
    exact pn_f (show ¬ nI (zo_ Z) < nI 60 from nI_nlt hc (by omega)) rfl
  · rw [if_neg hc]
    have hx := h0 (by omega)
    have hu := ue_new (hm := v) (g := g) (x := x) (r := r) h.2.2.1 hx (by omega)
    generalize he : zo_ Z + 1 = e at hx hu
    have h7 : M.1 30 = 0 := h.2.2.2.2.2.2
    refine ⟨pu_s (pu_a (pu_a (pu_a (pu_a M 6 e (nI v)) 11 e (nI g)) 12 e x) 13 (4 * e) (nI r)) 1 (nI e), ?_, ?_, fun k hk => ps_n (by omega)⟩
    · unfold pm_fresh
      refine pn_g _ rfl ?_
      rw [h.1.2.1]
      refine pn_t (show nI (zo_ Z) < nI 60 from nI_lt (by omega) (by decide)) ?_
      refine pn_g _ rfl ?_
      rw [h.1.2.1, nI_1, he]
      refine pn_w _ rfl ?_
      have s1 : ∀ M0 : ms_S, M0.1 = (pu_s M 1 (nI e)).1 → pi_ 1 M0 = some (nI e) := fun M0 hM => by
        unfold pi_
        rw [hM, ps_s]
      refine pn_g _ (s1 _ rfl) ?_
      rw [b8_ (by omega), b8_ (by omega)]
      refine pn_w _ (po_s (show e < (mr_ 6).2 by show e < 201; omega)) ?_
      refine pn_g _ (s1 _ rfl) ?_
      rw [b8_ (by omega), b8_ (by omega)]
      refine pn_w _ (po_s (show e < (mr_ 11).2 by show e < 61; omega)) ?_
      refine pn_g _ (s1 _ rfl) ?_
      refine pn_g x (show some ((pu_s M 1 (nI e)).1 34) = some x by rw [ps_n (by decide), h34]) ?_
      refine pn_w _ (po_s (show e < (mr_ 12).2 by show e < 61; omega)) ?_
      refine pn_g _ (s1 _ rfl) ?_
      refine pn_g (nI r) (show some ((pu_s M 1 (nI e)).1 35) = some (nI r) by rw [ps_n (by decide), h35]) ?_
      rw [show (4 : Int32) * nI e = nI (4 * e) by rw [show (4 : Int32) = nI 4 from rfl, pk_mul]]
      refine pn_w _ (po_s (show 4 * e < (mr_ 13).2 by show 4 * e < 244; omega)) ?_
      exact pn_g _ (s1 _ rfl) rfl
    · refine rm_m (ri_f (rm_i h) ?_ hu rfl rfl rfl rfl (ps_n (by decide)) (ps_n (by decide)) (fun k hk => ?_)) (by rw [ps_n (by decide)]; exact h7)
      · obtain ⟨k1, k2, k3⟩ := h.1
        exact ⟨(ps_n (by decide)).trans k1, ps_s, (ps_n (by decide)).trans k3⟩
      · show (pu_a (pu_a (pu_a (pu_a M 6 e (nI v)) 11 e (nI g)) 12 e x) 13 (4 * e) (nI r)).2 k = _
        rw [pa_q (by omega), pa_q (by omega), pa_q (by omega), pa_q (by omega)]
end RPK
