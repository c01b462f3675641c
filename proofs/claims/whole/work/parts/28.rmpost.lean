/-! What stays of the picture; the reference's post(..). -/
section RMD
variable {Z Z' : zz_S} {M M' : ms_S}
theorem pa_q {k i q : Nat} {y : Int32} (h : q ≠ k) : (pu_a M k i y).2 q = M.2 q := by simp [pu_a, h]
theorem pa_k {k i : Nat} {y : Int32} : (pu_a M k i y).2 k = upd (M.2 k) i y := by simp [pu_a]
theorem ps_a {k : Nat} {y : Int32} : (pu_s M k y).2 = M.2 := rfl
theorem ps_s {k : Nat} {y : Int32} : (pu_s M k y).1 k = y := by simp [pu_s, upd]
theorem ps_n {k q : Nat} {y : Int32} (h : q ≠ k) : (pu_s M k y).1 q = M.1 q := by simp [pu_s, upd, h]
theorem fr_n (h : rm_n Z M) (hZ : Z'.1 = Z.1) (h0 : M'.1 0 = M.1 0) (h1 : M'.1 1 = M.1 1) (h2 : M'.1 2 = M.1 2) : rm_n Z' M' := by
  unfold rm_n zn_ zo_ zp_ at *
  rw [hZ, h0, h1, h2]
  exact h
theorem fr_g (h : rm_g Z M) (hZ : zg_ Z' = zg_ Z) (h3 : M'.2 3 = M.2 3) (h4 : M'.2 4 = M.2 4) (h5 : M'.2 5 = M.2 5) : rm_g Z' M' := by
  unfold rm_g at *
  rw [hZ, h3, h4, h5]
  exact h
theorem fr_e (h : rm_e Z M) (hZ : ze_ Z' = ze_ Z) (h6 : M'.2 6 = M.2 6) (h7 : M'.2 7 = M.2 7) (h8 : M'.2 8 = M.2 8) (h9 : M'.2 9 = M.2 9) (h11 : M'.2 11 = M.2 11) (h12 : M'.2 12 = M.2 12) (h13 : M'.2 13 = M.2 13) (h15 : M'.2 15 = M.2 15) (h16 : M'.2 16 = M.2 16) (h17 : M'.2 17 = M.2 17) : rm_e Z' M' := by
  unfold rm_e zh_ at *
  rw [hZ, h6, h7, h8, h9, h11, h12, h13, h15, h16, h17]
  exact h
theorem fr_r (h : rm_r Z M) (hZ : zr_ Z' = zr_ Z) (h18 : M'.1 18 = M.1 18) (h19 : M'.2 19 = M.2 19) (h20 : M'.2 20 = M.2 20) (h21 : M'.2 21 = M.2 21) (h22 : M'.2 22 = M.2 22) (h23 : M'.2 23 = M.2 23) : rm_r Z' M' := by
  unfold rm_r at *
  rw [hZ, h18, h19, h20, h21, h22, h23]
  exact h
theorem fr_l (h : rm_l Z M) (hZ : zl_ Z' = zl_ Z) (h24 : M'.1 24 = M.1 24) (h25 : M'.2 25 = M.2 25) (h26 : M'.2 26 = M.2 26) (h27 : M'.2 27 = M.2 27) (h28 : M'.2 28 = M.2 28) (h29 : M'.2 29 = M.2 29) : rm_l Z' M' := by
  unfold rm_l at *
  rw [hZ, h24, h25, h26, h27, h28, h29]
  exact h
theorem fr_t (h : rm_t Z M) (hZ : zt_ Z' = zt_ Z) (h32 : M'.2 32 = M.2 32) (h33 : M'.2 33 = M.2 33) : rm_t Z' M' := by
  unfold rm_t at *
  rw [hZ, h32, h33]
  exact h
/-- all but what is lost: inside a call -/
def ri_ (Z : zz_S) (M : ms_S) : Prop := rm_n Z M ∧ rm_g Z M ∧ rm_e Z M ∧ rm_r Z M ∧ rm_l Z M ∧ rm_t Z M
theorem b8_ {n : Nat} (h : n < 128) : ((nI n).toInt8.toInt32) = nI n := by
  have : ∀ n, n < 128 → ((nI n).toInt8.toInt32) = nI n := by decide +kernel
  exact this n h
theorem b16_ {n : Nat} (h : n < 256) : ((nI n).toInt16.toInt32) = nI n := by
  have : ∀ n, n < 256 → ((nI n).toInt16.toInt32) = nI n := by decide +kernel
  exact this n h
/-- a message is posted: there is room for it -/
theorem pm_post_ok (h : ri_ Z M) {kind a b what e q : Nat} {v : Int32} (hk : kind ≤ 5) (ha : a < 4) (hb : b < 4) (hw : what ≤ 200) (he : e ≤ 200) (hq : q ≤ 200) (hr : (zl_ Z).length < 2100) :
    ∃ M', pm_post (nI kind) (nI (4 * a + b)) (nI what) v (nI e) (nI q) M = some ((), M') ∧ ri_ (z_post Z kind a b what v e q) M' ∧ M'.1 = upd M.1 24 (nI ((zl_ Z).length + 1)) ∧ M'.2 31 = M.2 31 := by
  obtain ⟨h1, h2, h3, h4, h5, h6⟩ := h
  have hm := h5.1
  have e16 : (16 : Int32) * nI kind + nI (4 * a + b) = nI (16 * kind + (4 * a + b)) := by rw [show (16 : Int32) = nI 16 from rfl, pk_mul, nI_add]
  obtain ⟨n, hn⟩ : ∃ n, n = (zl_ Z).length := ⟨_, rfl⟩
  rw [← hn] at hm hr ⊢
  obtain ⟨M', hM'⟩ : ∃ M', M' = pu_s (pu_a (pu_a (pu_a (pu_a (pu_a M 25 n (nI (16 * kind + (4 * a + b)))) 26 n (nI what)) 27 n v) 28 n (nI e)) 29 n (nI q)) 24 (nI (n + 1)) := ⟨_, rfl⟩
  have r25 : M'.2 25 = upd (M.2 25) n (nI (16 * kind + (4 * a + b))) := by rw [hM']; simp [pu_s, pu_a]
  have r26 : M'.2 26 = upd (M.2 26) n (nI what) := by rw [hM']; simp [pu_s, pu_a]
  have r27 : M'.2 27 = upd (M.2 27) n v := by rw [hM']; simp [pu_s, pu_a]
  have r28 : M'.2 28 = upd (M.2 28) n (nI e) := by rw [hM']; simp [pu_s, pu_a]
  have r29 : M'.2 29 = upd (M.2 29) n (nI q) := by rw [hM']; simp [pu_s, pu_a]
  have rr : ∀ k, k ≠ 25 → k ≠ 26 → k ≠ 27 → k ≠ 28 → k ≠ 29 → M'.2 k = M.2 k := by intro k a1 a2 a3 a4 a5; rw [hM']; simp [pu_s, pu_a, a1, a2, a3, a4, a5]
  have r1 : M'.1 = upd M.1 24 (nI (n + 1)) := by rw [hM']; rfl
  have rs : ∀ k, k ≠ 24 → M'.1 k = M.1 k := by intro k hk; rw [r1]; simp [upd, hk]
  refine ⟨M', ?_, ⟨fr_n h1 rfl (rs _ (by decide)) (rs _ (by decide)) (rs _ (by decide)), fr_g h2 rfl (rr _ (by decide) (by decide) (by decide) (by decide) (by decide)) (rr _ (by decide) (by decide) (by decide) (by decide) (by decide)) (rr _ (by decide) (by decide) (by decide) (by decide) (by decide)), ?_, ?_, ?_, ?_⟩, r1, rr _ (by decide) (by decide) (by decide) (by decide) (by decide)⟩
  · rw [hM']
    unfold pm_post
    refine pn_g _ rfl ?_
    rw [hm, e16, b8_ (by omega), b8_ (by omega)]
    refine pn_w _ (po_s (show n < (mr_ 25).2 from hr)) ?_
    refine pn_g _ rfl ?_
    rw [pa_1, hm, b16_ (by omega), b16_ (by omega)]
    refine pn_w _ (po_s (show n < (mr_ 26).2 from hr)) ?_
    refine pn_g _ rfl ?_
    rw [pa_1, pa_1, hm]
    refine pn_w _ (po_s (show n < (mr_ 27).2 from hr)) ?_
    refine pn_g _ rfl ?_
    rw [pa_1, pa_1, pa_1, hm, b16_ (by omega), b16_ (by omega)]
    refine pn_w _ (po_s (show n < (mr_ 28).2 from hr)) ?_
    refine pn_g _ rfl ?_
    rw [pa_1, pa_1, pa_1, pa_1, hm, b16_ (by omega), b16_ (by omega)]
    refine pn_w _ (po_s (show n < (mr_ 29).2 from hr)) ?_
    refine pn_g _ rfl ?_
    rw [pa_1, pa_1, pa_1, pa_1, pa_1, hm, nI_1]
    exact pn_w _ rfl rfl
  · refine fr_e h3 rfl ?_ ?_ ?_ ?_ ?_ ?_ ?_ ?_ ?_ ?_ <;> exact rr _ (by decide) (by decide) (by decide) (by decide) (by decide)
  · refine fr_r h4 rfl (rs _ (by decide)) ?_ ?_ ?_ ?_ ?_ <;> exact rr _ (by decide) (by decide) (by decide) (by decide) (by decide)
  · have e0 : zl_ (z_post Z kind a b what v e q) = zl_ Z ++ [(kind, a, b, what, v, e, q)] := rfl
    unfold rm_l
    rw [e0]
    refine ⟨by rw [r1]; simp [upd, hn], fun k r hkr => ?_⟩
    rw [r25, r26, r27, r28, r29]
    by_cases hkn : k = n
    · subst hkn
      rw [hn, List.getElem?_append_right (Nat.le_refl _)] at hkr
      simp at hkr
      subst hkr
      simp [upd]
    · have hlt : k < (zl_ Z).length := by
        have := (List.getElem?_eq_some_iff.mp hkr).1
        simp at this
        omega
      rw [List.getElem?_append_left hlt] at hkr
      simp only [upd, hkn, if_false]
      exact h5.2 k r hkr
  · exact fr_t h6 rfl (rr _ (by decide) (by decide) (by decide) (by decide) (by decide)) (rr _ (by decide) (by decide) (by decide) (by decide) (by decide))
end RMD
