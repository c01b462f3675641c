/-! The class's answers to what is out of range; a delivery to oneself. -/
section CON
variable {gl : gl_T} {fx : fx_T} {ad : Nat × Nat → Nat} {W : cw_W} {st : st_S} {Z : zz_S} {M : ms_S} {v a b : Nat} {x y z : Int32} {l : List Nat}
theorem vt_or (Z : zz_S) (x : Int32) : (∃ j, j < zn_ Z ∧ x = nI j) ∨ (∀ j, j < zn_ Z → x ≠ nI j) := by
  by_cases h : ∃ j, j < zn_ Z ∧ x = nI j
  · exact Or.inl h
  · exact Or.inr (fun j hj c => h ⟨j, hj, c⟩)
theorem vt_k (hz : zw_n Z) (h : ∀ j, j < zn_ Z → x ≠ nI j) : ¬ zk_vat Z x := fun c => by
  obtain ⟨j, hj, e⟩ := nI_of (x := x) (fun q => n_lt0.mp q c.1)
  have := c.2
  rw [e, nI_clamp hj] at this
  exact h j this e
theorem xP_give_n (hW : CW gl fx ad W st) (hR : RW Z W 50) (hz : zw_n Z) (h : (∀ j, j < zn_ Z → x ≠ nI j) ∨ ¬ (0 ≤ y ∧ y < 4) ∨ (∀ j, j < zn_ Z → z ≠ nI j)) : xP_give gl (some (ad (0, 0))) x y z st = some (0, st, 0, 0) := by
  unfold xP_give xP_give_b23
  refine ru_g _ (r0_m hW) ?_
  rcases vt_or Z x with ⟨j, hj, rfl⟩ | hx
  · refine ru_b (i2 := 0) (j2 := 0) (xP_isVat_y hW hR hz hj) ?_ rfl rfl
    refine ru_f (by decide) ?_
    refine ru_b (i2 := 0) (j2 := 0) xP_isSlot_ok ?_ rfl rfl
    by_cases hy : 0 ≤ y ∧ y < 4
    · rw [decide_eq_true hy]
      refine ru_f (by decide) ?_
      refine ru_g _ (r0_m hW) ?_
      have hz2 : ∀ j, j < zn_ Z → z ≠ nI j := by
        rcases h with h | h | h
        · exact absurd rfl (h j hj)
        · exact absurd hy h
        · exact h
      refine ru_b (i2 := 0) (j2 := 0) (xP_isVat_n hW hR hz hz2) ?_ rfl rfl
      exact ru_t rfl rfl
    · rw [decide_eq_false hy]
      exact ru_t rfl rfl
  · refine ru_b (i2 := 0) (j2 := 0) (xP_isVat_n hW hR hz hx) ?_ rfl rfl
    exact ru_t rfl rfl
theorem xP_poke_n (hW : CW gl fx ad W st) (hR : RW Z W 50) (hz : zw_n Z) (hx : ∀ j, j < zn_ Z → x ≠ nI j) : xP_poke gl (some (ad (0, 0))) x y st = some (0, st, 0, 0) := by
  unfold xP_poke xP_poke_b25
  refine ru_g _ (r0_m hW) ?_
  refine ru_b (i2 := 0) (j2 := 0) (xP_isVat_n hW hR hz hx) ?_ rfl rfl
  exact ru_t rfl rfl
theorem xP_turn_n (hW : CW gl fx ad W st) (hR : RW Z W 50) (hz : zw_n Z) (hx : ∀ j, j < zn_ Z → x ≠ nI j) : xP_turn gl (some (ad (0, 0))) x st = some (-1, st, 0, 0) := by
  unfold xP_turn xP_turn_b23
  refine ru_g _ (r0_m hW) ?_
  refine ru_b (i2 := 0) (j2 := 0) (xP_isVat_n hW hR hz hx) ?_ rfl rfl
  exact ru_t rfl rfl
theorem xP_sweep_n (hW : CW gl fx ad W st) (hR : RW Z W 50) (hz : zw_n Z) (hx : ∀ j, j < zn_ Z → x ≠ nI j) : xP_sweep gl (some (ad (0, 0))) x st = some (-1, st, 0, 0) := by
  unfold xP_sweep
  refine ru_g _ (r0_m hW) ?_
  refine ru_b (i2 := 0) (j2 := 0) (xP_isVat_n hW hR hz hx) ?_ rfl rfl
  exact ru_t rfl rfl
theorem xP_inbox_n (hW : CW gl fx ad W st) (hR : RW Z W 50) (hz : zw_n Z) (hx : ∀ j, j < zn_ Z → x ≠ nI j) : xP_inbox gl (some (ad (0, 0))) x st = some (0, st, 0, 0) := by
  unfold xP_inbox
  refine ru_g _ (r0_m hW) ?_
  refine ru_b (i2 := 0) (j2 := 0) (xP_isVat_n hW hR hz hx) ?_ rfl rfl
  exact ru_t rfl rfl
theorem xP_flying_n (hW : CW gl fx ad W st) (hR : RW Z W 50) (hz : zw_n Z) (h : (∀ j, j < zn_ Z → x ≠ nI j) ∨ (∀ j, j < zn_ Z → y ≠ nI j)) : xP_flying gl (some (ad (0, 0))) x y st = some (0, st, 0, 0) := by
  unfold xP_flying xP_flying_b36
  refine ru_g _ (r0_m hW) ?_
  rcases vt_or Z x with ⟨j, hj, rfl⟩ | hx
  · refine ru_b (i2 := 0) (j2 := 0) (xP_isVat_y hW hR hz hj) ?_ rfl rfl
    refine ru_f (by decide) ?_
    refine ru_g _ (r0_m hW) ?_
    have hy : ∀ j, j < zn_ Z → y ≠ nI j := by
      rcases h with h | h
      · exact absurd rfl (h j hj)
      · exact h
    refine ru_b (i2 := 0) (j2 := 0) (xP_isVat_n hW hR hz hy) ?_ rfl rfl
    exact ru_t rfl rfl
  · refine ru_b (i2 := 0) (j2 := 0) (xP_isVat_n hW hR hz hx) ?_ rfl rfl
    exact ru_t rfl rfl
theorem xP_deliver_n (hW : CW gl fx ad W st) (hR : RW Z W 50) (hz : zw_n Z) (h : (∀ j, j < zn_ Z → x ≠ nI j) ∨ (∀ j, j < zn_ Z → y ≠ nI j)) : xP_deliver gl (some (ad (0, 0))) x y st = some (0, st, 0, 0) := by
  unfold xP_deliver
  refine ru_g _ (r0_m hW) ?_
  refine ru_b (i2 := 0) (j2 := 0) (xP_flying_n hW hR hz h) ?_ rfl rfl
  exact ru_t rfl rfl
theorem fly_0 (hB : zB Z) : z_flying Z a a = 0 := by
  unfold z_flying
  have : (zl_ Z).filter (fun r => r.2.1 == a && r.2.2.1 == a) = [] := by
    rw [List.filter_eq_nil_iff]
    intro r hr c
    have := (hB.2.2.2.1.2.1 r hr).1
    rw [Bool.and_eq_true, beq_iff_eq, beq_iff_eq] at c
    omega
  rw [this]
  rfl
theorem xP_deliver_s (hW : CW gl fx ad W st) (hR : RW Z W 50) (hB : zB Z) (ha : a < zn_ Z) : xP_deliver gl (some (ad (0, 0))) (nI a) (nI a) st = some (0, st, 0, 0) := by
  unfold xP_deliver
  refine ru_g _ (r0_m hW) ?_
  have := xP_flying_ok hW hR hB.1 ha ha
  rw [fly_0 hB] at this
  refine ru_b (i2 := 0) (j2 := 0) this ?_ rfl rfl
  exact ru_t rfl rfl
theorem pm_deliver_n (h : rm_ Z M) (hz : zw_n Z) (hxy : (∀ j, j < zn_ Z → x ≠ nI j) ∨ (∀ j, j < zn_ Z → y ≠ nI j) ∨ x = y) : pm_deliver x y M = some (0, M) := by
  unfold pm_deliver pm_deliver_b21
  rcases vt_or Z x with ⟨j, hj, rfl⟩ | hx
  · refine pn_b _ (pm_vat_y h.1 hz hj) (pn_f (by decide) ?_)
    rcases vt_or Z y with ⟨i, hi, rfl⟩ | hy
    · refine pn_b _ (pm_vat_y h.1 hz hi) (pn_f (by decide) ?_)
      rcases hxy with c | c | c
      · exact absurd rfl (c j hj)
      · exact absurd rfl (c i hi)
      · exact pn_t c rfl
    · exact pn_b _ (pm_vat_n h.1 hz hy) (pn_t rfl rfl)
  · exact pn_b _ (pm_vat_n h.1 hz hx) (pn_t rfl rfl)
end CON
