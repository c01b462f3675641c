/-! Counts of an entity changed; the reference's pack, unpack, pair. -/
section RME
variable {Z Z' : zz_S} {M M' : ms_S}
theorem oi_1 (x : Int) : Int32.ofInt x + 1 = Int32.ofInt (x + 1) := by
  rw [Int32.ofInt_add]
  rfl
theorem ze_s {e : Nat} {E : ze_E} : ze_ (zj_e Z e E) e = E := by simp [ze_, zj_e, va_up]
theorem ze_n {e f : Nat} {E : ze_E} (h : f ≠ e) : ze_ (zj_e Z e E) f = ze_ Z f := by simp [ze_, zj_e, va_up, h]
/-- exports, imports or what is owed of e change at one place -/
theorem ue_x (h : rm_e Z M) {e b : Nat} (he : e ≤ 200) (hb : b < 4) (d : Int) : rm_e (zj_e Z e (ej_x (ze_ Z e) b d)) (pu_a M 15 (4 * e + b) (Int32.ofInt (ex_ (ze_ Z e) b + d))) := by
  intro f hf
  have h8 := h f hf
  by_cases hfe : f = e
  · subst hfe
    unfold zh_
    rw [ze_s]
    refine ⟨h8.1, h8.2.1, h8.2.2.1, h8.2.2.2.1, fun c hc => ⟨?_, (h8.2.2.2.2.1 c hc).2⟩, h8.2.2.2.2.2.1, h8.2.2.2.2.2.2⟩
    by_cases hcb : c = b
    · subst hcb
      rw [pa_s]
      simp [ej_x, ex_, va_up]
    · rw [pa_n (Or.inr (by omega)), (h8.2.2.2.2.1 c hc).1]
      simp [ej_x, ex_, va_up, hcb]
  · unfold zh_
    rw [ze_n hfe]
    refine ⟨h8.1, h8.2.1, h8.2.2.1, h8.2.2.2.1, fun c hc => ⟨?_, (h8.2.2.2.2.1 c hc).2⟩, h8.2.2.2.2.2.1, h8.2.2.2.2.2.2⟩
    rw [pa_n (Or.inr (by omega))]
    exact (h8.2.2.2.2.1 c hc).1
theorem ue_i (h : rm_e Z M) {e b : Nat} (he : e ≤ 200) (hb : b < 4) (d : Int) : rm_e (zj_e Z e (ej_i (ze_ Z e) b d)) (pu_a M 16 (4 * e + b) (Int32.ofInt d)) := by
  intro f hf
  have h8 := h f hf
  by_cases hfe : f = e
  · subst hfe
    unfold zh_
    rw [ze_s]
    refine ⟨h8.1, h8.2.1, h8.2.2.1, h8.2.2.2.1, fun c hc => ⟨(h8.2.2.2.2.1 c hc).1, ?_⟩, h8.2.2.2.2.2.1, h8.2.2.2.2.2.2⟩
    by_cases hcb : c = b
    · subst hcb
      rw [pa_s]
      simp [ej_i, ei_, va_up]
    · rw [pa_n (Or.inr (by omega)), (h8.2.2.2.2.1 c hc).2]
      simp [ej_i, ei_, va_up, hcb]
  · unfold zh_
    rw [ze_n hfe]
    refine ⟨h8.1, h8.2.1, h8.2.2.1, h8.2.2.2.1, fun c hc => ⟨(h8.2.2.2.2.1 c hc).1, ?_⟩, h8.2.2.2.2.2.1, h8.2.2.2.2.2.2⟩
    rw [pa_n (Or.inr (by omega))]
    exact (h8.2.2.2.2.1 c hc).2
theorem ue_o (h : rm_e Z M) {e a b : Nat} (he : e ≤ 200) (ha : a < 4) (hb : b < 4) (d : Int) : rm_e (zj_e Z e (ej_o (ze_ Z e) a b d)) (pu_a M 17 (16 * e + 4 * a + b) (Int32.ofInt (eo_ (ze_ Z e) a b + d))) := by
  intro f hf
  have h8 := h f hf
  by_cases hfe : f = e
  · subst hfe
    unfold zh_
    rw [ze_s]
    refine ⟨h8.1, h8.2.1, h8.2.2.1, h8.2.2.2.1, h8.2.2.2.2.1, fun c1 c2 hc1 hc2 => ?_, h8.2.2.2.2.2.2⟩
    by_cases h1 : c1 = a
    · subst h1
      by_cases h2 : c2 = b
      · subst h2
        rw [pa_s]
        simp [ej_o, eo_, va_up]
      · rw [pa_n (Or.inr (by omega)), h8.2.2.2.2.2.1 c1 c2 hc1 hc2]
        simp [ej_o, eo_, va_up, h2]
    · rw [pa_n (Or.inr (by omega)), h8.2.2.2.2.2.1 c1 c2 hc1 hc2]
      simp [ej_o, eo_, va_up, h1]
  · unfold zh_
    rw [ze_n hfe]
    refine ⟨h8.1, h8.2.1, h8.2.2.1, h8.2.2.2.1, h8.2.2.2.2.1, fun c1 c2 hc1 hc2 => ?_, h8.2.2.2.2.2.2⟩
    rw [pa_n (Or.inr (by omega))]
    exact h8.2.2.2.2.2.1 c1 c2 hc1 hc2
/-- one of the rows 15, 16, 17 is written: all but the entities stays -/
theorem ri_e (h : ri_ Z M) {e k i : Nat} {E : ze_E} {y : Int32} (hk : k = 15 ∨ k = 16 ∨ k = 17) (he : rm_e (zj_e Z e E) (pu_a M k i y)) : ri_ (zj_e Z e E) (pu_a M k i y) := by
  obtain ⟨h1, h2, h3, h4, h5, h6⟩ := h
  have q : ∀ j, j ≠ 15 → j ≠ 16 → j ≠ 17 → (pu_a M k i y).2 j = M.2 j := by
    intro j a1 a2 a3
    refine pa_q ?_
    rcases hk with rfl | rfl | rfl <;> assumption
  refine ⟨fr_n h1 rfl rfl rfl rfl, fr_g h2 rfl ?_ ?_ ?_, he, fr_r h4 rfl rfl ?_ ?_ ?_ ?_ ?_, fr_l h5 rfl rfl ?_ ?_ ?_ ?_ ?_, fr_t h6 rfl ?_ ?_⟩ <;> exact q _ (by decide) (by decide) (by decide)
theorem pm_pack_ok (h : ri_ Z M) {a b e : Nat} (ha : a < 4) (hb : b < 4) (he : e ≤ 200) (hh : zh_ Z e < 4) (hr : (zl_ Z).length < 2100) :
    ∃ M', pm_pack (nI a) (nI b) (nI e) M = some ((), M') ∧ ri_ (z_pack Z a b e) M' ∧ (∀ k, k ≠ 24 → M'.1 k = M.1 k) ∧ M'.2 31 = M.2 31 := by
  unfold pm_pack z_pack
  by_cases h0 : e = 0
  · subst h0
    exact ⟨M, pn_t rfl rfl, by rw [if_pos rfl]; exact h, fun _ _ => rfl, rfl⟩
  · rw [if_neg h0]
    have h8 := h.2.2.1 e he
    have hn0 : ¬ nI e = 0 := nI_ne0 (by omega) (by omega)
    have hi : e < (mr_ 6).2 := by show e < 201; omega
    by_cases h1 : zh_ Z e = a
    · rw [if_pos h1]
      have e4 : (4 : Int32) * nI e + nI b = nI (4 * e + b) := by rw [show (4 : Int32) = nI 4 from rfl, pk_mul, nI_add]
      refine ⟨pu_a M 15 (4 * e + b) (Int32.ofInt (ex_ (ze_ Z e) b + 1)), ?_, ri_e h (Or.inl rfl) (ue_x h.2.2.1 he hb 1), fun _ _ => rfl, pa_q (by decide)⟩
      refine pn_f hn0 (pn_g _ (po_l hi) ?_)
      rw [h8.1, h1]
      refine pn_t rfl ?_
      have hi2 : 4 * e + b < (mr_ 15).2 := by show 4 * e + b < 804; omega
      rw [e4]
      refine pn_g _ (po_l hi2) ?_
      rw [(h8.2.2.2.2.1 b hb).1, oi_1]
      exact pn_w _ (po_s hi2) rfl
    · rw [if_neg h1]
      have hne : ¬ nI (zh_ Z e) = nI a := fun z => h1 ((nI_eq (by omega) (by omega)).mp z)
      by_cases h2 : zh_ Z e = b
      · refine ⟨M, ?_, by rw [if_neg (fun z => z h2)]; exact h, fun _ _ => rfl, rfl⟩
        refine pn_f hn0 (pn_g _ (po_l hi) ?_)
        rw [h8.1]
        exact pn_f hne (pn_t (by rw [h2]) rfl)
      · rw [if_pos h2]
        obtain ⟨M', g1, g2, g3, g4⟩ := pm_post_ok h (kind := 4) (a := a) (b := zh_ Z e) (what := e) (e := 0) (q := 0) (v := nI b) (by omega) ha hh he (by omega) (by omega) hr
        refine ⟨M', ?_, g2, (fun k hk => by rw [g3]; simp [upd, hk]), g4⟩
        refine pn_f hn0 (pn_g _ (po_l hi) ?_)
        rw [h8.1]
        refine pn_f hne (pn_f (fun z => h2 ((nI_eq (by omega) (by omega)).mp z)) ?_)
        have e4 : (4 : Int32) * nI a + nI (zh_ Z e) = nI (4 * a + zh_ Z e) := by rw [show (4 : Int32) = nI 4 from rfl, pk_mul, nI_add]
        rw [e4]
        exact pn_b () g1 rfl
end RME
