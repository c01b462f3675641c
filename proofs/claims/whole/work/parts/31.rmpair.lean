/-! The reference's pair, waits. -/
theorem oi_t {x : Int} (h1 : -1000000 < x) (h2 : x < 1000000) : (Int32.ofInt x).toInt = x := by
  rw [Int32.toInt_ofInt]
  have hs : (Int32.size : Int) = 4294967296 := rfl
  rw [Int.bmod_eq_of_le (by omega) (by omega)]
theorem oi_le0 {x : Int} (h1 : -1000000 < x) (h2 : x < 1000000) : Int32.ofInt x ≤ 0 ↔ x ≤ 0 := by
  rw [Int32.le_iff_toInt_le, oi_t h1 h2]
  simp
theorem oi_0le {x : Int} (h1 : -1000000 < x) (h2 : x < 1000000) : 0 ≤ Int32.ofInt x ↔ 0 ≤ x := by
  rw [Int32.le_iff_toInt_le, oi_t h1 h2]
  simp
section RMG
variable {Z Z' : zz_S} {M M' : ms_S}
theorem pm_pair_b50_ok (h : ri_ Z M) {a b e : Nat} (ha : a < 4) (hb : b < 4) (he : e ≤ 200) {d : Int} {y : Int32} (hd : y = Int32.ofInt d) (w : Bool) :
    ∃ M', pm_pair_b50 (nI b) (nI e) y (nI (16 * e + 4 * a + b)) (bi_ w) M = some ((), M') ∧ ri_ (zj_e Z e (if w = true then ej_x (ej_o (ze_ Z e) a b d) b 1 else ej_o (ze_ Z e) a b d)) M' ∧ M'.1 = M.1 := by
  have h8 := h.2.2.1 e he
  have hi : 16 * e + 4 * a + b < (mr_ 17).2 := by show _ < 3216; omega
  have hi2 : 4 * e + b < (mr_ 15).2 := by show 4 * e + b < 804; omega
  have e4 : (4 : Int32) * nI e + nI b = nI (4 * e + b) := by rw [show (4 : Int32) = nI 4 from rfl, pk_mul, nI_add]
  have hM1 := ri_e h (Or.inr (Or.inr rfl)) (ue_o h.2.2.1 he ha hb d)
  have eadd : M.2 17 (16 * e + 4 * a + b) + y = Int32.ofInt (eo_ (ze_ Z e) a b + d) := by
    rw [h8.2.2.2.2.2.1 a b ha hb, hd, Int32.ofInt_add]
  cases w with
  | false =>
    refine ⟨pu_a M 17 (16 * e + 4 * a + b) (Int32.ofInt (eo_ (ze_ Z e) a b + d)), ?_, hM1, rfl⟩
    unfold pm_pair_b50
    refine pn_g _ (po_l hi) ?_
    rw [eadd]
    exact pn_w _ (po_s hi) (pn_t rfl rfl)
  | true =>
    have hx := ue_x hM1.2.2.1 he hb 1
    have hM2 := ri_e hM1 (Or.inl rfl) hx
    rw [ze_s] at hM2
    refine ⟨pu_a (pu_a M 17 (16 * e + 4 * a + b) (Int32.ofInt (eo_ (ze_ Z e) a b + d))) 15 (4 * e + b) (Int32.ofInt (ex_ (ej_o (ze_ Z e) a b d) b + 1)), ?_, ?_, rfl⟩
    · unfold pm_pair_b50
      refine pn_g _ (po_l hi) ?_
      rw [eadd]
      refine pn_w _ (po_s hi) (pn_f (by decide) ?_)
      rw [e4]
      refine pn_g _ (po_l hi2) ?_
      rw [pa_q (by decide), (h8.2.2.2.2.1 b hb).1, oi_1]
      exact pn_w _ (po_s hi2) rfl
    · have e9 : zj_e (zj_e Z e (ej_o (ze_ Z e) a b d)) e (ej_x (ej_o (ze_ Z e) a b d) b 1) = zj_e Z e (ej_x (ej_o (ze_ Z e) a b d) b 1) := by
        unfold zj_e ze_
        simp only [Prod.mk.injEq, true_and, and_true]
        funext f
        by_cases hf : f = e
        · simp [va_up, hf]
        · simp [va_up, hf]
      rw [e9] at hM2
      exact hM2
theorem pm_pair_ok (h : ri_ Z M) {a b e : Nat} (ha : a < 4) (hb : b < 4) (he : e ≤ 200) (ho1 : -1000000 < eo_ (ze_ Z e) a b) (ho2 : eo_ (ze_ Z e) a b < 1000000) {d : Int} (hd : d = 1 ∨ d = -1) :
    ∃ M', pm_pair (nI a) (nI b) (nI e) (Int32.ofInt d) M = some ((), M') ∧ ri_ (z_pair Z a b e d) M' ∧ M'.1 = M.1 := by
  have h8 := h.2.2.1 e he
  have hi : 16 * e + 4 * a + b < (mr_ 17).2 := by show _ < 3216; omega
  have e16 : ((16 : Int32) * nI e + (4 : Int32) * nI a) + nI b = nI (16 * e + 4 * a + b) := by
    rw [show (16 : Int32) = nI 16 from rfl, show (4 : Int32) = nI 4 from rfl, pk_mul, pk_mul, nI_add, nI_add]
  unfold pm_pair z_pair
  rcases hd with rfl | rfl
  · obtain ⟨M', g1, g2, g3⟩ := pm_pair_b50_ok h ha hb he (d := 1) (y := Int32.ofInt 1) rfl (decide (eo_ (ze_ Z e) a b < 0))
    refine ⟨M', ?_, ?_, g3⟩
    · refine pn_f (by decide) ?_
      rw [e16]
      refine pn_g _ (po_l hi) ?_
      rw [h8.2.2.2.2.2.1 a b ha hb]
      by_cases hc : eo_ (ze_ Z e) a b < 0
      · refine pn_f (fun z => ?_) ?_
        · have := (oi_0le ho1 ho2).mp z
          omega
        · rw [decide_eq_true hc] at g1
          exact g1
      · refine pn_t ((oi_0le ho1 ho2).mpr (by omega)) ?_
        rw [decide_eq_false hc] at g1
        exact g1
    · have e5 : ((0 < (1 : Int) ∧ eo_ (ze_ Z e) a b < 0) ∨ ((1 : Int) < 0 ∧ 0 < eo_ (ze_ Z e) a b)) ↔ decide (eo_ (ze_ Z e) a b < 0) = true := by
        simp
      simp only [e5]
      exact g2
  · obtain ⟨M', g1, g2, g3⟩ := pm_pair_b50_ok h ha hb he (d := -1) (y := Int32.ofInt (-1)) rfl (decide (0 < eo_ (ze_ Z e) a b))
    refine ⟨M', ?_, ?_, g3⟩
    · refine pn_t (by decide) ?_
      rw [e16]
      refine pn_g _ (po_l hi) ?_
      rw [h8.2.2.2.2.2.1 a b ha hb]
      by_cases hc : 0 < eo_ (ze_ Z e) a b
      · refine pn_f (fun z => ?_) ?_
        · have := (oi_le0 ho1 ho2).mp z
          omega
        · rw [decide_eq_true hc] at g1
          exact g1
      · refine pn_t ((oi_le0 ho1 ho2).mpr (by omega)) ?_
        rw [decide_eq_false hc] at g1
        exact g1
    · have e5 : ((0 < (-1 : Int) ∧ eo_ (ze_ Z e) a b < 0) ∨ ((-1 : Int) < 0 ∧ 0 < eo_ (ze_ Z e) a b)) ↔ decide (0 < eo_ (ze_ Z e) a b) = true := by
        simp
      simp only [e5]
      exact g2
end RMG
