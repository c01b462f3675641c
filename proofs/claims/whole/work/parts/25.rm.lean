/-! The reference's picture holds a mathematical state; its programs run forward on pictures. -/
section PRN
variable {α β : Type} {M M1 : ms_S}
theorem pn_g {f : ms_S → Option α} {k : α → pm_M β} {x : β × ms_S} (a : α) (h1 : f M = some a) (h2 : k a M = some x) : pg_ f k M = some x := by rw [pg_, h1]; exact h2
theorem pn_w {f : ms_S → Option ms_S} {k : pm_M β} {x : β × ms_S} (s1 : ms_S) (h1 : f M = some s1) (h2 : k s1 = some x) : pw_ f k M = some x := by rw [pw_, h1]; exact h2
theorem pn_b {f : pm_M α} {k : α → pm_M β} {x : β × ms_S} (a : α) (h1 : f M = some (a, M1)) (h2 : k a M1 = some x) : pb_ f k M = some x := by rw [pb_, h1]; exact h2
theorem pn_t {c : Prop} [Decidable c] {A B : pm_M β} {x : β × ms_S} (hc : c) (h : A M = some x) : (if c then A else B) M = some x := by rw [if_pos hc]; exact h
theorem pn_f {c : Prop} [Decidable c] {A B : pm_M β} {x : β × ms_S} (hc : ¬ c) (h : B M = some x) : (if c then A else B) M = some x := by rw [if_neg hc]; exact h
theorem mr_b (k : Nat) : (mr_ k).2 < 4000 := by
  unfold mr_
  split <;> decide
theorem po_l {k i : Nat} (hi : i < (mr_ k).2) : pl_ k (nI i) M = some (M.2 k i) := by
  have hb := mr_b k
  unfold pl_
  have hc : (nI i).toNatClampNeg = i := nI_clamp (by omega)
  rw [hc, if_pos ⟨nI_pos (by omega), hi⟩]
theorem po_s {k i : Nat} {y : Int32} (hi : i < (mr_ k).2) : ps_ k (nI i) y M = some (pu_a M k i y) := by
  have hb := mr_b k
  unfold ps_
  have hc : (nI i).toNatClampNeg = i := nI_clamp (by omega)
  rw [hc, if_pos ⟨nI_pos (by omega), hi⟩]
theorem pa_s {k i : Nat} {y : Int32} : (pu_a M k i y).2 k i = y := by simp [pu_a, upd]
theorem pa_n {k i j q : Nat} {y : Int32} (h : q ≠ k ∨ j ≠ i) : (pu_a M k i y).2 q j = M.2 q j := by
  unfold pu_a
  by_cases hq : q = k
  · subst hq
    have hj : j ≠ i := h.elim (fun z => absurd rfl z) id
    simp [upd, hj]
  · simp [hq]
theorem pa_1 {k i : Nat} {y : Int32} : (pu_a M k i y).1 = M.1 := rfl
end PRN
/-- a truth as the machine keeps it -/
def bi_ (b : Bool) : Int32 := if b then 1 else 0
def rm_n (Z : zz_S) (M : ms_S) : Prop := M.1 0 = nI (zn_ Z) ∧ M.1 1 = nI (zo_ Z) ∧ M.1 2 = nI (zp_ Z)
def rm_g (Z : zz_S) (M : ms_S) : Prop := ∀ g, g < 8 → M.2 3 g = nI (zg_ Z g).length ∧ ∀ i q, (zg_ Z g)[i]? = some q → M.2 4 (8 * g + i) = q.1 ∧ M.2 5 (8 * g + i) = q.2
def rm_e (Z : zz_S) (M : ms_S) : Prop := ∀ e, e ≤ 200 → M.2 6 e = nI (zh_ Z e) ∧ M.2 7 e = bi_ (eg_ (ze_ Z e)) ∧ M.2 8 e = bi_ (es_ (ze_ Z e)) ∧ M.2 9 e = nI (et_ (ze_ Z e)) ∧
  (∀ b, b < 4 → M.2 15 (4 * e + b) = Int32.ofInt (ex_ (ze_ Z e) b) ∧ M.2 16 (4 * e + b) = Int32.ofInt (ei_ (ze_ Z e) b)) ∧ (∀ a b, a < 4 → b < 4 → M.2 17 (16 * e + 4 * a + b) = Int32.ofInt (eo_ (ze_ Z e) a b)) ∧
  (e ≤ 60 → M.2 11 e = nI (ep_ (ze_ Z e)) ∧ M.2 12 e = en_ (ze_ Z e) ∧ ∀ s, s < 4 → M.2 13 (4 * e + s) = nI (el_ (ze_ Z e) s))
def rm_r (Z : zz_S) (M : ms_S) : Prop := M.1 18 = nI (zr_ Z).length ∧ ∀ k r, (zr_ Z)[k]? = some r → M.2 19 k = nI r.1 ∧ M.2 20 k = nI r.2.1 ∧ M.2 21 k = r.2.2.1 ∧ M.2 22 k = nI r.2.2.2.1 ∧ M.2 23 k = nI r.2.2.2.2
def rm_l (Z : zz_S) (M : ms_S) : Prop := M.1 24 = nI (zl_ Z).length ∧ ∀ k r, (zl_ Z)[k]? = some r → M.2 25 k = nI (16 * r.1 + (4 * r.2.1 + r.2.2.1)) ∧ M.2 26 k = nI r.2.2.2.1 ∧ M.2 27 k = r.2.2.2.2.1 ∧ M.2 28 k = nI r.2.2.2.2.2.1 ∧ M.2 29 k = nI r.2.2.2.2.2.2
def rm_t (Z : zz_S) (M : ms_S) : Prop := ∀ v, v < 4 → M.2 32 v = nI (zt_ Z v).length ∧ ∀ k x, k < 10 → (zt_ Z v)[k]? = some x → M.2 33 (10 * v + ((zt_ Z v).length - 1 - k) % 10) = x
/-- the reference's picture holds Z; nothing is lost between calls -/
def rm_ (Z : zz_S) (M : ms_S) : Prop := rm_n Z M ∧ rm_g Z M ∧ rm_e Z M ∧ rm_r Z M ∧ rm_l Z M ∧ rm_t Z M ∧ M.1 30 = 0
/-- numbers within their bounds -/
def zw_n (Z : zz_S) : Prop := 2 ≤ zn_ Z ∧ zn_ Z ≤ 4 ∧ zn_ Z ≤ zo_ Z ∧ zo_ Z ≤ 60 ∧ zp_ Z ≤ 100 ∧ ∀ g, g < 8 → (zg_ Z g).length ≤ 8
section RMA
variable {Z : zz_S} {M : ms_S}
/-- a number in its bounds, or out of them -/
theorem in_8 (g : Int32) : (∃ j : Nat, j < 8 ∧ g = nI j) ∨ g < 0 ∨ nI 8 ≤ g := by
  rcases pk_ix g (n := 8) (by decide) with h | h | h
  · exact Or.inr (Or.inl h)
  · exact Or.inr (Or.inr h)
  · exact Or.inl h
theorem pm_vat_y (h : rm_n Z M) (hz : zw_n Z) {v : Nat} (hv : v < zn_ Z) : pm_vat (nI v) M = some (1, M) := by
  unfold pm_vat
  have h4 := hz.2.1
  refine pn_f (nI_pos (by omega)) ?_
  refine pn_g _ rfl ?_
  rw [h.1]
  exact pn_f (nI_ge hv (by omega)) rfl
theorem pm_vat_n (h : rm_n Z M) (hz : zw_n Z) {v : Int32} (hv : ∀ j, j < zn_ Z → v ≠ nI j) : pm_vat v M = some (0, M) := by
  unfold pm_vat
  have h4 := hz.2.1
  rcases pk_ix v (n := zn_ Z) (by omega) with h1 | h1 | ⟨j, h1, h2⟩
  · exact pn_t h1 rfl
  · by_cases h0 : v < 0
    · exact pn_t h0 rfl
    · refine pn_f h0 ?_
      refine pn_g _ rfl ?_
      rw [h.1]
      exact pn_t h1 rfl
  · exact absurd h2 (hv j h1)
theorem pm_clear_y (h : rm_ Z M) {g : Nat} (hg : g < 8) : ∃ M', pm_clear (nI g) M = some (1, M') ∧ rm_ (zj_g Z g []) M' := by
  refine ⟨pu_a M 3 g 0, ?_, ?_⟩
  · unfold pm_clear
    refine pn_f (nI_pos (by omega)) ?_
    refine pn_t (show nI g ≤ nI 7 from nI_le (by omega) (by decide)) ?_
    exact pn_w _ (po_s (show g < (mr_ 3).2 from hg)) rfl
  · obtain ⟨h1, h2, h3, h4, h5, h6, h7⟩ := h
    refine ⟨h1, fun k hk => ?_, fun e he => ?_, h4, h5, ?_, h7⟩
    · by_cases hkg : k = g
      · subst hkg
        refine ⟨?_, fun i q hq => ?_⟩
        · rw [pa_s]
          show _ = nI (va_up (zg_ Z) k [] k).length
          simp [va_up]
          rfl
        · simp [zg_, zj_g, va_up] at hq
      · have e0 : zg_ (zj_g Z g []) k = zg_ Z k := by simp [zg_, zj_g, va_up, hkg]
        rw [e0]
        refine ⟨by rw [pa_n (Or.inr hkg)]; exact (h2 k hk).1, fun i q hq => ?_⟩
        rw [pa_n (Or.inl (by decide)), pa_n (Or.inl (by decide))]
        exact (h2 k hk).2 i q hq
    · have h8 := h3 e he
      refine ⟨h8.1, h8.2.1, h8.2.2.1, h8.2.2.2.1, h8.2.2.2.2.1, h8.2.2.2.2.2.1, h8.2.2.2.2.2.2⟩
    · exact h6
theorem pm_clear_n {g : Int32} (hg : g < 0 ∨ nI 8 ≤ g) : pm_clear g M = some (0, M) := by
  unfold pm_clear
  rcases hg with hg | hg
  · exact pn_t hg rfl
  · by_cases h0 : g < 0
    · exact pn_t h0 rfl
    · refine pn_f h0 ?_
      refine pn_f (fun z => ?_) rfl
      have h2 : g ≤ nI 7 := z
      have h3 := Int32.le_iff_toInt_le.mp h2
      have h4 := Int32.le_iff_toInt_le.mp hg
      rw [nI_toInt (by decide)] at h3 h4
      omega
end RMA
