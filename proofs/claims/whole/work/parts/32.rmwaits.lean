/-! The reference's waits: a loop that counts. -/
section RMH
variable {Z Z' : zz_S} {M M' : ms_S}
theorem dr_s {α : Type} {l : List α} {k : Nat} {x : α} (h : l[k]? = some x) : l.drop k = x :: l.drop (k + 1) := by
  obtain ⟨hlt, hx⟩ := List.getElem?_eq_some_iff.mp h
  rw [← hx]
  exact List.drop_eq_getElem_cons hlt
theorem pm_waits_it (h : rm_r Z M) (hl : (zr_ Z).length ≤ 200) (hp : ∀ r ∈ zr_ Z, r.1 < 1000) {t : Nat} (ht : t < 1000) : ∀ (d k c fuel : Nat), (zr_ Z).length - k = d → k ≤ (zr_ Z).length → d < fuel → c ≤ k →
    pt_ (fun rec4 => (fun x : Int32 × Int32 × Int32 => pm_waits_b4 rec4 x.1 x.2.1 x.2.2)) fuel (nI t, nI c, nI k) M = some (nI (c + (((zr_ Z).drop k).filter (fun r => r.1 == t)).length), M) := by
  intro d
  induction d with
  | zero =>
    intro k c fuel hd hk hf hc
    obtain ⟨m, rfl⟩ : ∃ m, fuel = m + 1 := ⟨fuel - 1, by omega⟩
    have hkl : k = (zr_ Z).length := by omega
    show pm_waits_b4 _ (nI t) (nI c) (nI k) M = _
    unfold pm_waits_b4
    refine pn_g _ rfl ?_
    rw [h.1]
    refine pn_t (nI_le (by omega) (by omega)) ?_
    rw [List.drop_eq_nil_of_le (by omega)]
    rfl
  | succ d ih =>
    intro k c fuel hd hk hf hc
    obtain ⟨m, rfl⟩ : ∃ m, fuel = m + 1 := ⟨fuel - 1, by omega⟩
    have hlt : k < (zr_ Z).length := by omega
    have hx : (zr_ Z)[k]? = some (zr_ Z)[k] := List.getElem?_eq_getElem hlt
    have hrow := h.2 k _ hx
    have hpl := hp _ (List.getElem_mem hlt)
    show pm_waits_b4 _ (nI t) (nI c) (nI k) M = _
    unfold pm_waits_b4
    refine pn_g _ rfl ?_
    rw [h.1]
    refine pn_f (nI_ge (by omega) (by omega)) ?_
    refine pn_g _ (po_l (show k < (mr_ 19).2 by show k < 200; omega)) ?_
    rw [hrow.1, dr_s hx, List.filter_cons]
    unfold pm_waits_b29
    by_cases he : (zr_ Z)[k].1 = t
    · refine pn_t (by rw [he]) ?_
      rw [nI_1, nI_1, if_pos (by simp [he])]
      refine (ih (k + 1) (c + 1) m (by omega) (by omega) (by omega) (by omega)).trans ?_
      rw [List.length_cons]
      congr 3
      omega
    · refine pn_f (fun z => he ((nI_eq (by omega) (by omega)).mp z)) ?_
      rw [nI_1, if_neg (by simp [he])]
      exact ih (k + 1) c m (by omega) (by omega) (by omega) (by omega)
theorem pm_waits_ok (h : rm_r Z M) (hl : (zr_ Z).length ≤ 200) (hp : ∀ r ∈ zr_ Z, r.1 < 1000) {t : Nat} (ht : t < 1000) : pm_waits (nI t) M = some (nI (z_waits Z t), M) := by
  unfold pm_waits
  have := pm_waits_it h hl hp ht ((zr_ Z).length - 0) 0 0 fu_ rfl (Nat.zero_le _) (by unfold fu_; omega) (by omega)
  rw [Nat.zero_add, List.drop_zero] at this
  exact this
end RMH
