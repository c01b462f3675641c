/-! What is asked: the mathematical answers, and the reference's. -/
/-- the entity that x names; 0 for none -/
def zq_e (Z : zz_S) (x : Int32) : Nat := if 0 ≤ x ∧ zk_made Z x.toNatClampNeg = true then x.toNatClampNeg else 0
def zq_home (Z : zz_S) (x : Int32) : Int32 := if zk_live Z (zq_e Z x) = true then nI (zh_ Z (zq_e Z x)) else -1
def zq_slot (Z : zz_S) (x s : Int32) : Int32 := if zk_live Z (zq_e Z x) = true ∧ zq_e Z x ≤ 60 ∧ 0 ≤ s ∧ s < 4 then nI (el_ (ze_ Z (zq_e Z x)) s.toNatClampNeg) else 0
def zq_number (Z : zz_S) (x : Int32) : Int32 := if zk_live Z (zq_e Z x) = true ∧ zq_e Z x ≤ 60 then en_ (ze_ Z (zq_e Z x)) else 0
def zq_resolved (Z : zz_S) (x : Int32) : Int32 := if zk_live Z (zq_e Z x) = true ∧ 100 < zq_e Z x ∧ es_ (ze_ Z (zq_e Z x)) = true then nI (et_ (ze_ Z (zq_e Z x))) else -1
/-- what x is to a vat -/
def zq_imported (Z : zz_S) (v : Nat) (x : Int32) : Int32 := if zk_made Z (zq_e Z x) = true then Int32.ofInt (ei_ (ze_ Z (zq_e Z x)) v) else 0
def zq_exported (Z : zz_S) (x : Int32) (v : Nat) : Int32 := if zk_live Z (zq_e Z x) = true ∧ zh_ Z (zq_e Z x) ≠ v then Int32.ofInt (ex_ (ze_ Z (zq_e Z x)) v) else 0
def zq_output (Z : zz_S) (v : Nat) (k : Int32) : Int32 := if 0 ≤ k ∧ k < 10 then ((zt_ Z v)[k.toNatClampNeg]?).getD 0 else 0
/-- does e count, in the vat v, for kinds 0 to 3 -/
def zq_c (Z : zz_S) (v k e : Nat) : Bool :=
  if k = 3 then decide (0 < ei_ (ze_ Z e) v) else zk_live Z e && decide (zh_ Z e = v) && ((decide (k = 0) && decide (e ≤ 60)) || (decide (k = 1) && decide (100 < e) && !es_ (ze_ Z e)) || (decide (k = 2) && decide (100 < e) && es_ (ze_ Z e)))
def zq_o (Z : zz_S) (v : Nat) (s : Int) (k : Nat) : Int := if zh_ Z (k / 16) = v ∧ 0 < s * eo_ (ze_ Z (k / 16)) (k / 4 % 4) (k % 4) then s * eo_ (ze_ Z (k / 16)) (k / 4 % 4) (k % 4) else 0
def zq_count (Z : zz_S) (v k : Nat) : Int32 :=
  if k < 4 then nI ((List.range' 1 200).filter (zq_c Z v k)).length
  else if k = 4 then Int32.ofInt ((List.range' 16 3200).map (zq_o Z v 1)).sum
  else if k = 5 then Int32.ofInt ((List.range' 16 3200).map (zq_o Z v (-1))).sum
  else if k = 6 then nI ((zr_ Z).filter (fun r => decide (100 < r.1) && decide (zh_ Z r.1 = v))).length
  else nI (zt_ Z v).length
section RQY
variable {Z : zz_S} {M : ms_S} {v : Nat} {x : Int32}
theorem zq_or (hz : zw_n Z) (x : Int32) : (zk_made Z (zq_e Z x) = true ∧ x = nI (zq_e Z x) ∧ 1 ≤ zq_e Z x ∧ zq_e Z x ≤ 200) ∨ (zq_e Z x = 0 ∧ zk_made Z (zq_e Z x) = false ∧ ∀ e, x = nI e → e ≤ 200 → zk_made Z e = false) := by
  have h0 : zk_made Z 0 = false := by unfold zk_made; simp
  unfold zq_e
  by_cases hc : 0 ≤ x ∧ zk_made Z x.toNatClampNeg = true
  · rw [if_pos hc]
    obtain ⟨j, hj, rfl⟩ := nI_of (x := x) (fun c => n_lt0.mp c hc.1)
    rw [nI_clamp hj] at hc ⊢
    have h1 : j ≠ 0 := fun c => by rw [c, h0] at hc; cases hc.2
    exact Or.inl ⟨hc.2, rfl, by omega, zk_K2 hz (Or.inr hc.2)⟩
  · rw [if_neg hc]
    refine Or.inr ⟨rfl, h0, fun e he h2 => ?_⟩
    cases hm : zk_made Z e with
    | false => rfl
    | true =>
      refine absurd ⟨?_, ?_⟩ hc
      · rw [he]
        exact nI_pos' (by omega)
      · rw [he, nI_clamp (by omega)]
        exact hm
theorem live0 (h : zk_made Z (zq_e Z x) = false) : zk_live Z (zq_e Z x) = false := by unfold zk_live; rw [h]; rfl
theorem pm_lives_q (h : rm_ Z M) (hz : zw_n Z) : pm_lives x M = some (bi_ (zk_live Z (zq_e Z x)), M) ∧ (zk_live Z (zq_e Z x) = true → x = nI (zq_e Z x) ∧ 1 ≤ zq_e Z x ∧ zq_e Z x ≤ 200) := by
  rcases zq_or hz x with ⟨h1, h2, h3, h4⟩ | ⟨h1, h2, h3⟩
  · refine ⟨?_, fun _ => ⟨h2, h3, h4⟩⟩
    conv => lhs; rw [h2]
    exact pm_lives_ok h hz h4
  · have := live0 h2
    refine ⟨?_, fun c => by rw [this] at c; cases c⟩
    rw [this]
    exact pm_lives_n h hz h3
theorem pm_home_ok (h : rm_ Z M) (hz : zw_n Z) : pm_home x M = some (zq_home Z x, M) := by
  obtain ⟨h1, h2⟩ := pm_lives_q (x := x) h hz
  unfold pm_home zq_home
  refine pn_b _ h1 ?_
  cases hl : zk_live Z (zq_e Z x) with
  | false => exact pn_t rfl (by rw [if_neg (by decide)]; rfl)
  | true =>
    obtain ⟨e1, e2, e3⟩ := h2 hl
    generalize zq_e Z x = e at e1 e2 e3
    subst e1
    refine pn_f (by decide) ?_
    refine pn_g _ (po_l (show e < (mr_ 6).2 by show e < 201; omega)) ?_
    rw [(h.2.2.1 e e3).1, if_pos rfl]
    rfl
theorem pm_slot_ok (h : rm_ Z M) (hz : zw_n Z) {s : Int32} : pm_slot x s M = some (zq_slot Z x s, M) := by
  obtain ⟨h1, h2⟩ := pm_lives_q (x := x) h hz
  unfold pm_slot zq_slot pm_slot_b36
  refine pn_b _ h1 ?_
  cases hl : zk_live Z (zq_e Z x) with
  | false => exact pn_t rfl (by rw [if_neg (fun z => by cases z.1)]; rfl)
  | true =>
    obtain ⟨e1, e2, e3⟩ := h2 hl
    generalize zq_e Z x = e at e1 e2 e3
    subst e1
    refine pn_f (by decide) ?_
    by_cases h60 : 60 < e
    · exact pn_t (show nI 60 < nI e from nI_lt h60 (by omega)) (by rw [if_neg (fun z => by omega)]; rfl)
    · refine pn_f (show ¬ nI 60 < nI e from nI_nlt (by omega) (by omega)) ?_
      by_cases hs : s < 0
      · exact pn_t hs (by rw [if_neg (fun z => n_lt0.mp hs z.2.2.1)]; rfl)
      · refine pn_f hs ?_
        by_cases hs3 : (3 : Int32) < s
        · exact pn_t hs3 (by rw [if_neg (fun z => n_3l.mp hs3 z.2.2.2)]; rfl)
        · refine pn_f hs3 ?_
          have hs0 : 0 ≤ s := Classical.byContradiction (fun c => hs (n_lt0.mpr c))
          have hs4 : s < 4 := Classical.byContradiction (fun c => hs3 (n_3l.mpr c))
          rw [if_pos ⟨rfl, by omega, hs0, hs4⟩]
          obtain ⟨j, hj, rfl⟩ := nI_of hs
          have hj4 : j < 4 := (nI_ltI hj (by decide)).mp (show nI j < nI 4 from hs4)
          rw [e4_, nI_clamp hj]
          refine pn_g _ (po_l (show 4 * e + j < (mr_ 13).2 by show _ < 244; omega)) ?_
          rw [((h.2.2.1 e e3).2.2.2.2.2.2 (by omega)).2.2 j hj4]
          rfl
theorem pm_number_ok (h : rm_ Z M) (hz : zw_n Z) : pm_number x M = some (zq_number Z x, M) := by
  obtain ⟨h1, h2⟩ := pm_lives_q (x := x) h hz
  unfold pm_number zq_number pm_number_b23
  refine pn_b _ h1 ?_
  cases hl : zk_live Z (zq_e Z x) with
  | false => exact pn_t rfl (by rw [if_neg (fun z => by cases z.1)]; rfl)
  | true =>
    obtain ⟨e1, e2, e3⟩ := h2 hl
    generalize zq_e Z x = e at e1 e2 e3
    subst e1
    refine pn_f (by decide) ?_
    by_cases h60 : 60 < e
    · exact pn_t (show nI 60 < nI e from nI_lt h60 (by omega)) (by rw [if_neg (fun z => by omega)]; rfl)
    · refine pn_f (show ¬ nI 60 < nI e from nI_nlt (by omega) (by omega)) ?_
      refine pn_g _ (po_l (show e < (mr_ 12).2 by show e < 61; omega)) ?_
      rw [((h.2.2.1 e e3).2.2.2.2.2.2 (by omega)).2.1, if_pos ⟨rfl, by omega⟩]
      rfl
theorem pm_resolved_ok (h : rm_ Z M) (hz : zw_n Z) : pm_resolved x M = some (zq_resolved Z x, M) := by
  obtain ⟨h1, h2⟩ := pm_lives_q (x := x) h hz
  unfold pm_resolved zq_resolved pm_resolved_b32
  refine pn_b _ h1 ?_
  cases hl : zk_live Z (zq_e Z x) with
  | false => exact pn_t rfl (by rw [if_neg (fun z => by cases z.1)]; rfl)
  | true =>
    obtain ⟨e1, e2, e3⟩ := h2 hl
    generalize zq_e Z x = e at e1 e2 e3
    subst e1
    refine pn_f (by decide) ?_
    by_cases h100 : e ≤ 100
    · exact pn_t (show nI e ≤ nI 100 from nI_le h100 (by omega)) (by rw [if_neg (fun z => by omega)]; rfl)
    · refine pn_f (show ¬ nI e ≤ nI 100 from nI_ge (by omega) (by omega)) ?_
      refine pn_g _ (po_l (show e < (mr_ 8).2 by show e < 201; omega)) ?_
      rw [(h.2.2.1 e e3).2.2.1]
      cases hs : es_ (ze_ Z e) with
      | false => exact pn_t rfl (by rw [if_neg (fun z => by cases z.2.2)]; rfl)
      | true =>
        refine pn_f (by decide) ?_
        refine pn_g _ (po_l (show e < (mr_ 9).2 by show e < 201; omega)) ?_
        rw [(h.2.2.1 e e3).2.2.2.1, if_pos ⟨rfl, by omega, rfl⟩]
        rfl
theorem pm_imported_ok (h : rm_ Z M) (hz : zw_n Z) (hv : v < zn_ Z) : pm_imported (nI v) x M = some (zq_imported Z v x, M) := by
  have h4 := hz.2.1
  unfold pm_imported zq_imported pm_imported_b29
  refine pn_b _ (pm_vat_y h.1 hz hv) (pn_f (by decide) ?_)
  rcases zq_or hz x with ⟨k1, k2, k3, k4⟩ | ⟨k1, k2, k3⟩
  · rw [if_pos k1]
    generalize zq_e Z x = e at k1 k2 k3 k4
    subst k2
    refine pn_b _ (pm_made_y h.1 hz k1) (pn_f (by decide) ?_)
    rw [e4_]
    refine pn_g _ (po_l (show 4 * e + v < (mr_ 16).2 by show _ < 804; omega)) ?_
    rw [((h.2.2.1 e k4).2.2.2.2.1 v (by omega)).2]
    rfl
  · rw [if_neg (by rw [k2]; decide)]
    exact pn_b _ (pm_made_n h.1 hz k3) (pn_t rfl rfl)
theorem pm_imported_n {y : Int32} (h0 : pm_vat y M = some (0, M)) : pm_imported y x M = some (0, M) := pn_b _ h0 (pn_t rfl rfl)
theorem pm_exported_ok (h : rm_ Z M) (hz : zw_n Z) (hw : zw_e Z) (hv : v < zn_ Z) : pm_exported x (nI v) M = some (zq_exported Z x v, M) := by
  have h4 := hz.2.1
  obtain ⟨h1, h2⟩ := pm_lives_q (x := x) h hz
  unfold pm_exported zq_exported pm_exported_b39
  refine pn_b _ h1 ?_
  cases hl : zk_live Z (zq_e Z x) with
  | false => exact pn_t rfl (by rw [if_neg (fun z => by cases z.1)]; rfl)
  | true =>
    obtain ⟨e1, e2, e3⟩ := h2 hl
    generalize zq_e Z x = e at e1 e2 e3
    subst e1
    refine pn_f (by decide) ?_
    refine pn_b _ (pm_vat_y h.1 hz hv) (pn_f (by decide) ?_)
    refine pn_g _ (po_l (show e < (mr_ 6).2 by show e < 201; omega)) ?_
    rw [(h.2.2.1 e e3).1]
    by_cases hh : zh_ Z e = v
    · exact pn_t (by rw [hh]) (by rw [if_neg (fun z => z.2 hh)]; rfl)
    · have h44 := (hw e e3).1
      refine pn_f (fun z => hh ((nI_eq (by omega) (by omega)).mp z)) ?_
      rw [e4_]
      refine pn_g _ (po_l (show 4 * e + v < (mr_ 15).2 by show _ < 804; omega)) ?_
      rw [((h.2.2.1 e e3).2.2.2.2.1 v (by omega)).1, if_pos ⟨rfl, hh⟩]
      rfl
theorem pm_exported_n {y : Int32} (h : rm_ Z M) (hz : zw_n Z) (h0 : pm_vat y M = some (0, M)) : pm_exported x y M = some (0, M) := by
  obtain ⟨h1, h2⟩ := pm_lives_q (x := x) h hz
  refine pn_b _ h1 ?_
  cases zk_live Z (zq_e Z x) with
  | false => exact pn_t rfl rfl
  | true => exact pn_f (by decide) (pn_b _ h0 (pn_t rfl rfl))
theorem n_9l {x : Int32} : (9 : Int32) < x ↔ ¬ x < 10 := by
  rw [Int32.lt_iff_toInt_lt, Int32.lt_iff_toInt_lt, show (9 : Int32).toInt = 9 from rfl, show (10 : Int32).toInt = 10 from rfl]
  omega
theorem pm_output_ok (h : rm_ Z M) (hz : zw_n Z) (hv : v < zn_ Z) (ht : (zt_ Z v).length < 100000) {k : Int32} : pm_output (nI v) k M = some (zq_output Z v k, M) := by
  have h4 := hz.2.1
  have hv4 : v < 4 := by omega
  unfold pm_output zq_output pm_output_b28
  refine pn_b _ (pm_vat_y h.1 hz hv) (pn_f (by decide) ?_)
  by_cases hk : k < 0
  · exact pn_t hk (by rw [if_neg (fun z => n_lt0.mp hk z.1)]; rfl)
  · refine pn_f hk ?_
    by_cases hk9 : (9 : Int32) < k
    · exact pn_t hk9 (by rw [if_neg (fun z => n_9l.mp hk9 z.2)]; rfl)
    · refine pn_f hk9 ?_
      have hk0 : 0 ≤ k := Classical.byContradiction (fun c => hk (n_lt0.mpr c))
      have hk10 : k < 10 := Classical.byContradiction (fun c => hk9 (n_9l.mpr c))
      rw [if_pos ⟨hk0, hk10⟩]
      obtain ⟨j, hj, rfl⟩ := nI_of hk
      have hj10 : j < 10 := (nI_ltI hj (by decide)).mp (show nI j < nI 10 from hk10)
      rw [nI_clamp hj]
      have j32 : v < (mr_ 32).2 := by show v < 4; omega
      obtain ⟨r1, r2⟩ := h.2.2.2.2.2.1 v hv4
      refine pn_g _ (po_l j32) ?_
      rw [r1]
      by_cases hjl : j < (zt_ Z v).length
      · refine pn_t (nI_lt hjl (by omega)) ?_
        refine pn_g _ (po_l j32) ?_
        rw [r1]
        have hg : (zt_ Z v)[j]? = some (zt_ Z v)[j] := List.getElem?_eq_getElem hjl
        have hr := r2 j _ hj10 hg
        rw [hg]
        generalize (zt_ Z v)[j] = y at hr
        have e1 : nI (zt_ Z v).length - 1 - nI j = nI ((zt_ Z v).length - 1 - j) := by
          have e2 : nI (zt_ Z v).length = nI ((zt_ Z v).length - 1 - j) + nI j + 1 := by rw [nI_add, nI_1]; congr 1; omega
          rw [e2, Int32.add_sub_cancel, Int32.add_sub_cancel]
        rw [e1, m10_ (by omega), show (10 : Int32) * nI v = nI (10 * v) by rw [show (10 : Int32) = nI 10 from rfl, pk_mul], nI_add]
        refine pn_g _ (po_l (show 10 * v + ((zt_ Z v).length - 1 - j) % 10 < (mr_ 33).2 by show _ < 40; omega)) ?_
        rw [hr]
        rfl
      · refine pn_f (nI_nlt (by omega) (by omega)) ?_
        rw [List.getElem?_eq_none (by omega)]
        rfl
theorem pm_output_n {y k : Int32} (h0 : pm_vat y M = some (0, M)) : pm_output y k M = some (0, M) := pn_b _ h0 (pn_t rfl rfl)
end RQY
